import java.lang.reflect.Array;
import java.util.ArrayList;
import java.util.List;
import java.util.NoSuchElementException;
import java.util.Random;
import java.util.TreeMap;
import java.util.regex.Matcher;
import java.util.regex.Pattern;

/**
 * Random runs of calls against a model written another way: ROWS are the machine's own arrays, read and written
 * by java.lang.reflect.Array, FRAMES are objects in lists, and waits() plays a copy of the whole run again.
 */
public final class RandomRuns {
    private static final int RUNS = 1500;
    private static final int CALLS = 512;

    public static void main(String[] args) {
        int runs = args.length > 0 ? Integer.parseInt(args[0]) : RUNS;
        int first = args.length > 1 ? Integer.parseInt(args[1]) : 1;
        int wrong = 0;
        for (int seed = first; seed < first + runs && wrong < 3; seed++) {
            if (!new Run(seed).agrees()) wrong++;
        }
        System.out.println("RandomRuns: " + runs + " runs of " + CALLS + " calls, " + wrong + " wrong");
        StringBuilder counts = new StringBuilder();
        SEEN.forEach((name, n) -> counts.append(' ').append(name).append('=').append(n));
        if (args.length > 0) System.out.println(counts);
        if (wrong != 0) System.exit(1);
    }

    private static final TreeMap<String, Integer> SEEN = new TreeMap<>();

    private static void seen(String name) {
        SEEN.merge(name, 1, Integer::sum);
    }

    /** What a call answered: a number, or the exception's name. */
    private static String shown(Model m, MendedProgram x, String name, long[] a) {
        try {
            return String.valueOf(m != null ? callModel(m, name, a) : callProgram(x, name, a));
        } catch (RuntimeException e) {
            if (m != null && e.getClass() != NoSuchElementException.class
                    && e.getClass() != IllegalArgumentException.class
                    && e.getClass() != IllegalStateException.class) {
                throw e;
            }
            return "throws " + e.getClass().getSimpleName();
        }
    }

    private static long callProgram(MendedProgram x, String name, long[] l) {
        int[] a = new int[l.length];
        for (int i = 0; i < l.length; i++) a[i] = (int) l[i];
        switch (name) {
            case "feed": return x.feed(a[0], a[1], a[2], a[3], a[4]);
            case "function": return x.function(a[0], a[1]);
            case "patch": return x.patch(a[0]);
            case "fault": return x.fault();
            case "datum": return x.datum(a[0], a[1], a[2]);
            case "start": return x.start(a[0], a[1]);
            case "step": return x.step(a[0]);
            case "go": return x.go(a[0]);
            case "enable": return x.enable(a[0]);
            case "disable": return x.disable();
            case "reverse": return x.reverse();
            case "force": return x.force();
            case "kill": return x.kill(a[0]);
            case "told": return x.told(a[0]);
            case "task": return x.task(a[0], a[1]);
            case "number": return x.number(a[0]);
            case "frame": return x.frame(a[0], a[1], a[2]);
            case "stuck": return x.stuck(a[0]);
            case "calls": return x.calls(a[0], a[1]);
            case "entry": return x.entry(a[0]);
            case "patchOf": return x.patchOf(a[0], a[1]);
            case "datumOf": return x.datumOf(a[0], a[1]);
            case "shadowOf": return x.shadowOf(a[0], a[1], a[2]);
            case "cell": return x.cell(a[0], a[1], a[2]);
            case "get": return x.get(a[0], a[1], a[2]);
            case "set": return x.set(a[0], a[1], a[2], a[3]);
            case "move": return x.move(a[0], a[1], a[2], a[3]);
            case "shape": return x.shape(a[0], a[1], a[2]);
            case "keep": return x.keep(a[0], a[1], a[2]);
            case "shapes": return x.shapes(a[0]);
            case "same": return x.same(a[0], a[1]);
            case "waits": return x.waits();
            case "deepest": return x.deepest();
            case "status": return x.status(a[0]);
            default: throw new AssertionError(name);
        }
    }

    private static long callModel(Model m, String name, long[] l) {
        int[] a = new int[l.length];
        for (int i = 0; i < l.length; i++) a[i] = (int) l[i];
        m.history.add(new Call(name, l));
        return m.answer(name, a);
    }

    private record Call(String name, long[] args) { }

    // ---- one run ----

    private static final class Run {
        final Random r;
        final int seed;
        final MendedProgram x = new MendedProgram();
        final Model m = new Model();
        final List<String> log = new ArrayList<>();
        int made;
        boolean right = true;

        Run(int seed) {
            this.seed = seed;
            this.r = new Random(seed);
        }

        boolean agrees() {
            for (int d = 0; d < 10; d++) {
                if (r.nextInt(4) > 0) laidDatum(d);
            }
            for (int f = 0; f < 12; f++) {
                if (r.nextInt(3) > 0) text("function", f, code(1 + r.nextInt(6)));
            }
            for (int p = 1 + r.nextInt(5); p > 0; p--) text("patch", 0, patchText());
            while (made < CALLS && right) someCall();
            if (!right) {
                System.out.println("seed " + seed + ":");
                for (String line : log) System.out.println("  " + line);
            }
            return right;
        }

        long call(String name, long... args) {
            if (made >= CALLS || !right) return 0;
            made++;
            String want = shown(m, null, name, args);
            String got = shown(null, x, name, args);
            StringBuilder line = new StringBuilder(name).append('(');
            for (int i = 0; i < args.length; i++) line.append(i > 0 ? ", " : "").append(args[i]);
            line.append(") answered ").append(got);
            if (!want.equals(got)) {
                right = false;
                line.append(", due is ").append(want);
            }
            seen(name + (want.startsWith("throws") ? "!" : ""));
            log.add(line.toString());
            return want.startsWith("throws") ? Long.MIN_VALUE : Long.parseLong(want);
        }

        void text(String name, int function, String text) {
            if (r.nextInt(12) == 0 && !text.isEmpty()) text = spoilt(text);
            if (m.tape.length() > 0) call("function", r.nextInt(12), m.tape.length());
            log.add("text '" + text + "'");
            for (int at = 0; at < text.length(); at += 20) {
                long[] five = new long[5];
                for (int i = 0; i < 20; i++) {
                    int sign = at + i < text.length() ? text.charAt(at + i) : 32;
                    five[i / 4] |= (long) sign << 24 - 8 * (i % 4);
                }
                call("feed", (int) five[0], (int) five[1], (int) five[2], (int) five[3], (int) five[4]);
            }
            int n = Math.min(text.length(), m.tape.length());
            if (r.nextInt(30) == 0) n += r.nextInt(5) - 2;
            long answer = name.equals("patch") ? call("patch", n) : call("function", function, n);
            if (answer < 0) {
                seen(name + ".fault" + (answer == Long.MIN_VALUE ? "!" : answer + 10));
                call("fault");
            }
        }

        String spoilt(String text) {
            int at = r.nextInt(text.length());
            String signs = "  abit00115599;;{}.-xA\u00ff";
            String sign = "" + signs.charAt(r.nextInt(signs.length()));
            if (r.nextInt(3) == 0) return text.replaceFirst("([0-9])( *[;.{])", "$1" + (char) ('0' + r.nextInt(10)) + "$2");
            switch (r.nextInt(4)) {
                case 0: return text.substring(0, at) + text.substring(at + 1);
                case 1: return text.substring(0, at) + sign + text.substring(at);
                case 2: return text.substring(0, at) + sign + text.substring(at + 1);
                default: return text.substring(0, at);
            }
        }

        void laidDatum(int d) {
            int kind = r.nextInt(14) - (r.nextInt(20) == 0 ? 1 : 0);
            call("datum", d, kind, kind >= 11 ? r.nextInt(8) == 0 ? 1 : 0 : r.nextInt(20) == 0 ? 10 : r.nextInt(5));
        }

        String kind(int kinds) {
            return "" + "zbcsijfdtna".charAt(r.nextInt(kinds));
        }

        int d() {
            return r.nextInt(5) == 0 ? r.nextInt(10) : r.nextInt(4);
        }

        String x() {
            return d() + (r.nextInt(3) == 0 ? "." + r.nextInt(3) : "");
        }

        int v() {
            int[] big = {0, 1, -1, 127, 128, 300, 32767, 32768, 40000, 65535, 65536, 70000, 99999};
            int v = big[r.nextInt(big.length)];
            return r.nextInt(3) == 0 ? -v : v;
        }

        int p() {
            return r.nextInt(8) == 0 ? r.nextInt(10) : r.nextInt(3);
        }

        String deed() {
            switch (r.nextInt(30)) {
                case 0: case 1: case 2: case 3: case 4: return "call " + r.nextInt(12);
                case 5: return "ret";
                case 6: return "back";
                case 7: case 8: return "rest " + (r.nextInt(10) == 0 ? r.nextInt(101) : r.nextInt(4));
                case 9: case 10: return "skip " + r.nextInt(4);
                case 11: return "blur";
                case 12: return "clear";
                case 13: case 14: return "take " + kind(8) + " " + v();
                case 15: return "text " + "abcdefg".substring(r.nextInt(7));
                case 16: return "none";
                case 17: case 18: return "get " + kind(8) + " " + x() + " " + p();
                case 19: case 20: return "set " + kind(8) + " " + x() + " " + p() + " " + v();
                case 21: case 22: return "box " + x() + " " + p();
                case 23: case 24: return "put " + x() + " " + p();
                case 25: return "make " + d() + " " + r.nextInt(3) + " " + kind(11) + " " + p();
                case 26: return "free " + d() + " " + r.nextInt(3);
                case 27: return "shape " + d() + " " + kind(11) + " " + p();
                case 28: return "keep " + d() + " " + r.nextInt(3);
                default: return "lift " + d() + " " + r.nextInt(3);
            }
        }

        String blank() {
            return r.nextInt(15) == 0 ? "  " : "";
        }

        String code(int deeds) {
            StringBuilder b = new StringBuilder();
            if (r.nextInt(40) == 0) {
                for (int i = 0; i < 24 + r.nextInt(2); i++) b.append("ret;");
            }
            for (int i = 0; i < deeds; i++) {
                b.append(blank()).append(deed().replace(" ", r.nextInt(10) == 0 ? "  " : " ")).append(blank()).append(';');
            }
            return b.append(blank()).toString();
        }

        String patchText() {
            StringBuilder b = new StringBuilder();
            if (r.nextInt(4) == 0) b.append("all ");
            int funcs = r.nextInt(20) == 0 ? 9 : 1 + r.nextInt(3);
            int f = r.nextInt(12);
            for (int i = 0; i < funcs; i++) {
                b.append("func ").append(f % 12).append('{').append(code(r.nextInt(4))).append('}').append(blank());
                f += r.nextInt(12) == 0 ? 0 : 1;
            }
            for (String word : new String[] {"begin", "done", "undone"}) {
                if (r.nextInt(2) == 0) b.append(word).append(blank()).append('{').append(code(r.nextInt(4))).append('}');
            }
            return b.substring(0, Math.min(b.length(), 500));
        }

        int one(int count) {
            if (r.nextInt(25) > 0) return r.nextInt(count);
            int[] far = {Integer.MIN_VALUE, Integer.MAX_VALUE, -1 << 16, 1 << 30, count, -1};
            return r.nextInt(3) == 0 ? far[r.nextInt(far.length)] : r.nextInt(count + 4) - 2;
        }

        /** A TASK that is busy, or is not, as the call has use for. */
        int taskOf(boolean busy) {
            int t = r.nextInt(6);
            if (r.nextInt(20) == 0) return one(6);
            for (int i = 0; i < 6; i++) {
                if (m.tasks[(t + i) % 6].frames.isEmpty() != busy) return (t + i) % 6;
            }
            return t;
        }

        void someCall() {
            switch (r.nextInt(46)) {
                case 0: if (r.nextInt(4) == 0) text("function", one(12), code(r.nextInt(6))); break;
                case 1: if (r.nextInt(4) == 0) text("patch", 0, patchText()); break;
                case 2: call("fault"); break;
                case 3: if (r.nextInt(3) == 0) laidDatum(one(10)); break;
                case 4: case 5: case 6: call("start", taskOf(false), one(12)); break;
                case 7: case 8: case 9: case 10: call("step", taskOf(true)); break;
                case 11: case 12: case 13: call("go", r.nextInt(10) == 0 ? r.nextInt(64) - 1 : 1 + r.nextInt(4)); break;
                case 14: case 15: if (m.turning < 0 || r.nextInt(5) == 0) call("enable", one(Math.max(1, m.patches.size()))); break;
                case 16: if (m.turning < 0 || r.nextInt(5) == 0) call("disable"); break;
                case 17: if (m.turning >= 0 || r.nextInt(5) == 0) call("reverse"); break;
                case 18: if (r.nextInt(3) == 0) call("force"); break;
                case 19: if (r.nextInt(2) == 0) call("kill", taskOf(true)); break;
                case 20: case 21: case 22: call("told", one(15)); break;
                case 23: case 24: call("task", one(6), one(7)); break;
                case 25: call("number", one(6)); break;
                case 26: case 27: call("frame", taskOf(true), one(3), one(4)); break;
                case 28: call("stuck", taskOf(true)); break;
                case 29: call("calls", one(6), one(12)); break;
                case 30: call("entry", one(12)); break;
                case 31: call("patchOf", one(Math.max(1, m.patches.size())), one(5)); break;
                case 32: call("datumOf", one(10), one(3)); break;
                case 33: call("shadowOf", one(10), one(5), one(2)); break;
                case 34: call("cell", one(10), r.nextInt(7) - 1, one(4)); break;
                case 35: call("get", one(8), d(), one(5)); break;
                case 36: call("set", one(8), d(), one(5), r.nextInt(20) == 0 ? 100000 : v()); break;
                case 37: call("move", d(), one(4), d(), one(4)); break;
                case 38: call("shape", d(), one(11), one(5)); break;
                case 39: call("keep", one(10), one(5), one(2)); break;
                case 40: call("shapes", one(10)); break;
                case 41: call("same", one(10), one(10)); break;
                case 42: call("waits"); break;
                case 43: call("deepest"); break;
                case 44: call("status", r.nextInt(5) - 1); break;
                default: look(); break;
            }
        }

        /** All that can be asked of what stands. */
        void look() {
            if (r.nextInt(12) > 0) return;
            for (int what = 0; what < 15; what++) call("told", what);
            for (int t = 0; t < 6; t++) {
                for (int what = 0; what < 7; what++) call("task", t, what);
                call("number", t);
                call("stuck", t);
            }
        }
    }

    // ---- the model ----

    private static final class Fault extends RuntimeException {
        final int kind;
        final int place;

        Fault(int kind, int place) {
            super("fault", null, false, false);
            this.kind = kind;
            this.place = place;
        }
    }

    private record Deed(String word, List<Object> parts) {
        int part(int i) {
            return (Integer) parts.get(i);
        }
    }

    private static final class ModelPatch {
        boolean all;
        final TreeMap<Integer, List<Deed>> funcs = new TreeMap<>();
        final TreeMap<String, List<Deed>> ends = new TreeMap<>();
        int enabled;
    }

    private static final class Frame {
        int function;
        int patch;
        List<Deed> code;
        int at;
        boolean blurred;
    }

    private static final class ModelTask {
        final ArrayList<Frame> frames = new ArrayList<>();
        Object value;
        int trap;
        int rests;
        int forced;
        int deeds;
        boolean turned;
    }

    private static final class Scan {
        private static final Pattern WORD = Pattern.compile(" *([a-z]+)");
        private static final Pattern DIGITS = Pattern.compile(" *([0-9]+)");
        private static final List<String> FORMS = List.of("call F", "ret", "back", "rest N", "skip N", "blur", "clear",
                "take k V", "text T", "none", "get k X P", "set k X P V", "box X P", "put X P", "make D M K P",
                "free D M", "shape D K P", "keep D M", "lift D M");
        final String text;
        int at;

        Scan(String text) {
            this.text = text;
        }

        int next() {
            int i = at;
            while (i < text.length() && text.charAt(i) == ' ') i++;
            return i;
        }

        Fault bad() {
            return new Fault(1, next());
        }

        String peekWord() {
            Matcher w = WORD.matcher(text).region(at, text.length());
            return w.lookingAt() ? w.group(1) : "";
        }

        boolean word(String word) {
            if (!peekWord().equals(word)) return false;
            at = next() + word.length();
            return true;
        }

        boolean sign(char sign) {
            int i = next();
            if (i >= text.length() || text.charAt(i) != sign) return false;
            at = i + 1;
            return true;
        }

        void need(char sign) {
            if (!sign(sign)) throw bad();
        }

        int digits(int most) {
            Matcher n = DIGITS.matcher(text).region(at, text.length());
            if (!n.lookingAt()) throw bad();
            java.math.BigInteger value = new java.math.BigInteger(n.group(1));
            if (value.compareTo(java.math.BigInteger.valueOf(most)) > 0) throw new Fault(2, n.start(1));
            at = n.end();
            return value.intValue();
        }

        void part(String form, List<Object> parts) {
            switch (form) {
                case "F": parts.add(digits(11)); return;
                case "N": parts.add(digits(99)); return;
                case "D": case "P": parts.add(digits(9)); return;
                case "M": parts.add(digits(4)); return;
                case "V": {
                    boolean minus = sign('-');
                    int v = digits(99999);
                    parts.add(minus ? -v : v);
                    return;
                }
                case "X": {
                    parts.add(digits(9));
                    parts.add(sign('.') ? digits(4) : -1);
                    return;
                }
                case "T": {
                    String w = peekWord();
                    if (w.length() < 1 || w.length() > 6) throw bad();
                    word(w);
                    parts.add(w);
                    return;
                }
                default: {
                    String letters = form.equals("k") ? "zbcsijfd" : "zbcsijfdtna";
                    String w = peekWord();
                    if (w.length() != 1 || !letters.contains(w)) throw bad();
                    word(w);
                    parts.add(letters.indexOf(w));
                }
            }
        }

        List<Deed> code(boolean braces) {
            List<Deed> code = new ArrayList<>();
            while (true) {
                if (braces ? sign('}') : next() == text.length()) return code;
                String w = peekWord();
                String form = FORMS.stream().filter(f -> f.split(" ")[0].equals(w)).findAny().orElseThrow(this::bad);
                if (code.size() == 24) throw new Fault(3, next());
                word(w);
                List<Object> parts = new ArrayList<>();
                String[] forms = form.split(" ");
                for (int i = 1; i < forms.length; i++) part(forms[i], parts);
                need(';');
                code.add(new Deed(w, parts));
            }
        }

        ModelPatch patch() {
            ModelPatch p = new ModelPatch();
            p.all = word("all");
            while (peekWord().equals("func")) {
                if (p.funcs.size() == 8) throw new Fault(3, next());
                word("func");
                int place = next();
                int f = digits(11);
                if (p.funcs.containsKey(f)) throw new Fault(4, place);
                need('{');
                p.funcs.put(f, code(true));
            }
            if (p.funcs.isEmpty()) throw bad();
            for (String end : List.of("begin", "done", "undone")) {
                p.ends.put(end, List.of());
                if (word(end)) {
                    need('{');
                    p.ends.put(end, code(true));
                }
            }
            if (next() != text.length()) throw bad();
            return p;
        }
    }

    private static final class Model {
        static final Class<?>[] TYPES = {boolean.class, byte.class, char.class, short.class, int.class, long.class,
            float.class, double.class, String.class, Integer.class, Object.class};
        final List<Call> history = new ArrayList<>();
        final StringBuilder tape = new StringBuilder();
        final List<List<Deed>> functions = new ArrayList<>();
        final List<ModelPatch> patches = new ArrayList<>();
        final List<Integer> stack = new ArrayList<>();
        final Object[] data = new Object[10];
        final Object[][] shadows = new Object[10][5];
        final ModelTask[] tasks = new ModelTask[6];
        final int[] refused = new int[3];
        int fault = -1;
        int turning = -1;
        boolean on;
        int ticks;
        int overs;
        int traps;
        int patchTraps;

        Model() {
            for (int f = 0; f < 12; f++) functions.add(List.of());
            for (int t = 0; t < 6; t++) tasks[t] = new ModelTask();
        }

        void element(boolean there) {
            if (!there) {
                refused[0]++;
                throw new NoSuchElementException();
            }
        }

        void argument(boolean right) {
            if (!right) {
                refused[1]++;
                throw new IllegalArgumentException();
            }
        }

        void state(boolean right) {
            if (!right) {
                refused[2]++;
                throw new IllegalStateException();
            }
        }

        static boolean in(int i, int from, int to) {
            return i >= from && i <= to;
        }

        long answer(String name, int[] a) {
            switch (name) {
                case "feed": {
                    if (tape.length() > 480) return -1;
                    for (int n : a) {
                        for (int i = 3; i >= 0; i--) tape.append((char) (n >>> 8 * i & 255));
                    }
                    return tape.length();
                }
                case "function": {
                    element(in(a[0], 0, 11));
                    argument(in(a[1], 0, tape.length()));
                    for (ModelTask t : tasks) state(t.frames.isEmpty());
                    String text = tape.substring(0, a[1]);
                    tape.setLength(0);
                    try {
                        List<Deed> code = new Scan(text).code(false);
                        fault = -1;
                        functions.set(a[0], code);
                        return code.size();
                    } catch (Fault f) {
                        fault = f.place;
                        return f.kind - 10;
                    }
                }
                case "patch": {
                    argument(in(a[0], 0, tape.length()));
                    state(patches.size() < 8);
                    String text = tape.substring(0, a[0]);
                    tape.setLength(0);
                    try {
                        patches.add(new Scan(text).patch());
                        fault = -1;
                        return patches.size() - 1;
                    } catch (Fault f) {
                        fault = f.place;
                        return f.kind - 10;
                    }
                }
                case "fault": return fault;
                case "datum": {
                    element(in(a[0], 0, 9));
                    argument(in(a[1], 0, 12));
                    argument(in(a[2], 0, a[1] > 10 ? 0 : 9));
                    data[a[0]] = a[1] == 12 ? null : a[1] == 11 ? new Object() : Array.newInstance(TYPES[a[1]], a[2]);
                    shadows[a[0]] = new Object[5];
                    return answer("told", new int[] {12});
                }
                case "start": {
                    element(in(a[0], 0, 5) && in(a[1], 0, 11));
                    state(tasks[a[0]].frames.isEmpty());
                    tasks[a[0]].value = null;
                    push(tasks[a[0]], a[1]);
                    return tasks[a[0]].frames.get(0).patch;
                }
                case "step": {
                    element(in(a[0], 0, 5));
                    state(!tasks[a[0]].frames.isEmpty());
                    act(tasks[a[0]]);
                    look();
                    return tasks[a[0]].trap;
                }
                case "go": {
                    argument(in(a[0], 1, 60));
                    int before = traps;
                    for (int i = 0; i < a[0]; i++) tick();
                    return traps - before;
                }
                case "enable": {
                    element(in(a[0], 0, patches.size() - 1));
                    state(turning < 0 && !stack.contains(a[0]));
                    patches.get(a[0]).enabled++;
                    perform(patches.get(a[0]).ends.get("begin"));
                    stack.add(a[0]);
                    turning = a[0];
                    on = true;
                    for (ModelTask t : tasks) t.turned = false;
                    look();
                    return unturned().size();
                }
                case "disable": {
                    state(turning < 0 && !stack.isEmpty());
                    turning = stack.get(stack.size() - 1);
                    on = false;
                    for (ModelTask t : tasks) t.turned = true;
                    look();
                    return unturned().size();
                }
                case "reverse": {
                    state(turning >= 0);
                    seen(on ? "reverse.on" : "reverse.off");
                    on = !on;
                    look();
                    return unturned().size();
                }
                case "force": {
                    state(turning >= 0);
                    int bits = 0;
                    for (ModelTask t : unturned()) {
                        bits |= 1 << List.of(tasks).indexOf(t);
                        t.forced++;
                        t.turned = on;
                    }
                    look();
                    return bits;
                }
                case "kill": {
                    element(in(a[0], 0, 5));
                    int had = tasks[a[0]].frames.size();
                    tasks[a[0]].frames.clear();
                    tasks[a[0]].rests = 0;
                    look();
                    return had;
                }
                default: return asked(name, a);
            }
        }

        long asked(String name, int[] a) {
            switch (name) {
                case "told": argument(in(a[0], 0, 14)); return told(a[0]);
                case "task": {
                    element(in(a[0], 0, 5));
                    argument(in(a[1], 0, 6));
                    ModelTask t = tasks[a[0]];
                    return new int[] {t.frames.size(), t.trap, kindOf(t.value), t.rests,
                        turning >= 0 && t.turned ? 1 : 0, t.forced, t.deeds}[a[1]];
                }
                case "number": element(in(a[0], 0, 5)); return told(tasks[a[0]].value);
                case "frame": {
                    element(in(a[0], 0, 5));
                    List<Frame> frames = tasks[a[0]].frames;
                    element(in(a[1], 0, frames.size() - 1));
                    argument(in(a[2], 0, 3));
                    Frame f = frames.get(frames.size() - 1 - a[1]);
                    return new int[] {f.function, f.patch, f.at, f.blurred ? 1 : 0}[a[2]];
                }
                case "stuck": {
                    element(in(a[0], 0, 5));
                    if (turning < 0 || tasks[a[0]].turned == on) return -1;
                    List<Frame> frames = tasks[a[0]].frames;
                    for (int i = 0; i < frames.size(); i++) {
                        if (holds(frames.get(frames.size() - 1 - i))) return i;
                    }
                    throw new AssertionError("not turned, but nothing holds it");
                }
                case "calls": element(in(a[0], 0, 5) && in(a[1], 0, 11)); return callee(tasks[a[0]], a[1]);
                case "entry": {
                    element(in(a[0], 0, 11));
                    return stack.stream().filter(p -> patches.get(p).funcs.containsKey(a[0])).reduce((p, q) -> q).orElse(-1);
                }
                case "patchOf": {
                    element(in(a[0], 0, patches.size() - 1));
                    argument(in(a[1], 0, 4));
                    ModelPatch p = patches.get(a[0]);
                    int deeds = 0;
                    for (List<Deed> c : p.funcs.values()) deeds += c.size();
                    for (List<Deed> c : p.ends.values()) deeds += c.size();
                    return new int[] {stack.indexOf(a[0]), p.funcs.keySet().stream().mapToInt(f -> 1 << f).sum(),
                        p.all ? 1 : 0, deeds, p.enabled}[a[1]];
                }
                case "datumOf": {
                    element(in(a[0], 0, 9));
                    argument(in(a[1], 0, 2));
                    int bits = 0;
                    for (int i = 0; i < 5; i++) bits |= shadows[a[0]][i] != null ? 1 << i : 0;
                    return new int[] {rowKind(data[a[0]]), length(data[a[0]]), bits}[a[1]];
                }
                case "shadowOf": {
                    element(in(a[0], 0, 9) && in(a[1], 0, 4));
                    argument(in(a[2], 0, 1));
                    Object s = shadows[a[0]][a[1]];
                    return a[2] == 0 ? rowKind(s) : length(s);
                }
                case "cell": {
                    element(in(a[0], 0, 9) && in(a[1], -1, 4));
                    Object o = at(a[0], a[1]);
                    return in(a[2], 0, length(o) - 1) ? told(Array.get(o, a[2])) : 0;
                }
                case "waits": return waits();
                case "deepest": {
                    int best = -1;
                    for (int t = 5; t >= 0; t--) {
                        int n = tasks[t].frames.size();
                        if (n > 0 && (best < 0 || n >= tasks[best].frames.size())) best = t;
                    }
                    return best;
                }
                case "status": return in(a[0], 0, 2) ? refused[a[0]] : -1;
                default: return byHand(name, a);
            }
        }

        long byHand(String name, int[] a) {
            switch (name) {
                case "get": {
                    element(in(a[1], 0, 9));
                    argument(in(a[0], 0, 7));
                    Object[] got = new Object[1];
                    int trap = read(a[0], data[a[1]], a[2], got);
                    return trap == 0 ? told(got[0]) : trap - 1_000_000_000L;
                }
                case "set": {
                    element(in(a[1], 0, 9));
                    argument(in(a[0], 0, 7) && in(a[3], -99999, 99999));
                    return write(a[0], data[a[1]], a[2], a[3]);
                }
                case "move": {
                    element(in(a[0], 0, 9) && in(a[2], 0, 9));
                    Object[] got = new Object[1];
                    int trap = box(data[a[0]], a[1], got);
                    return trap != 0 ? trap : 10 + put(data[a[2]], a[3], got[0]);
                }
                case "shape": {
                    element(in(a[0], 0, 9));
                    argument(in(a[1], 0, 10) && in(a[2], 0, 9));
                    return shape(a[0], a[1], a[2]);
                }
                case "keep": {
                    element(in(a[0], 0, 9) && in(a[1], 0, 4));
                    argument(in(a[2], 0, 1));
                    return a[2] == 0 ? keep(a[0], a[1]) : lift(a[0], a[1]);
                }
                case "shapes": {
                    element(in(a[0], 0, 9));
                    if (rowKind(data[a[0]]) > 10) return 0;
                    int bits = 0;
                    Object was = data[a[0]];
                    for (int k = 0; k <= 10; k++) {
                        if (shape(a[0], k, length(was)) == 0) bits |= 1 << k;
                        data[a[0]] = was;
                    }
                    return bits;
                }
                case "same": {
                    element(in(a[0], 0, 9) && in(a[1], 0, 9));
                    Object p = data[a[0]];
                    Object q = data[a[1]];
                    if (rowKind(p) > 10 || rowKind(q) > 10) return -1;
                    int n = 0;
                    for (int i = 0; i < Math.min(length(p), length(q)); i++) {
                        if (alike(Array.get(p, i), Array.get(q, i))) n++;
                    }
                    return n;
                }
                default: throw new AssertionError(name);
            }
        }

        long told(int what) {
            int n = 0;
            switch (what) {
                case 0: return patches.size();
                case 1: return stack.size();
                case 2: return stack.isEmpty() ? -1 : stack.get(stack.size() - 1);
                case 3: return turning;
                case 4: return turning < 0 ? -1 : on ? 1 : 0;
                case 5: for (int t = 0; t < 6; t++) n |= turning >= 0 && tasks[t].turned ? 1 << t : 0; return n;
                case 6: for (int t = 0; t < 6; t++) n |= tasks[t].frames.isEmpty() ? 1 << t : 0; return n;
                case 7: return ticks;
                case 8: return overs;
                case 9: for (ModelTask t : tasks) n += t.forced; return n;
                case 10: return traps;
                case 11: return patchTraps;
                case 12:
                    for (int d = 0; d < 10; d++) {
                        for (int m = -1; m < 5; m++) n += length(at(d, m));
                    }
                    return n;
                case 13:
                    for (Object[] row : shadows) {
                        for (Object s : row) n += s != null ? 1 : 0;
                    }
                    return n;
                default: return tape.length();
            }
        }

        // ---- data ----

        Object at(int d, int m) {
            return m < 0 ? data[d] : shadows[d][m];
        }

        static int rowKind(Object o) {
            if (o == null) return 12;
            return o.getClass().isArray() ? List.of(TYPES).indexOf(o.getClass().getComponentType()) : 11;
        }

        static int length(Object o) {
            return rowKind(o) > 10 ? 0 : Array.getLength(o);
        }

        static int kindOf(Object v) {
            if (v == null) return -1;
            if (v instanceof String) return 8;
            Class<?>[] boxes = {Boolean.class, Byte.class, Character.class, Short.class, Integer.class, Long.class,
                Float.class, Double.class};
            return List.of(boxes).indexOf(v.getClass());
        }

        static double amount(Object v) {
            return v instanceof Boolean b ? b ? 1 : 0 : v instanceof Character c ? c : ((Number) v).doubleValue();
        }

        static long told(Object v) {
            if (v == null) return 0;
            if (v instanceof String s) {
                long n = 0;
                for (char c : s.toCharArray()) n = n * 27 + c - 'a' + 1;
                return n;
            }
            return (long) (amount(v) * (kindOf(v) >= 6 ? 4 : 1));
        }

        static boolean alike(Object p, Object q) {
            if (p == null || q == null) return p == q;
            if (p instanceof String || q instanceof String) return p.equals(q);
            return amount(p) == amount(q);
        }

        static Object cut(int kind, int v) {
            switch (kind) {
                case 0: return v != 0;
                case 1: return (byte) v;
                case 2: return (char) v;
                case 3: return (short) v;
                case 4: return v;
                case 5: return (long) v;
                case 6: return v / 4f;
                default: return v / 4d;
            }
        }

        static int trapOf(Runnable deed) {
            try {
                deed.run();
                return 0;
            } catch (ArrayIndexOutOfBoundsException e) {
                return 1;
            } catch (IllegalArgumentException e) {
                return 2;
            } catch (NullPointerException e) {
                return 3;
            }
        }

        static int read(int kind, Object o, int p, Object[] into) {
            return trapOf(() -> {
                switch (kind) {
                    case 0: into[0] = Array.getBoolean(o, p); break;
                    case 1: into[0] = Array.getByte(o, p); break;
                    case 2: into[0] = Array.getChar(o, p); break;
                    case 3: into[0] = Array.getShort(o, p); break;
                    case 4: into[0] = Array.getInt(o, p); break;
                    case 5: into[0] = Array.getLong(o, p); break;
                    case 6: into[0] = Array.getFloat(o, p); break;
                    default: into[0] = Array.getDouble(o, p); break;
                }
            });
        }

        static int write(int kind, Object o, int p, int v) {
            Object c = cut(kind, v);
            return trapOf(() -> {
                switch (kind) {
                    case 0: Array.setBoolean(o, p, (Boolean) c); break;
                    case 1: Array.setByte(o, p, (Byte) c); break;
                    case 2: Array.setChar(o, p, (Character) c); break;
                    case 3: Array.setShort(o, p, (Short) c); break;
                    case 4: Array.setInt(o, p, (Integer) c); break;
                    case 5: Array.setLong(o, p, (Long) c); break;
                    case 6: Array.setFloat(o, p, (Float) c); break;
                    default: Array.setDouble(o, p, (Double) c); break;
                }
            });
        }

        static int box(Object o, int p, Object[] into) {
            return trapOf(() -> into[0] = Array.get(o, p));
        }

        /** The document's order: of t, n, a the place is looked at ahead of the KIND. */
        static int put(Object o, int p, Object v) {
            int kind = rowKind(o);
            if (kind == 12) return 3;
            if (kind == 11) return 2;
            if (kind < 8 && (v == null || v instanceof String)) return 2;
            if (!in(p, 0, length(o) - 1)) return 1;
            return trapOf(() -> Array.set(o, p, v));
        }

        static Object copied(Object o) {
            Object copy = Array.newInstance(o.getClass().getComponentType(), length(o));
            for (int i = 0; i < length(o); i++) Array.set(copy, i, Array.get(o, i));
            return copy;
        }

        int shape(int d, int kind, int places) {
            Object o = data[d];
            if (o == null) return 3;
            if (rowKind(o) == 11) return 2;
            Object to = Array.newInstance(TYPES[kind], places);
            for (int i = 0; i < Math.min(places, length(o)); i++) {
                if (put(to, i, Array.get(o, i)) != 0) return 2;
            }
            data[d] = to;
            return 0;
        }

        int keep(int d, int m) {
            if (data[d] == null) return 3;
            if (rowKind(data[d]) == 11) return 2;
            shadows[d][m] = copied(data[d]);
            return 0;
        }

        int lift(int d, int m) {
            if (data[d] == null || shadows[d][m] == null) return 3;
            data[d] = shadows[d][m];
            shadows[d][m] = null;
            return 0;
        }

        int onData(Deed e, Object[] value) {
            switch (e.word()) {
                case "take": value[0] = cut(e.part(0), e.part(1)); return 0;
                case "text": value[0] = e.parts().get(0); return 0;
                case "none": value[0] = null; return 0;
                case "get": return read(e.part(0), at(e.part(1), e.part(2)), e.part(3), value);
                case "set": return write(e.part(0), at(e.part(1), e.part(2)), e.part(3), e.part(4));
                case "box": return box(at(e.part(0), e.part(1)), e.part(2), value);
                case "put": return put(at(e.part(0), e.part(1)), e.part(2), value[0]);
                case "make":
                    if (data[e.part(0)] == null) return 3;
                    if (shadows[e.part(0)][e.part(1)] == null) {
                        shadows[e.part(0)][e.part(1)] = Array.newInstance(TYPES[e.part(2)], e.part(3));
                    }
                    return 0;
                case "free":
                    if (shadows[e.part(0)][e.part(1)] == null) return 3;
                    shadows[e.part(0)][e.part(1)] = null;
                    return 0;
                case "shape": return shape(e.part(0), e.part(1), e.part(2));
                case "keep": return keep(e.part(0), e.part(1));
                case "lift": return lift(e.part(0), e.part(1));
                default: return 0;
            }
        }

        static boolean skips(Object value) {
            return value == null || !(value instanceof String) && amount(value) == 0;
        }

        void perform(List<Deed> code) {
            Object[] value = {null};
            int left = 0;
            for (Deed e : code) {
                if (left > 0) {
                    left--;
                    continue;
                }
                if (e.word().equals("ret")) return;
                if (e.word().equals("skip") && skips(value[0])) left = e.part(0);
                if (onData(e, value) != 0) patchTraps++;
            }
        }

        // ---- tasks ----

        int callee(ModelTask t, int function) {
            int best = -1;
            for (int p : stack) {
                if (patches.get(p).funcs.containsKey(function) && (p != turning || t.turned)) best = p;
            }
            return best;
        }

        void push(ModelTask t, int function) {
            Frame f = new Frame();
            f.function = function;
            f.patch = callee(t, function);
            f.code = f.patch < 0 ? functions.get(function) : patches.get(f.patch).funcs.get(function);
            t.frames.add(f);
        }

        void act(ModelTask t) {
            if (t.frames.isEmpty()) return;
            Frame f = t.frames.get(t.frames.size() - 1);
            if (t.rests > 0) {
                if (--t.rests == 0) f.at++;
                return;
            }
            t.deeds++;
            t.trap = 0;
            if (f.at == f.code.size() || f.code.get(f.at).word().equals("ret")) {
                t.frames.remove(f);
                return;
            }
            Deed e = f.code.get(f.at);
            switch (e.word()) {
                case "back": f.at = -1; break;
                case "rest":
                    t.rests = e.part(0);
                    if (t.rests > 0) f.at--;
                    break;
                case "skip": if (skips(t.value)) f.at = Math.min(f.at + e.part(0), f.code.size() - 1); break;
                case "blur": f.blurred = true; break;
                case "clear": f.blurred = false; break;
                case "call":
                    if (t.frames.size() == 10) t.trap = 3;
                    else push(t, e.part(0));
                    break;
                default: {
                    Object[] value = {t.value};
                    t.trap = onData(e, value);
                    t.value = value[0];
                }
            }
            f.at++;
            if (t.trap != 0) {
                traps++;
                seen("trap" + t.trap);
            }
        }

        void tick() {
            for (ModelTask t : tasks) act(t);
            ticks++;
            look();
        }

        boolean holds(Frame f) {
            return f.blurred || patches.get(turning).funcs.containsKey(f.function);
        }

        List<ModelTask> unturned() {
            List<ModelTask> left = new ArrayList<>();
            for (ModelTask t : tasks) {
                if (turning >= 0 && t.turned != on) left.add(t);
            }
            return left;
        }

        void look() {
            if (turning < 0) return;
            for (ModelTask t : tasks) {
                if (t.frames.stream().noneMatch(this::holds)) t.turned = on;
            }
            if (!unturned().isEmpty()) return;
            seen(on ? "over.on" : "over.off");
            ModelPatch p = patches.get(turning);
            Integer top = turning;
            turning = -1;
            overs++;
            if (on) {
                perform(p.ends.get("done"));
                if (p.all) {
                    if (stack.size() > 1) seen("over.all");
                    stack.removeIf(q -> !q.equals(top));
                }
            } else {
                stack.remove(top);
                perform(p.ends.get("undone"));
            }
        }

        /** A copy of the whole run, made by playing all calls again, goes on TICK by TICK. */
        int waits() {
            if (turning < 0) return 0;
            Model copy = new Model();
            for (Call c : history) {
                if (c.name().equals("waits")) continue;
                int[] a = new int[c.args().length];
                for (int i = 0; i < a.length; i++) a[i] = (int) c.args()[i];
                try {
                    copy.answer(c.name(), a);
                } catch (NoSuchElementException | IllegalArgumentException | IllegalStateException e) {
                    continue;
                }
            }
            for (int n = 1; n <= 60; n++) {
                copy.tick();
                if (copy.turning < 0) {
                    seen("waits.some");
                    return n;
                }
            }
            seen("waits.none");
            return -1;
        }
    }
}
