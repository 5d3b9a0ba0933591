import java.io.IOException;
import java.nio.file.Files;
import java.nio.file.Path;
import java.util.NoSuchElementException;
import java.util.TreeMap;

/**
 * The document sentence by sentence: each test bears the words that it tries, and each word of the document's
 * Terms, 2, 3, 4 and promises stands in a test's words (so that one that has no test is told here, as a fault).
 */
public final class SentenceTests {
    private static final int NONE = MendedProgram.NONE;
    private static final Class<?> ELEMENT = NoSuchElementException.class;
    private static final Class<?> ARGUMENT = IllegalArgumentException.class;
    private static final Class<?> STATE = IllegalStateException.class;
    private static final int Z = 0, B = 1, C = 2, S = 3, I = 4, J = 5, F = 6, D = 7, T = 8, N = 9, A = 10;
    private static final int THING = 11, MISSING = 12;
    private static final int TEXT = 8;
    private static final String LETTERS = "zbcsijfdtna";
    private static final long GOT_1 = 1 - 1000000000L, GOT_2 = 2 - 1000000000L, GOT_3 = 3 - 1000000000L;
    private static final int LEAST = Integer.MIN_VALUE, MOST = Integer.MAX_VALUE;

    private static final TreeMap<String, StringBuilder> PARTS = new TreeMap<>();
    private static String part;
    private static String whole;
    private static String sentence;
    private static int tests;
    private static int asked;
    private static int wrong;

    private interface Body {
        void run();
    }

    private interface Call {
        long answer();
    }

    public static void main(String[] args) throws IOException {
        readParts(Files.readString(Path.of("../shared/DOC.md")));
        terms();
        trapRules();
        tape();
        faults();
        deeds();
        turning();
        ticksAndAsking();
        promises1To9();
        promises10To16();
        promises17To25();
        promises26To35();
        tellUntested();
        System.out.println("SentenceTests: " + tests + " sentences, " + asked + " answers, " + wrong + " wrong");
        if (wrong != 0) System.exit(1);
    }

    // ---- the document's words ----

    private static void readParts(String document) {
        String text = document.substring(document.indexOf("## Terms")).replaceAll("(?s)## Not promised.*", "")
                .replace("```text", " ").replace("```", " ")
                .replaceAll("==== (\\d)\\.", "\n## Part $1\n").replaceAll("`[^`]*`:", " ");
        for (String section : text.split("(?m)^## ")) {
            int end = section.indexOf('\n');
            if (end < 0) continue;
            String name = section.substring(0, end).replaceAll(":.*", "").trim();
            PARTS.put(name, new StringBuilder(plain(section.substring(end))));
        }
    }

    private static String plain(String words) {
        return words.replaceAll("\\s+", " ").trim();
    }

    private static void part(String name) {
        part = name;
        StringBuilder has = PARTS.get(name);
        whole = has == null ? "" : wholeOf(has);
        if (has == null) fault("no part of the document is called " + name);
    }

    /** Words that a test has taken are marked by the sign 1 behind each. */
    private static String wholeOf(StringBuilder marked) {
        return marked.toString().replace("\u0001", "");
    }

    private static void test(String words, Body body) {
        tests++;
        sentence = words;
        int at = whole.indexOf(words);
        if (at < 0) {
            fault("the document does not say so");
        } else {
            mark(at, at + words.length());
        }
        try {
            body.run();
        } catch (RuntimeException e) {
            fault("threw " + e + " at " + e.getStackTrace()[0] + ", " + e.getStackTrace()[1]);
        }
    }

    private static void mark(int from, int to) {
        StringBuilder marked = PARTS.get(part);
        StringBuilder now = new StringBuilder();
        int sign = -1;
        for (int i = 0; i < marked.length(); i++) {
            if (marked.charAt(i) != '\u0001') {
                sign++;
                now.append(marked.charAt(i));
                if (sign >= from && sign < to) now.append('\u0001');
            }  else if (sign < from || sign >= to) {
                now.append('\u0001');
            }
        }
        PARTS.put(part, now);
    }

    private static void tellUntested() {
        PARTS.forEach((name, words) -> {
            String left = words.toString().replaceAll("[^\u0001]\u0001", " ").replaceAll("\\s+", " ").trim();
            if (left.matches(".*\\w.*")) {
                wrong++;
                System.out.println(name + ": no test for: " + left);
            }
        });
    }

    private static void fault(String told) {
        wrong++;
        System.out.println(part + ", \"" + sentence + "\": " + told);
    }

    // ---- calls and answers ----

    private static void due(long got, long want) {
        asked++;
        if (got != want) fault(line() + "answered " + got + ", due is " + want);
    }

    private static String line() {
        for (StackTraceElement e : new Throwable().getStackTrace()) {
            if (e.getMethodName().startsWith("lambda$") && !e.getMethodName().contains("tellUntested")) {
                return "line " + e.getLineNumber() + ": ";
            }
        }
        return "";
    }

    /** The call is refused so, and counted so; nothing else is changed by it. */
    private static void refused(Class<?> due, MendedProgram x, Call call) {
        String before = told(x);
        int reason = due == ELEMENT ? 0 : due == ARGUMENT ? 1 : 2;
        int[] counts = {x.status(0), x.status(1), x.status(2)};
        asked++;
        try {
            fault(line() + "answered " + call.answer() + ", due is " + due);
            return;
        } catch (RuntimeException e) {
            if (e.getClass() != due) fault(line() + "threw " + e + ", due is " + due);
        }
        counts[reason]++;
        for (int r = 0; r < 3; r++) due(x.status(r), counts[r]);
        if (!told(x).equals(before)) fault(line() + "was refused, but changed " + before + " to " + told(x));
    }

    /** All that can be asked, in one line (but what is refused, and how often). */
    private static String told(MendedProgram x) {
        StringBuilder b = new StringBuilder("fault ").append(x.fault()).append(" told");
        for (int what = 0; what < 15; what++) b.append(' ').append(x.told(what));
        for (int t = 0; t < 6; t++) {
            b.append(" task ").append(t);
            for (int what = 0; what < 7; what++) b.append(' ').append(x.task(t, what));
            b.append(' ').append(x.number(t)).append(' ').append(x.stuck(t));
            for (int f = 0; f < x.task(t, 0); f++) {
                for (int what = 0; what < 4; what++) b.append(' ').append(x.frame(t, f, what));
            }
        }
        for (int f = 0; f < 12; f++) b.append(" of ").append(x.entry(f)).append(' ').append(x.calls(0, f));
        for (int p = 0; p < x.told(0); p++) {
            for (int what = 0; what < 5; what++) b.append(" patch ").append(x.patchOf(p, what));
        }
        for (int d = 0; d < 10; d++) b.append(rowsOf(x, d));
        return b.append(x.waits()).append(' ').append(x.deepest()).toString();
    }

    private static String rowsOf(MendedProgram x, int d) {
        if (x.datumOf(d, 0) == MISSING) return "";
        StringBuilder b = new StringBuilder(" datum ").append(d).append(' ').append(x.datumOf(d, 0)).append(x.shapes(d));
        for (int p = 0; p < x.datumOf(d, 1); p++) b.append(' ').append(x.cell(d, NONE, p));
        for (int m = 0; m < 5; m++) {
            b.append(' ').append(x.shadowOf(d, m, 0));
            for (int p = 0; p < x.shadowOf(d, m, 1); p++) b.append(' ').append(x.cell(d, m, p));
        }
        return b.toString();
    }

    private static int lay(MendedProgram x, String text) {
        if (x.told(14) != 0) throw new UnsupportedOperationException("the TAPE is not empty");
        for (int at = 0; at < text.length(); at += 20) {
            int[] five = new int[5];
            for (int i = 0; i < 20; i++) {
                int sign = at + i < text.length() ? text.charAt(at + i) : 0;
                five[i / 4] |= sign << 24 - 8 * (i % 4);
            }
            x.feed(five[0], five[1], five[2], five[3], five[4]);
        }
        return text.length();
    }

    private static int function(MendedProgram x, int function, String code) {
        return x.function(function, lay(x, code));
    }

    private static int patch(MendedProgram x, String text) {
        return x.patch(lay(x, text));
    }

    /** An object with these FUNCTIONS, from 0 on. */
    private static MendedProgram with(String... codes) {
        MendedProgram x = new MendedProgram();
        for (int f = 0; f < codes.length; f++) {
            if (function(x, f, codes[f]) < 0) throw new UnsupportedOperationException(codes[f]);
        }
        return x;
    }

    /** TASK 5 does DEEDS, by FUNCTION 11 (all others are IDLE): the TRAP of the last one. */
    private static int does(MendedProgram x, String code) {
        x.kill(5);
        int count = function(x, 11, code);
        if (count < 1) throw new UnsupportedOperationException(code);
        x.start(5, 11);
        int trap = NONE;
        for (int d = 0; d < count; d++) trap = x.step(5);
        return trap;
    }

    private static MendedProgram row(int kind, int places) {
        MendedProgram x = new MendedProgram();
        x.datum(0, kind, places);
        return x;
    }

    /** Of a ROW of a KIND: what stands there when v is set by that KIND itself. */
    private static long cut(int kind, int v) {
        MendedProgram x = row(kind, 1);
        due(x.set(kind, 0, 0, v), 0);
        due(x.get(kind, 0, 0), x.cell(0, NONE, 0));
        return x.cell(0, NONE, 0);
    }

    /** What TASK 5's VALUE is: its KIND, and its number behind it. */
    private static void value(MendedProgram x, int kind, long number) {
        due(x.task(5, 2), kind);
        due(x.number(5), number);
    }

    private static void fine(String code, int deeds) {
        MendedProgram x = new MendedProgram();
        due(function(x, 0, code), deeds);
        due(x.fault(), NONE);
        due(x.told(14), 0);
    }

    private static void faulty(String code, int fault, int place) {
        MendedProgram x = with("text a;");
        due(function(x, 0, code), fault - 10);
        due(x.fault(), place);
        due(x.told(14), 0);
        x.start(0, 0);
        x.step(0);
        due(x.number(0), 1);
    }

    private static void finePatch(String text, int functions, int all, int deeds) {
        MendedProgram x = new MendedProgram();
        due(patch(x, text), 0);
        due(x.fault(), NONE);
        due(x.patchOf(0, 1), functions);
        due(x.patchOf(0, 2), all);
        due(x.patchOf(0, 3), deeds);
    }

    private static void faultyPatch(String text, int fault, int place) {
        MendedProgram x = new MendedProgram();
        due(patch(x, text), fault - 10);
        due(x.fault(), place);
        due(x.told(14), 0);
        due(x.told(0), 0);
    }

    private static String deedsOf(int n) {
        return "ret;".repeat(n);
    }

    // ---- Terms ----

    private static void terms() {
        part("Terms");
        test("ROWS: of KINDS z (truth: 0, 1)", () -> {
            int[] set = {0, 1, -1, 2, 256, 65536, 99999, -99999};
            for (int v : set) due(cut(Z, v), v == 0 ? 0 : 1);
        });
        test("b (8 bits with sign)", () -> {
            int[] set = {0, 127, 128, -128, -129, 255, 256, 300, 383, 384, -256, 99999, -99999};
            int[] due = {0, 127, -128, -128, 127, -1, 0, 44, 127, -128, 0, -97, 97};
            for (int i = 0; i < set.length; i++) due(cut(B, set[i]), due[i]);
        });
        test("c (16 bits without)", () -> {
            int[] set = {0, 32767, 32768, 65535, 65536, -1, -65536, -65535, 99999, -99999};
            int[] due = {0, 32767, 32768, 65535, 0, 65535, 0, 1, 34463, 31073};
            for (int i = 0; i < set.length; i++) due(cut(C, set[i]), due[i]);
        });
        test("s (16 with)", () -> {
            int[] set = {0, 32767, 32768, -32768, -32769, 65535, 65536, 98303, 98304, 99999, -99999};
            int[] due = {0, 32767, -32768, -32768, 32767, -1, 0, 32767, -32768, -31073, 31073};
            for (int i = 0; i < set.length; i++) due(cut(S, set[i]), due[i]);
        });
        test("i (32 with)", () -> {
            for (int v : new int[] {0, 65536, 99999, -99999}) due(cut(I, v), v);
        });
        test("j (64 with)", () -> {
            for (int v : new int[] {0, 65536, 99999, -99999}) due(cut(J, v), v);
        });
        test("f, d (numbers with quarters, as floats and doubles are; all that can come are exact)", () -> {
            for (int kind = F; kind <= D; kind++) {
                for (int v : new int[] {0, 1, -1, 3, -3, 4, 99999, -99999, 99997}) due(cut(kind, v), v);
                MendedProgram x = row(kind, 1);
                for (int v : new int[] {99999, -99999, 98765, -1}) {
                    x.set(J, 0, 0, v);
                    due(x.get(kind, 0, 0), 4L * v);
                    due(x.get(D, 0, 0), 4L * v);
                    x.set(C, 0, 0, v);
                    due(x.get(kind, 0, 0), 4L * (v & 65535));
                }
            }
        });
        test("t (TEXTS, or missing)", () -> {
            MendedProgram x = row(T, 1);
            due(does(x, "text abc;put 0 0;none;box 0 0;"), 0);
            value(x, TEXT, 786);
            due(does(x, "none;put 0 0;text a;box 0 0;"), 0);
            value(x, NONE, 0);
            for (int kind = Z; kind <= D; kind++) due(does(x, "take " + LETTERS.charAt(kind) + " 1;put 0 0;"), 2);
        });
        test("n (whole numbers of KIND i as boxes, or missing)", () -> {
            MendedProgram x = row(N, 1);
            due(does(x, "take i -5;put 0 0;none;box 0 0;"), 0);
            value(x, I, -5);
            due(does(x, "none;put 0 0;take i 1;box 0 0;"), 0);
            value(x, NONE, 0);
            due(does(x, "text a;put 0 0;"), 2);
            for (int kind = Z; kind <= D; kind++) {
                due(does(x, "take " + LETTERS.charAt(kind) + " 1;put 0 0;"), kind == I ? 0 : 2);
            }
        });
        test("a (any VALUES, or missing)", () -> {
            MendedProgram x = row(A, 1);
            for (int kind = Z; kind <= D; kind++) {
                due(does(x, "take " + LETTERS.charAt(kind) + " 1;put 0 0;none;box 0 0;"), 0);
                value(x, kind, 1);
            }
            due(does(x, "text zz;put 0 0;none;box 0 0;"), 0);
            value(x, TEXT, 728);
            due(does(x, "none;put 0 0;take i 1;box 0 0;"), 0);
            value(x, NONE, 0);
        });
        test("of 0 to 9 places", () -> {
            for (int kind = Z; kind <= A; kind++) {
                MendedProgram x = row(kind, 0);
                due(x.datumOf(0, 1), 0);
                due(x.move(0, 0, 0, 0), 1);
                due(x.datum(0, kind, 9), 9);
                due(x.datumOf(0, 1), 9);
                due(x.move(0, 0, 0, 8), 10);
                due(x.move(0, 8, 0, 0), 10);
                due(x.move(0, 9, 0, 0), 1);
                due(x.move(0, 8, 0, 9), 11);
                due(x.move(0, -1, 0, 0), 1);
                due(x.move(0, 8, 0, -1), 11);
                due(x.move(0, MOST, 0, 0), 1);
                due(x.move(0, 0, 0, LEAST), 11);
                int m = kind;
                refused(ARGUMENT, x, () -> x.datum(0, m, 10));
                refused(ARGUMENT, x, () -> x.datum(0, m, -1));
            }
        });
        test("numbers 0 (false), all others missing at first", () -> {
            for (int kind = Z; kind <= A; kind++) {
                MendedProgram x = row(kind, 9);
                for (int p = 0; p < 9; p++) {
                    due(x.cell(0, NONE, p), 0);
                    due(does(x, "text a;box 0 " + p + ";"), 0);
                    value(x, kind <= D ? kind : NONE, 0);
                }
            }
        });
        test("A VALUE: a number of one of KINDS z to d, or a TEXT (1 to 6 small letters), or missing.", () -> {
            MendedProgram x = new MendedProgram();
            for (int kind = Z; kind <= D; kind++) {
                does(x, "take " + LETTERS.charAt(kind) + " 1;");
                value(x, kind, 1);
            }
            does(x, "text a;");
            value(x, TEXT, 1);
            does(x, "text z;");
            value(x, TEXT, 26);
            does(x, "text abcdef;");
            value(x, TEXT, ((((27L + 2) * 27 + 3) * 27 + 4) * 27 + 5) * 27 + 6);
            does(x, "none;");
            value(x, NONE, 0);
            faulty("text ;", 1, 5);
            faulty("text abcdefg;", 1, 5);
            faulty("text abCd;", 1, 7);
            faulty("text A;", 1, 5);
        });
        test("DATA 0 to 9:", () -> {
            MendedProgram x = new MendedProgram();
            for (int d = 0; d < 10; d++) due(x.datum(d, I, 1), d + 1);
            for (int d = 0; d < 10; d++) x.set(I, d, 0, d + 100);
            for (int d = 0; d < 10; d++) due(x.cell(d, NONE, 0), d + 100);
            for (int d : new int[] {10, -1, MOST, LEAST}) refused(ELEMENT, x, () -> x.datum(d, I, 1));
        });
        test("each a ROW, or a THING (no ROW), or missing (at first).", () -> {
            MendedProgram x = new MendedProgram();
            for (int d = 0; d < 10; d++) {
                due(x.datumOf(d, 0), MISSING);
                due(x.same(d, d), NONE);
                due(x.datum(d, THING, 0), 0);
                due(x.datumOf(d, 0), THING);
                due(x.same(d, d), NONE);
                due(x.datum(d, Z, 0), 0);
                due(x.same(d, d), 0);
            }
        });
        test("SHADOWS: of each DATUM that is not missing,", () -> {
            MendedProgram x = new MendedProgram();
            due(does(x, "make 3 0 i 1;"), 3);
            due(x.datumOf(3, 2), 0);
            x.datum(3, THING, 0);
            due(does(x, "make 3 0 i 1;"), 0);
            due(x.datumOf(3, 2), 1);
            x.datum(3, Z, 0);
            due(x.datumOf(3, 2), 0);
            due(does(x, "make 3 0 i 1;"), 0);
            x.datum(3, MISSING, 0);
            due(x.datumOf(3, 2), 0);
            due(x.shadowOf(3, 0, 0), MISSING);
        });
        test("each of NUMBERS 0 to 4, a ROW, or missing.", () -> {
            MendedProgram x = row(I, 1);
            for (int m = 0; m < 5; m++) {
                due(x.shadowOf(0, m, 0), MISSING);
                x.set(I, 0, 0, m + 7);
                due(x.keep(0, m, 0), 0);
                due(x.datumOf(0, 2), (2 << m) - 1);
            }
            for (int m = 0; m < 5; m++) due(x.cell(0, m, 0), m + 7);
            for (int m : new int[] {5, -1, MOST, LEAST}) refused(ELEMENT, x, () -> x.keep(0, m, 0));
        });
        widens("WIDENS: b to s, i, j, f, d;", B, "bsijfd");
        widens("c to i, j, f, d;", C, "cijfd");
        widens("s to i, j, f, d;", S, "sijfd");
        widens("i to j, f, d;", I, "ijfd");
        widens("j to f, d;", J, "jfd");
        widens("f to d;", F, "fd");
        test("each KIND to itself.", () -> {
            widensTo(Z, "z");
            widensTo(D, "d");
            for (int kind = Z; kind <= A; kind++) due(row(kind, 1).move(0, 0, 0, 0), 10);
        });
    }

    private static void widens(String words, int kind, String to) {
        test(words, () -> widensTo(kind, to));
    }

    /** GET by, SET into and PUT into all KINDS of numbers: those that it WIDENS to, and no others. */
    private static void widensTo(int from, String to) {
        for (int kind = Z; kind <= D; kind++) {
            boolean can = to.indexOf(LETTERS.charAt(kind)) >= 0;
            long wide = from < F && kind >= F ? 4 : 1;
            MendedProgram x = row(from, 1);
            x.set(from, 0, 0, 1);
            due(x.get(kind, 0, 0), can ? wide : GOT_2);
            x.datum(1, kind, 1);
            due(x.move(0, 0, 1, 0), can ? 10 : 12);
            due(x.cell(1, NONE, 0), can ? wide : 0);
            x.datum(1, kind, 1);
            due(x.set(from, 1, 0, 1), can ? 0 : 2);
            due(x.cell(1, NONE, 0), can ? wide : 0);
            due(x.shape(0, kind, 1), can ? 0 : 2);
        }
    }

    /** DATA for TRAPS: 0 missing, 1 a THING, 2 t, 3 n, 4 a, 5 i, 6 s, each of one place; 7 i of none. */
    private static MendedProgram rows() {
        MendedProgram x = new MendedProgram();
        x.datum(1, THING, 0);
        int[] kinds = {T, N, A, I, S};
        for (int k = 0; k < 5; k++) x.datum(k + 2, kinds[k], 1);
        x.datum(7, I, 0);
        return x;
    }

    private static void trapRules() {
        test("A TRAP: 0 none,", () -> {
            MendedProgram x = rows();
            due(x.set(I, 5, 0, 1), 0);
            due(does(x, "get i 5 0;"), 0);
            due(x.task(5, 1), 0);
        });
        test("1 a place that is not there,", () -> due(does(rows(), "get i 5 1;"), 1));
        test("2 a KIND that can't be,", () -> due(does(rows(), "get s 5 0;"), 2));
        test("3 it is missing.", () -> due(does(rows(), "get i 0 0;"), 3));
        test("Of one deed the first one by the order in which they are told here.", () -> {
            MendedProgram x = rows();
            // each of these has more than one of the faults
            due(x.get(Z, 0, 9), GOT_3);
            due(x.get(Z, 2, 9), GOT_2);
            due(x.get(Z, 5, 9), GOT_1);
            due(x.set(J, 0, 9, 1), 3);
            due(x.set(J, 4, 9, 1), 2);
            due(x.set(J, 5, 9, 1), 1);
            due(does(x, "text a;put 5 9;"), 2);
            due(does(x, "take j 1;put 5 9;"), 1);
            due(does(x, "take j 1;put 3 9;"), 1);
        });
        getAndSet();
        boxAndPut();
    }

    private static void getAndSet() {
        test("GET by a KIND z to d of place p of X: 3 X is missing;", () -> {
            MendedProgram x = rows();
            for (int kind = Z; kind <= D; kind++) due(x.get(kind, 0, 0), GOT_3);
            due(does(x, "get i 5.0 0;"), 3);
            due(does(x, "get i 0.4 0;"), 3);
        });
        test("2 X is a THING, or a ROW of t, n, a;", () -> {
            MendedProgram x = rows();
            x.move(5, 0, 3, 0);
            x.move(5, 0, 4, 0);
            for (int d = 1; d <= 4; d++) {
                for (int kind = Z; kind <= D; kind++) due(x.get(kind, d, 0), GOT_2);
                due(x.get(I, d, 1), GOT_2);
                due(x.get(I, d, -1), GOT_2);
            }
        });
        test("1 the place; 2 the ROW's KIND does not WIDEN to this KIND.", () -> {
            MendedProgram x = rows();
            due(x.get(S, 5, 0), GOT_2);
            due(x.get(C, 6, 0), GOT_2);
            due(x.get(Z, 6, 0), GOT_2);
            for (int p : new int[] {1, -1, 9, MOST, LEAST}) {
                due(x.get(S, 5, p), GOT_1);
                due(x.get(I, 5, p), GOT_1);
            }
            due(x.get(I, 7, 0), GOT_1);
            due(x.get(S, 7, 0), GOT_1);
        });
        test("Else the VALUE is what stands there, of this KIND.", () -> {
            MendedProgram x = rows();
            x.set(S, 6, 0, -7);
            due(does(x, "get s 6 0;"), 0);
            value(x, S, -7);
            due(does(x, "get j 6 0;"), 0);
            value(x, J, -7);
            due(does(x, "get d 6 0;"), 0);
            value(x, D, -28);
            // with a TRAP the VALUE is what it was
            due(does(x, "text b;get z 6 0;"), 2);
            value(x, TEXT, 2);
        });
        test("SET by a KIND z to d of place p of X to a number v: 3;", () -> {
            MendedProgram x = rows();
            for (int kind = Z; kind <= D; kind++) due(x.set(kind, 0, 0, 1), 3);
            due(does(x, "set i 5.0 0 1;"), 3);
        });
        test("2 a THING, or t, n, a;", () -> {
            MendedProgram x = rows();
            for (int d = 1; d <= 4; d++) {
                for (int kind = Z; kind <= D; kind++) due(x.set(kind, d, 0, 1), 2);
                due(x.set(I, d, 9, 1), 2);
                due(x.set(I, d, -1, 1), 2);
                due(x.cell(d, NONE, 0), 0);
            }
        });
        test("1; 2 this KIND does not WIDEN to the ROW's KIND.", () -> {
            MendedProgram x = rows();
            x.set(I, 5, 0, 3);
            due(x.set(J, 5, 0, 1), 2);
            due(x.set(Z, 5, 0, 1), 2);
            due(x.cell(5, NONE, 0), 3);
            for (int p : new int[] {1, -1, MOST, LEAST}) {
                due(x.set(J, 5, p, 1), 1);
                due(x.set(I, 5, p, 1), 1);
            }
            due(x.set(I, 7, 0, 1), 1);
            due(x.cell(5, NONE, 0), 3);
        });
        test("Else there stands v, cut to this KIND first (z: 1, if it is not 0; b, s: the low bits, with sign; "
                + "c: without; f, d: v by 4).", () -> {
            // this KIND, not the ROW's
            MendedProgram x = row(D, 2);
            int[] kinds = {B, S, C, I, J, F, D};
            long[] due = {4 * -97, 4 * -31073, 4 * 34463, 4 * 99999, 4 * 99999, 99999, 99999};
            for (int k = 0; k < kinds.length; k++) {
                due(x.set(kinds[k], 0, 1, 99999), 0);
                due(x.cell(0, NONE, 1), due[k]);
                due(x.cell(0, NONE, 0), 0);
            }
            x.datum(1, Z, 1);
            due(x.set(Z, 1, 0, -2), 0);
            due(x.cell(1, NONE, 0), 1);
            due(x.set(Z, 1, 0, 0), 0);
            due(x.cell(1, NONE, 0), 0);
        });
    }

    private static void boxAndPut() {
        test("BOX of place p of X: 3; 2 a THING; 1.", () -> {
            MendedProgram x = rows();
            due(x.move(0, 9, 5, 0), 3);
            due(x.move(1, 0, 5, 0), 2);
            due(x.move(1, 9, 5, 0), 2);
            for (int d = 2; d <= 6; d++) {
                due(x.move(d, 1, 4, 0), 1);
                due(x.move(d, -1, 4, 0), 1);
                due(x.move(d, LEAST, 4, 0), 1);
            }
            due(x.move(7, 0, 4, 0), 1);
            due(does(x, "text b;box 7 0;"), 1);
            value(x, TEXT, 2);
        });
        test("Else the VALUE is what stands there, of the ROW's KIND (of t, n, a as it is).", () -> {
            for (int kind = Z; kind <= D; kind++) {
                MendedProgram x = row(kind, 1);
                x.set(kind, 0, 0, 1);
                due(does(x, "box 0 0;"), 0);
                value(x, kind, 1);
                x.datum(1, A, 1);
                x.move(0, 0, 1, 0);
                due(does(x, "box 1 0;"), 0);
                value(x, kind, 1);
            }
            MendedProgram x = rows();
            due(does(x, "take i 3;box 2 0;"), 0);
            value(x, NONE, 0);
            due(does(x, "text q;put 2 0;put 4 0;none;box 2 0;"), 0);
            value(x, TEXT, 17);
            due(does(x, "box 4 0;"), 0);
            value(x, TEXT, 17);
            x.set(I, 5, 0, 8);
            x.move(5, 0, 3, 0);
            due(does(x, "box 3 0;"), 0);
            value(x, I, 8);
        });
        test("PUT of a VALUE to place p of X: 3; 2 a THING;", () -> {
            MendedProgram x = rows();
            for (String value : new String[] {"none;", "text a;", "take i 1;"}) {
                due(does(x, value + "put 0 0;"), 3);
                due(does(x, value + "put 0 9;"), 3);
                due(does(x, value + "put 5.0 0;"), 3);
                due(does(x, value + "put 1 0;"), 2);
                due(does(x, value + "put 1 9;"), 2);
            }
        });
        test("of a ROW of z to d: 2, if the VALUE is missing, or a TEXT; 1;", () -> {
            MendedProgram x = rows();
            for (int kind = Z; kind <= D; kind++) {
                x.datum(9, kind, 1);
                due(does(x, "none;put 9 9;"), 2);
                due(does(x, "text a;put 9 9;"), 2);
                due(does(x, "none;put 9 0;"), 2);
                due(does(x, "text a;put 9 0;"), 2);
                due(does(x, "take z 1;put 9 1;"), 1);
            }
            // of t, n, a: the place alone
            for (int d = 2; d <= 4; d++) {
                due(does(x, "none;put " + d + " 1;"), 1);
                due(does(x, "text a;put " + d + " 1;"), 1);
                due(does(x, "take d 1;put " + d + " 1;"), 1);
            }
            due(does(x, "take i 1;put 7 0;"), 1);
        });
        test("2, if its KIND does not WIDEN to the ROW's", () -> {
            MendedProgram x = rows();
            due(does(x, "take s 4;put 5 0;"), 0);
            due(x.cell(5, NONE, 0), 4);
            due(does(x, "take j 5;put 5 0;"), 2);
            due(does(x, "take z 1;put 5 0;"), 2);
            due(does(x, "take f 8;put 5 0;"), 2);
            due(x.cell(5, NONE, 0), 4);
        });
        test("(of t: if it is neither missing nor a TEXT;", () -> {
            MendedProgram x = rows();
            due(does(x, "take z 0;put 2 0;"), 2);
            due(does(x, "take i 1;put 2 0;"), 2);
            due(does(x, "text a;put 2 0;"), 0);
            due(does(x, "take i 1;put 2 0;"), 2);
            due(x.cell(2, NONE, 0), 1);
            due(does(x, "none;put 2 0;"), 0);
            due(x.cell(2, NONE, 0), 0);
        });
        test("of n: neither missing nor of KIND i).", () -> {
            MendedProgram x = rows();
            for (String value : new String[] {"take b 1;", "take c 1;", "take s 1;", "take j 1;", "text a;"}) {
                due(does(x, value + "put 3 0;"), 2);
            }
            due(does(x, "take i 9;put 3 0;"), 0);
            due(does(x, "take j 1;put 3 0;"), 2);
            due(x.cell(3, NONE, 0), 9);
            due(does(x, "none;put 3 0;"), 0);
            due(x.cell(3, NONE, 0), 0);
        });
        test("Else it stands there.", () -> {
            MendedProgram x = rows();
            due(does(x, "take c -1;put 5 0;box 5 0;"), 0);
            value(x, I, 65535);
            x.datum(8, F, 3);
            due(does(x, "take s -2;put 8 1;box 8 1;"), 0);
            value(x, F, -8);
            due(does(x, "take f -2;put 8 2;"), 0);
            due(x.cell(8, NONE, 0), 0);
            due(x.cell(8, NONE, 1), -8);
            due(x.cell(8, NONE, 2), -2);
        });
    }

    // ---- 2: the TAPE, CODE, PATCHES ----

    private static void tape() {
        part("Part 2");
        test("The TAPE has up to 500 bytes.", () -> {
            MendedProgram x = new MendedProgram();
            for (int i = 1; i <= 25; i++) due(x.feed(0x7265743b, 0x20202020, 0x20202020, 0x20202020, 0x20202020), 20 * i);
            due(x.feed(0, 0, 0, 0, 0), NONE);
            due(x.told(14), 500);
            refused(ARGUMENT, x, () -> x.function(0, 501));
            due(x.function(0, 500), -7);
            due(x.fault(), 480);
            due(function(x, 0, deedsOf(23) + "ret" + " ".repeat(404) + ";"), 24);
            due(function(x, 0, "ret;" + " ".repeat(495) + "?"), -9);
            due(x.fault(), 499);
            // all of it is read, and nothing behind it: whatever stands at its very end
            String[] ends = {"ret", "rest 5", "take i -", "rest 5 ", "box 1 .", "text abcdef", "take i 9", "get i 0.4 9"};
            for (String end : ends) {
                due(function(x, 0, "ret;" + " ".repeat(496 - end.length()) + end), -9);
                due(x.fault(), 500);
                due(patch(x, "func 0{" + " ".repeat(493 - end.length()) + end), -9);
                due(x.fault(), 500);
            }
            due(function(x, 0, "ret;" + " ".repeat(496)), 1);
            due(function(x, 0, " ".repeat(500)), 0);
            due(patch(x, " ".repeat(491) + "func 0{ }"), 0);
        });
        test("CODE: { DEED \";\" }, 24 DEEDS at most.", () -> {
            fine("", 0);
            fine("   ", 0);
            fine("ret;", 1);
            fine(deedsOf(24), 24);
            faulty(deedsOf(25), 3, 96);
            faulty("ret", 1, 3);
            faulty("ret ret;", 1, 4);
            faulty("ret;;", 1, 4);
            faulty(";", 1, 0);
            faulty("ret;}", 1, 4);
        });
        test("DEED:", () -> {
            for (String word : new String[] {"halt", "re", "rets", "retret", "func", "all", "begin", "done", "undone", "x"}) {
                faulty(word + ";", 1, 0);
            }
            faulty("1;", 1, 0);
            faulty("RET;", 1, 0);
        });
        form("\"call\" F |", "call 0;call 11;", 2, "call 12;", 2, 5);
        form("\"ret\" |", "ret;", 1, "ret 0;", 1, 4);
        form("\"back\" |", "back;", 1, "back 1;", 1, 5);
        form("\"rest\" N |", "rest 0;rest 99;", 2, "rest 100;", 2, 5);
        form("\"skip\" N |", "skip 0;skip 99;", 2, "skip 100;", 2, 5);
        form("\"blur\" |", "blur;", 1, "blur 1;", 1, 5);
        form("\"clear\" |", "clear;", 1, "clear d;", 1, 6);
        form("\"take\" K V |", "take z 0;take d -99999;", 2, "take i;", 1, 6);
        form("\"text\" T |", "text abcdef;text text;", 2, "text 1;", 1, 5);
        form("\"none\" |", "none;", 1, "none i;", 1, 5);
        form("\"get\" K X P |", "get z 0 0;get d 9.4 9;", 2, "get i 0;", 1, 7);
        form("\"set\" K X P V |", "set z 0 0 0;set d 9.4 9 -99999;", 2, "set i 0 0;", 1, 9);
        form("\"box\" X P |", "box 0 0;box 9.4 9;", 2, "box i 0 0;", 1, 4);
        form("\"put\" X P |", "put 0 0;put 9.4 9;", 2, "put 0 0 0;", 1, 8);
        form("\"make\" D M K L |", "make 0 0 z 0;make 9 4 a 9;", 2, "make 0.0 i 1;", 1, 6);
        form("\"free\" D M |", "free 0 0;free 9 4;", 2, "free 0;", 1, 6);
        form("\"shape\" D K L |", "shape 0 z 0;shape 9 a 9;", 2, "shape 0.1 i 1;", 1, 7);
        form("\"keep\" D M |", "keep 0 0;keep 9 4;", 2, "keep 0.0;", 1, 6);
        form("\"lift\" D M.", "lift 0 0;lift 9 4;", 2, "lift 0 5;", 2, 7);
        parts();
    }

    private static void form(String words, String fine, int deeds, String faulty, int fault, int place) {
        test(words, () -> {
            fine(fine, deeds);
            faulty(faulty, fault, place);
        });
    }

    private static void parts() {
        test("F: 0 to 11.", () -> {
            for (int f = 0; f <= 11; f++) fine("call " + f + ";", 1);
            for (String f : new String[] {"12", "99", "011111", "4294967296"}) faulty("call " + f + ";", 2, 5);
            faulty("call -1;", 1, 5);
            faultyPatch("func 12{}", 2, 5);
            faultyPatch("func -1{}", 1, 5);
        });
        test("N: 0 to 99.", () -> {
            for (int n : new int[] {0, 9, 10, 99}) fine("rest " + n + ";skip " + n + ";", 2);
            for (String n : new String[] {"100", "999", "4294967297"}) {
                faulty("rest " + n + ";", 2, 5);
                faulty("skip " + n + ";", 2, 5);
            }
            faulty("rest -1;", 1, 5);
            faulty("rest;", 1, 4);
        });
        test("K: a KIND's letter (of take, get, set: z to d).", () -> {
            for (int k = 0; k < 26; k++) {
                char letter = (char) ('a' + k);
                int kind = LETTERS.indexOf(letter);
                letter(kind >= Z && kind <= D, "take " + letter + " 0;", 5);
                letter(kind >= Z && kind <= D, "get " + letter + " 0 0;", 4);
                letter(kind >= Z && kind <= D, "set " + letter + " 0 0 0;", 4);
                letter(kind >= Z, "make 0 0 " + letter + " 0;", 9);
                letter(kind >= Z, "shape 0 " + letter + " 0;", 8);
            }
            faulty("take ii 0;", 1, 5);
            faulty("take I 0;", 1, 5);
            faulty("take 4 0;", 1, 5);
            faulty("make 0 0 0;", 1, 9);
            // the letters in the order of the KINDS
            MendedProgram x = row(Z, 0);
            for (int kind = Z; kind <= A; kind++) {
                due(does(x, "shape 0 " + LETTERS.charAt(kind) + " 0;"), 0);
                due(x.datumOf(0, 0), kind);
            }
        });
        test("V: [\"-\"] a number of 0 to 99,999.", () -> {
            fine("take i 0;take i 99999;take i -0;take i -99999;take i - 5;take i-5;", 6);
            fine("set i 0 0 0;set i 0 0 99999;set i 0 0 -99999;set i 0 0-1;", 4);
            faulty("take i 100000;", 2, 7);
            faulty("take i -100000;", 2, 8);
            faulty("set i 0 0 100000;", 2, 10);
            faulty("set i 0 0 - 100000;", 2, 12);
            faulty("take i 99,999;", 1, 9);
            faulty("take i --1;", 1, 8);
            faulty("take i +1;", 1, 7);
            faulty("take i -;", 1, 8);
            MendedProgram x = new MendedProgram();
            does(x, "take i -99999;");
            value(x, I, -99999);
            does(x, "take i -0;");
            value(x, I, 0);
        });
        test("T: a TEXT.", () -> {
            fine("text a;text zzzzzz;text ret;", 3);
            faulty("text abcdefg;", 1, 5);
            faulty("text;", 1, 4);
            faulty("text ab cd;", 1, 8);
        });
        test("X: D, or D \".\" M (a SHADOW).", () -> {
            fine("box 0 0;box 9.4 0;box 0 . 1 0;box 0. 1 0;box 0 .1 0;", 5);
            faulty("box 10 0;", 2, 4);
            faulty("box 10.0 0;", 2, 4);
            faulty("box 0.5 0;", 2, 6);
            faulty("box .0 0;", 1, 4);
            faulty("box 0. ;", 1, 7);
            faulty("box 0.0.0 0;", 1, 7);
            MendedProgram x = row(I, 1);
            x.set(I, 0, 0, 5);
            x.keep(0, 3, 0);
            x.set(I, 0, 0, 6);
            does(x, "box 0.3 0;");
            value(x, I, 5);
            does(x, "box 0 0;");
            value(x, I, 6);
            due(does(x, "box 0.2 0;"), 3);
        });
        test("D: 0 to 9.", () -> {
            for (String word : new String[] {"free %s 0;", "keep %s 0;", "lift %s 0;", "box  %s 0;", "make %s 0 i 0;"}) {
                fine(String.format(word, 0) + String.format(word, 9), 2);
                faulty(String.format(word, 10), 2, 5);
                faulty(String.format(word, "-1"), 1, 5);
            }
            fine("shape 0 i 0;shape 9 i 0;", 2);
            faulty("shape 10 i 0;", 2, 6);
        });
        test("P, L: 0 to 9.", () -> {
            fine("get i 0 0;get i 0 9;box 0 0;box 0 9;put 0 0;put 0 9;set i 0 0 0;set i 0 9 0;", 8);
            fine("make 0 0 i 0;make 0 0 i 9;shape 0 i 0;shape 0 i 9;", 4);
            faulty("get i 0 10;", 2, 8);
            faulty("set i 0 10 0;", 2, 8);
            faulty("box 0 10;", 2, 6);
            faulty("put 0 10;", 2, 6);
            faulty("make 0 0 i 10;", 2, 11);
            faulty("shape 0 i 10;", 2, 10);
            faulty("box 0 -1;", 1, 6);
        });
        test("M: 0 to 4.", () -> {
            fine("make 0 4 i 0;free 0 4;keep 0 4;lift 0 4;get i 0.4 0;", 5);
            faulty("make 0 5 i 0;", 2, 7);
            faulty("free 0 5;", 2, 7);
            faulty("keep 0 5;", 2, 7);
            faulty("lift 0 5;", 2, 7);
            faulty("get i 0.5 0;", 2, 8);
            faulty("set i 0.5 0 0;", 2, 8);
            faulty("put 0.5 0;", 2, 6);
            faulty("keep 0 -1;", 1, 7);
        });
    }

    private static void letter(boolean can, String code, int place) {
        if (can) {
            fine(code, 1);
        } else {
            faulty(code, 1, place);
        }
    }

    private static void faults() {
        test("Words: small letters, as many as stand there;", () -> {
            faulty("retx;", 1, 0);
            faulty("takei 1;", 1, 0);
            faulty("resta;", 1, 0);
            fine("rest1;", 1);
            fine("text textab;", 1);
            faulty("reT;", 1, 0);
            finePatch("all func 0{}", 1, 1, 0);
            faultyPatch("allfunc 0{}", 1, 0);
            faultyPatch("funca 0{}", 1, 0);
            faultyPatch("func 0{}donee{}", 1, 8);
        });
        test("numbers: digits, as many as stand there;", () -> {
            faulty("box 00;", 1, 6);
            fine("box 000 0009;", 1);
            fine("rest 00000000000099;", 1);
            faulty("rest 0000000000000100;", 2, 5);
            faulty("rest 99999999999999999999999;", 2, 5);
            faulty("rest 18446744073709551616;", 2, 5);
            faulty("take i 1000000000000;", 2, 7);
            faulty("rest 9 9;", 1, 7);
            faulty("rest 1a;", 1, 6);
        });
        test("blanks (32) may stand ahead of all these and of signs, and at the end.", () -> {
            fine("  ret  ;  rest   5 ;take  i  -  7 ; box  1  .  2   3  ;text   ab  ; ", 5);
            fine("ret;get j0.0 0;take i-7;", 3);
            for (int sign : new int[] {0, 9, 10, 13, 31, 33, 127, 160, 255}) {
                faulty((char) sign + "ret;", 1, 0);
                faulty("ret" + (char) sign + ";", 1, 3);
                faulty("rest 5" + (char) sign + ";", 1, 6);
                faulty("ret;" + (char) sign, 1, 4);
            }
            finePatch("  all  func  3  {  ret  ;  }  begin  {  }  done  {  }  undone  {  }  ", 8, 1, 1);
            faulty("r et;", 1, 0);
            faulty("take i 1 2;", 1, 9);
        });
        test("FAULTS, the first from the left, at its first byte:", () -> {
            faulty("rest 100;xyz;", 2, 5);
            faulty("xyz;rest 100;", 1, 0);
            faulty("ret;  take   x 100000;", 1, 13);
            faulty("ret;  take   i   100000;rest 100;", 2, 17);
            faultyPatch("func 0{rest 100;}func 0{}", 2, 12);
            faultyPatch("func 0{}func 0{rest 100;}", 4, 13);
            faultyPatch("func 0{" + deedsOf(25) + "}func 12{}", 3, 103);
            faulty(deedsOf(24) + "  rest 100;", 3, 98);
        });
        test("1 what can't stand there (at the length, if the text ends too early);", () -> {
            String[] texts = {"ret", "ret  ", "rest", "rest ", "rest 5", "rest 5 ", "take", "take i", "take i -", "take i - ",
                "text", "text ab", "box 1", "box 1.", "box 1 .", "make 1 1 i", "set i 0 0 -", "ret;re", "re"};
            for (String text : texts) {
                boolean cut = text.endsWith("re");
                faulty(text, 1, cut ? text.length() - 2 : text.length());
            }
            String[] patches = {"", " ", "all", "all ", "func", "func ", "func 1", "func 1 ", "func 1{", "func 1{ret", "func 1{ret;",
                "func 1{ret; ", "func 1{}begin", "func 1{}begin{", "func 1{}done{ret;", "func 1{}undone", "func 1{}undone {"};
            for (String text : patches) faultyPatch(text, 1, text.length());
            // the first n bytes are the text, whatever stands behind them
            MendedProgram x = new MendedProgram();
            lay(x, "rest 55;ret;");
            due(x.function(0, 6), -9);
            due(x.fault(), 6);
            String[] more = {"ret;", "retx", "rest 12;", "box 1.2 3;", "take i -5;", "text abc;", "take i 5;"};
            int[] lengths = {3, 3, 6, 6, 8, 7, 6};
            for (int i = 0; i < more.length; i++) {
                lay(x, more[i]);
                due(x.function(0, lengths[i]), -9);
                due(x.fault(), lengths[i]);
            }
            lay(x, "func 1{}");
            due(x.patch(7), -9);
            due(x.fault(), 7);
            lay(x, "func 11{}");
            due(x.patch(6), -9);
            due(x.fault(), 6);
        });
        test("2 a number that is none such;", () -> {
            faulty("call 12;", 2, 5);
            faulty("skip  100;", 2, 6);
            faulty("take i 100000;", 2, 7);
            faulty("take i -  100000;", 2, 10);
            faulty("get i 10.0 0;", 2, 6);
            faulty("get i 0.05 0;", 2, 8);
            faulty("call 12", 2, 5);
            faultyPatch("func 12", 2, 5);
        });
        test("3 a 25th DEED of one CODE, a ninth FUNC of a PATCH;", () -> {
            fine(deedsOf(24) + " ", 24);
            faulty(deedsOf(24) + "none;", 3, 96);
            faulty(deedsOf(24) + " call 12", 3, 97);
            StringBuilder eight = new StringBuilder();
            for (int f = 0; f < 8; f++) eight.append("func ").append(f).append("{}");
            finePatch(eight.toString(), 255, 0, 0);
            faultyPatch(eight + "func 8{}", 3, 64);
            faultyPatch(eight + "  func 8{}", 3, 66);
            faultyPatch(eight + "func 0{}", 3, 64);
            faultyPatch(eight + "func 12{}", 3, 64);
            faultyPatch(eight + "func", 3, 64);
            faultyPatch("func 0{" + deedsOf(25) + "}", 3, 103);
            faultyPatch("func 0{}begin{" + deedsOf(25) + "}", 3, 110);
            faultyPatch("func 0{}done{" + deedsOf(25) + "}", 3, 109);
            faultyPatch("func 0{}undone{" + deedsOf(25) + "}", 3, 111);
            finePatch("func 0{" + deedsOf(24) + "}func 1{" + deedsOf(24) + "}begin{" + deedsOf(24) + "}done{" + deedsOf(24)
                    + "}", 3, 0, 96);
        });
        test("4 a FUNC that the PATCH has already (at F).", () -> {
            faultyPatch("func 0{}func 0{}", 4, 13);
            faultyPatch("func 11{}func 1{}func   11{}", 4, 24);
            faultyPatch("func 0{}func 0", 4, 13);
            faultyPatch("func 0{}func 000{}", 4, 13);
            // another PATCH may have it
            MendedProgram x = new MendedProgram();
            due(patch(x, "func 0{}"), 0);
            due(patch(x, "func 0{}"), 1);
        });
        functionsAndPatches();
    }

    private static void functionsAndPatches() {
        test("FUNCTIONS 0 to 11, each with CODE", () -> {
            MendedProgram x = new MendedProgram();
            for (int f = 0; f < 12; f++) due(function(x, f, "take i " + (f + 20) + ";"), 1);
            for (int f = 0; f < 12; f++) {
                x.start(0, f);
                x.step(0);
                due(x.number(0), f + 20);
                x.kill(0);
            }
            for (int f : new int[] {12, -1, MOST, LEAST}) {
                refused(ELEMENT, x, () -> x.function(f, 0));
                refused(ELEMENT, x, () -> x.start(0, f));
            }
        });
        test("(none of them has any at first: no DEEDS).", () -> {
            MendedProgram x = new MendedProgram();
            for (int f = 0; f < 12; f++) {
                due(x.start(0, f), NONE);
                due(x.frame(0, 0, 2), 0);
                due(x.step(0), 0);
                due(x.told(6), 63);
            }
        });
        test("A PATCH: [ \"all\" ]", () -> {
            finePatch("all func 0{}", 1, 1, 0);
            finePatch("func 0{}", 1, 0, 0);
            faultyPatch("all all func 0{}", 1, 4);
            faultyPatch("func 0{}all", 1, 8);
            faultyPatch("all;func 0{}", 1, 3);
        });
        test("{ \"func\" F \"{\" CODE \"}\" }", () -> {
            finePatch("func 0{}func 11{ret;}func 5{ret;ret;}", 1 | 1 << 11 | 1 << 5, 0, 3);
            faultyPatch("func {}", 1, 5);
            faultyPatch("func 0 ret;}", 1, 7);
            faultyPatch("func 0{ret}", 1, 10);
            faultyPatch("func 0{;}", 1, 7);
            faultyPatch("func 0{{}}", 1, 7);
            faultyPatch("func 0{}}", 1, 8);
            faultyPatch("func 0{};", 1, 8);
            faultyPatch("func 0{func 1{}}", 1, 7);
        });
        test("[ \"begin\" \"{\" CODE \"}\" ] [ \"done\" \"{\" CODE \"}\" ] [ \"undone\" \"{\" CODE \"}\" ]", () -> {
            finePatch("func 0{}begin{ret;}", 1, 0, 1);
            finePatch("func 0{}done{ret;ret;}", 1, 0, 2);
            finePatch("func 0{}undone{ret;ret;ret;}", 1, 0, 3);
            finePatch("func 0{}begin{ret;}done{ret;ret;}undone{ret;ret;ret;}", 1, 0, 6);
            finePatch("func 0{}begin{}undone{}", 1, 0, 0);
            faultyPatch("func 0{}done{}begin{}", 1, 14);
            faultyPatch("func 0{}undone{}done{}", 1, 16);
            faultyPatch("func 0{}undone{}begin{}", 1, 16);
            faultyPatch("func 0{}begin{}begin{}", 1, 15);
            faultyPatch("func 0{}done{}done{}", 1, 14);
            faultyPatch("func 0{}undone{}undone{}", 1, 16);
            faultyPatch("func 0{}begin{}func 1{}", 1, 15);
            faultyPatch("func 0{}begin ret;", 1, 14);
            faultyPatch("func 0{}begin 0{}", 1, 14);
        });
        test("(1 to 8 of func).", () -> {
            faultyPatch("", 1, 0);
            faultyPatch("all", 1, 3);
            faultyPatch("begin{}", 1, 0);
            faultyPatch("all  done{}", 1, 5);
            finePatch("func 7{}", 128, 0, 0);
            StringBuilder text = new StringBuilder();
            for (int f = 11; f > 3; f--) text.append("func ").append(f).append("{none;}");
            finePatch(text.toString(), 255 << 4, 0, 8);
            faultyPatch(text + "func 3{}", 3, text.length());
        });
    }

    // ---- 2: TASKS and their DEEDS ----

    private static void deeds() {
        test("TASKS 0 to 5, IDLE at first, each with a VALUE (missing at first),", () -> {
            MendedProgram x = new MendedProgram();
            due(x.told(6), 63);
            for (int t = 0; t < 6; t++) {
                due(x.task(t, 2), NONE);
                due(x.number(t), 0);
                int task = t;
                refused(STATE, x, () -> x.step(task));
                due(x.start(t, 0), NONE);
                due(x.told(6), 63 - ((2 << t) - 1));
            }
            for (int t : new int[] {6, -1, MOST, LEAST}) refused(ELEMENT, x, () -> x.start(t, 0));
            // a VALUE of its own each
            MendedProgram y = with("take i 1;", "text b;");
            y.start(0, 0);
            y.start(1, 1);
            y.go(1);
            due(y.number(0), 1);
            due(y.number(1), 2);
            due(y.task(2, 2), NONE);
        });
        test("a STACK of FRAMES (10 at most): of which FUNCTION, by which PATCH's CODE (or its own), at which DEED, blurred or not.",
                () -> {
            MendedProgram x = with("none;blur;call 1;", "call 1;");
            patch(x, "func 2{}func 1{none;none;call 1;}");
            x.enable(0);
            x.start(4, 0);
            x.go(6);
            due(x.task(4, 0), 3);
            int[][] frames = {{1, 0, 0, 0}, {1, 0, 3, 0}, {0, NONE, 3, 1}};
            for (int f = 0; f < 3; f++) {
                for (int what = 0; what < 4; what++) due(x.frame(4, f, what), frames[f][what]);
            }
            x.go(21);
            due(x.task(4, 0), 10);
            due(x.go(2), 0);
            due(x.go(1), 1);
            due(x.task(4, 0), 10);
            due(x.task(4, 1), 3);
        });
        test("To do a DEED, the one of the topmost FRAME (none left: as ret):", () -> {
            MendedProgram x = with("call 1;take i 1;", "take i 2;", "");
            x.start(0, 0);
            x.step(0);
            x.step(0);
            due(x.number(0), 2);
            due(x.frame(0, 0, 2), 1);
            due(x.step(0), 0);
            due(x.task(0, 0), 1);
            x.step(0);
            due(x.number(0), 1);
            due(x.step(0), 0);
            due(x.task(0, 0), 0);
            due(x.task(0, 6), 5);
            x.start(1, 2);
            due(x.step(1), 0);
            due(x.task(1, 0), 0);
            due(x.task(1, 6), 1);
        });
        test("call: a FRAME more (of 10: TRAP 3, no more);", () -> {
            MendedProgram x = with("call 0;take i 7;");
            x.start(0, 0);
            for (int frames = 2; frames <= 10; frames++) {
                due(x.step(0), 0);
                due(x.task(0, 0), frames);
            }
            due(x.step(0), 3);
            due(x.task(0, 0), 10);
            due(x.frame(0, 0, 2), 1);
            due(x.told(10), 1);
            due(x.step(0), 0);
            due(x.number(0), 7);
            // with nine of them again, there is room for a tenth
            MendedProgram y = with("call 1;back;", "call 0;");
            y.start(0, 0);
            y.go(9);
            due(y.task(0, 0), 10);
            due(y.go(2), 1);
            due(y.task(0, 0), 9);
            due(y.go(1), 0);
            due(y.task(0, 0), 9);
            due(y.go(1), 0);
            due(y.task(0, 0), 10);
        });
        test("it is at the DEED behind when that is gone.", () -> {
            MendedProgram x = with("none;call 1;take i 3;", "ret;");
            x.start(0, 0);
            x.go(3);
            due(x.task(0, 0), 1);
            due(x.frame(0, 0, 2), 2);
            x.step(0);
            due(x.number(0), 3);
            MendedProgram y = with("call 1;", "");
            y.start(0, 0);
            y.go(2);
            due(y.frame(0, 0, 2), 1);
            due(y.task(0, 0), 1);
        });
        test("ret: the topmost FRAME is gone; without FRAMES the TASK is IDLE.", () -> {
            MendedProgram x = with("call 1;", "call 2;", "ret;take i 1;");
            x.start(0, 0);
            x.go(2);
            due(x.task(0, 0), 3);
            due(x.step(0), 0);
            due(x.task(0, 0), 2);
            due(x.number(0), 0);
            x.start(1, 2);
            due(x.told(6), 60);
            due(x.step(1), 0);
            due(x.told(6), 62);
            due(x.task(1, 0), 0);
            refused(STATE, x, () -> x.step(1));
        });
        test("back: it is at its first DEED.", () -> {
            MendedProgram x = with("none;call 1;back;", "back;");
            x.start(0, 0);
            due(x.step(0), 0);
            x.step(0);
            // of the topmost FRAME alone; and again and again
            for (int i = 0; i < 3; i++) {
                due(x.step(0), 0);
                due(x.frame(0, 0, 2), 0);
                due(x.frame(0, 1, 2), 2);
            }
            MendedProgram y = with("blur;take i 2;back;");
            y.start(0, 0);
            y.go(3);
            due(y.frame(0, 0, 2), 0);
            due(y.frame(0, 0, 3), 1);
            due(y.number(0), 2);
        });
        restAndSkip();
        blurAndValues();
        dataDeeds();
    }

    private static void restAndSkip() {
        test("rest: it does nothing for N TICKS more (this one aside), then is at the next DEED.", () -> {
            for (int n : new int[] {0, 1, 2, 59}) {
                MendedProgram x = with("rest " + n + ";take i 1;");
                x.start(0, 0);
                x.go(1);
                due(x.task(0, 3), n);
                due(x.task(0, 6), 1);
                if (n > 0) {
                    due(x.frame(0, 0, 2), 0);
                    x.go(n);
                }
                due(x.frame(0, 0, 2), 1);
                due(x.task(0, 3), 0);
                due(x.number(0), 0);
                x.go(1);
                due(x.number(0), 1);
                due(x.told(7), n + 2);
            }
            MendedProgram x = with("rest 99;take i 1;");
            x.start(3, 0);
            x.go(60);
            due(x.task(3, 3), 40);
            x.go(39);
            due(x.task(3, 3), 1);
            due(x.frame(3, 0, 2), 0);
            x.go(1);
            due(x.frame(3, 0, 2), 1);
            due(x.number(3), 0);
            x.go(1);
            due(x.number(3), 1);
            due(x.task(3, 6), 2);
        });
        test("skip: if its VALUE is missing, or a number 0: the next N DEEDS are left out.", () -> {
            String[] values = {"none", "take z 0", "take b 256", "take c 65536", "take s 0", "take i 0", "take j 0", "take f 0",
                "take d -0"};
            for (String v : values) skips(v, 2, 4);
            String[] others = {"take z 1", "take b 1", "take c -1", "take i 99999", "take j -1", "take f 1", "take d -1", "text a",
                "text o"};
            for (String v : others) skips(v, 2, 2);
            skips("none", 0, 2);
            skips("none", 1, 3);
            // as many as there are: behind all
            skips("none", 3, 5);
            skips("none", 4, 5);
            skips("none", 99, 5);
            // the VALUE that it has without having done a DEED of it
            MendedProgram x = with("skip 1;ret;take i 1;");
            x.start(0, 0);
            x.go(2);
            due(x.number(0), 1);
        });
    }

    private static void skips(String value, int n, int place) {
        MendedProgram x = with(value + ";skip " + n + ";text x;text y;text z;");
        x.start(0, 0);
        x.step(0);
        due(x.step(0), 0);
        due(x.frame(0, 0, 2), place);
        due(x.step(0), 0);
        if (place == 5) {
            due(x.task(0, 0), 0);
        } else {
            due(x.number(0), 22 + place);
        }
    }

    private static void blurAndValues() {
        test("blur, clear: the FRAME is blurred, or not any more.", () -> {
            MendedProgram x = with("blur;blur;call 1;clear;clear;", "ret;");
            x.start(0, 0);
            int[] blurred = {1, 1, 0, 1, 0, 0};
            for (int b : blurred) {
                due(x.step(0), 0);
                due(x.frame(0, 0, 3), b);
            }
            // a FRAME that comes where a blurred one was is not blurred
            MendedProgram y = with("call 1;back;", "blur;");
            y.start(0, 0);
            y.go(5);
            due(y.frame(0, 0, 0), 1);
            due(y.frame(0, 0, 3), 0);
            due(y.frame(0, 1, 3), 0);
        });
        test("take, text, none: its VALUE is that (take: V cut to K, as of SET).", () -> {
            MendedProgram x = new MendedProgram();
            String[] deeds = {"take z -3;", "take z 0;", "take b 128;", "take c -1;", "take s -32769;", "take i -99999;",
                "take j 99999;", "take f 7;", "take d -99999;"};
            int[] kinds = {Z, Z, B, C, S, I, J, F, D};
            long[] numbers = {1, 0, -128, 65535, 32767, -99999, 99999, 7, -99999};
            for (int i = 0; i < deeds.length; i++) {
                due(does(x, deeds[i]), 0);
                value(x, kinds[i], numbers[i]);
            }
            due(does(x, "text zz;"), 0);
            value(x, TEXT, 728);
            due(does(x, "none;"), 0);
            value(x, NONE, 0);
            // by DEED and by hand alike
            for (int kind = Z; kind <= D; kind++) {
                for (int v : new int[] {-99999, -70000, -300, 0, 200, 40000, 99999}) {
                    does(x, "take " + LETTERS.charAt(kind) + " " + v + ";");
                    due(x.number(5), cut(kind, v));
                }
            }
        });
        test("get, set, box, put: as told above (put: of its VALUE).", () -> {
            MendedProgram x = rows();
            x.set(I, 5, 0, 9);
            due(does(x, "get j 5 0;"), 0);
            value(x, J, 9);
            due(does(x, "get s 5 0;"), 2);
            due(does(x, "text c;set i 5 0 -4;"), 0);
            value(x, TEXT, 3);
            due(x.cell(5, NONE, 0), -4);
            due(does(x, "set b 5 0 129;"), 0);
            due(x.cell(5, NONE, 0), -127);
            due(does(x, "set j 5 0 1;"), 2);
            due(does(x, "text d;put 4 0;"), 0);
            due(x.cell(4, NONE, 0), 4);
            value(x, TEXT, 4);
            due(does(x, "box 5 0;put 4 0;none;box 4 0;"), 0);
            value(x, I, -127);
            // of a SHADOW as of a DATUM
            x.keep(5, 2, 0);
            due(does(x, "set i 5.2 0 6;get d 5.2 0;"), 0);
            value(x, D, 24);
            due(x.cell(5, NONE, 0), -127);
            due(x.cell(5, 2, 0), 6);
            due(does(x, "take s 3;put 5.2 0;none;box 5.2 0;"), 0);
            value(x, I, 3);
            due(does(x, "box 5.2 1;"), 1);
            due(does(x, "put 5.2 0;"), 2);
        });
    }

    private static void dataDeeds() {
        test("make: a SHADOW M of D that is missing is a ROW of KIND K, of L places (3, if D is missing; nothing, if there is one).",
                () -> {
            MendedProgram x = rows();
            for (int kind = Z; kind <= A; kind++) {
                x.datum(1, THING, 0);
                due(does(x, "make 1 4 " + LETTERS.charAt(kind) + " " + (kind % 10) + ";"), 0);
                due(x.shadowOf(1, 4, 0), kind);
                due(x.shadowOf(1, 4, 1), kind % 10);
                due(x.datumOf(1, 0), THING);
            }
            due(does(x, "make 0 0 i 1;"), 3);
            due(x.told(13), 1);
            due(does(x, "make 5 1 i 2;set i 5.1 1 7;make 5 1 d 9;"), 0);
            due(x.shadowOf(5, 1, 0), I);
            due(x.shadowOf(5, 1, 1), 2);
            due(x.cell(5, 1, 1), 7);
            // a SHADOW made anew has nothing of what was there
            due(does(x, "free 5 1;make 5 1 i 2;"), 0);
            due(x.cell(5, 1, 1), 0);
            due(does(x, "make 5 0 a 2;text a;box 5.0 1;"), 0);
            value(x, NONE, 0);
        });
        test("free: it is missing (3, if it is already, or D is).", () -> {
            MendedProgram x = rows();
            x.keep(5, 1, 0);
            x.keep(5, 2, 0);
            due(does(x, "free 5 1;"), 0);
            due(x.datumOf(5, 2), 4);
            due(x.shadowOf(5, 1, 0), MISSING);
            due(x.shadowOf(5, 1, 1), 0);
            due(does(x, "free 5 1;"), 3);
            due(does(x, "free 0 1;"), 3);
            due(does(x, "free 1 1;"), 3);
            due(x.datumOf(5, 0), I);
        });
        test("shape: the ROW D is one of KIND K, of L places, to which is PUT what stands at each place that both have", () -> {
            MendedProgram x = row(S, 3);
            for (int p = 0; p < 3; p++) x.set(S, 0, p, p + 4);
            due(does(x, "shape 0 f 2;"), 0);
            due(x.datumOf(0, 0), F);
            due(x.datumOf(0, 1), 2);
            due(x.cell(0, NONE, 0), 16);
            due(x.cell(0, NONE, 1), 20);
            due(does(x, "shape 0 a 4;"), 0);
            due(does(x, "box 0 1;"), 0);
            value(x, F, 20);
            due(does(x, "take i 1;box 0 2;"), 0);
            value(x, NONE, 0);
            // places that one of them does not have are as at first
            due(does(x, "text q;put 0 3;shape 0 a 3;shape 0 a 9;take i 1;box 0 3;"), 0);
            value(x, NONE, 0);
            x.datum(1, I, 2);
            x.set(I, 1, 1, 5);
            due(does(x, "shape 1 i 1;shape 1 i 2;"), 0);
            due(x.cell(1, NONE, 1), 0);
            // no place in common: any KIND of any
            due(does(x, "shape 1 t 0;shape 1 z 9;shape 1 z 0;shape 1 n 1;"), 0);
            due(x.datumOf(1, 0), N);
        });
        test("(its SHADOWS stay; 3, if D is missing; 2, if it is a THING, or any of that can't be PUT: it stays as it is then).",
                () -> {
            MendedProgram x = rows();
            due(does(x, "shape 0 i 1;"), 3);
            due(does(x, "shape 1 i 0;"), 2);
            x.datum(8, A, 3);
            due(does(x, "take i 1;put 8 0;take i 2;put 8 1;text a;put 8 2;keep 8 1;"), 0);
            due(does(x, "shape 8 i 3;"), 2);
            due(x.datumOf(8, 0), A);
            due(x.datumOf(8, 1), 3);
            due(does(x, "box 8 1;"), 0);
            value(x, I, 2);
            due(does(x, "box 8 2;"), 0);
            value(x, TEXT, 1);
            due(does(x, "shape 8 d 9;"), 2);
            due(does(x, "shape 8 s 2;"), 2);
            due(does(x, "shape 8 j 2;"), 0);
            due(x.datumOf(8, 2), 2);
            due(x.shadowOf(8, 1, 0), A);
            due(x.cell(8, 1, 2), 1);
            due(does(x, "shape 8 t 1;"), 2);
            due(does(x, "shape 8 n 1;"), 2);
        });
        test("keep: the SHADOW M of D is a ROW as D is, of the same KIND, with the same VALUES, whatever it was "
                + "(3, if D is missing; 2, a THING).", () -> {
            MendedProgram x = rows();
            due(does(x, "keep 0 0;"), 3);
            due(does(x, "make 1 0 i 3;keep 1 0;"), 2);
            due(x.shadowOf(1, 0, 1), 3);
            due(does(x, "make 5 4 t 9;set i 5 0 8;keep 5 4;set i 5 0 9;"), 0);
            due(x.shadowOf(5, 4, 0), I);
            due(x.shadowOf(5, 4, 1), 1);
            due(x.cell(5, 4, 0), 8);
            due(does(x, "text b;put 4 0;keep 4 2;none;box 4.2 0;"), 0);
            value(x, TEXT, 2);
            due(does(x, "set i 5.4 0 1;"), 0);
            due(x.cell(5, NONE, 0), 9);
        });
        test("lift: D is the ROW that its SHADOW M is, which is missing then (3, if D or that is missing).", () -> {
            MendedProgram x = rows();
            due(does(x, "lift 0 0;"), 3);
            due(does(x, "lift 5 0;"), 3);
            due(does(x, "lift 1 0;"), 3);
            due(does(x, "make 5 3 f 2;set f 5.3 1 5;keep 5 1;lift 5 3;"), 0);
            due(x.datumOf(5, 0), F);
            due(x.datumOf(5, 1), 2);
            due(x.cell(5, NONE, 1), 5);
            due(x.datumOf(5, 2), 2);
            due(x.shadowOf(5, 3, 0), MISSING);
            due(x.shadowOf(5, 3, 1), 0);
            due(x.told(12), 4 + 2 + 1);
            due(does(x, "lift 5 3;"), 3);
            // a THING is a ROW then
            due(does(x, "make 1 0 n 0;lift 1 0;"), 0);
            due(x.datumOf(1, 0), N);
            due(x.shapes(1), 2047);
        });
        test("Each DEED but these stands ahead of the next one;", () -> {
            String[] deeds = {"blur", "clear", "take i 1", "text a", "none", "get i 5 0", "get i 0 0", "set i 5 0 1", "set i 0 0 1",
                "box 5 0", "box 0 0", "put 4 0", "put 0 0", "make 1 0 i 1", "make 0 0 i 1", "free 5 0", "shape 5 i 1", "shape 0 i 1",
                "keep 5 0", "keep 0 0", "lift 5 0", "lift 0 0"};
            MendedProgram x = rows();
            for (String deed : deeds) {
                does(x, "none;" + deed + ";");
                due(x.frame(5, 0, 2), 2);
            }
        });
        test("its TRAP is the TASK's (0 for those that have none).", () -> {
            String[] none = {"ret", "back", "rest 0", "rest 3", "skip 1", "blur", "clear", "take i 1", "text a", "none", "call 0"};
            for (String deed : none) {
                MendedProgram x = new MendedProgram();
                due(does(x, "get i 0 0;" + deed + ";"), 0);
                due(x.task(5, 1), 0);
                due(x.told(10), 1);
            }
            for (String deed : new String[] {"take i 1;skip 1", "none;skip 0"}) {
                MendedProgram x = new MendedProgram();
                due(does(x, "get i 0 0;" + deed + ";"), 0);
                due(x.told(10), 1);
            }
            MendedProgram x = rows();
            due(does(x, "box 5 1;"), 1);
            due(x.task(5, 1), 1);
            due(does(x, "shape 1 i 0;"), 2);
            due(x.task(5, 1), 2);
            due(does(x, "lift 5 0;"), 3);
            due(x.task(5, 1), 3);
            due(x.told(10), 3);
        });
    }

    // ---- 3 and 4 ----

    private static final String LONG = "rest 99;";

    /** Six TASKS, each in FUNCTION 0, that rest. */
    private static MendedProgram sixInZero() {
        MendedProgram x = with(LONG);
        for (int t = 0; t < 6; t++) x.start(t, 0);
        return x;
    }

    private static void turning() {
        part("Part 3");
        test("STACKED PATCHES: one on top of the other, the lowest first.", () -> {
            MendedProgram x = new MendedProgram();
            int[] order = {3, 7, 0, 5, 1, 6, 2, 4};
            for (int p = 0; p < 8; p++) due(patch(x, "func " + p + "{}"), p);
            for (int place = 0; place < 8; place++) {
                due(x.told(2), place == 0 ? NONE : order[place - 1]);
                due(x.enable(order[place]), 0);
                due(x.patchOf(order[place], 0), place);
                due(x.told(1), place + 1);
            }
            for (int place = 0; place < 8; place++) due(x.patchOf(order[place], 0), place);
            for (int place = 7; place >= 0; place--) {
                due(x.told(2), order[place]);
                due(x.disable(), 0);
                due(x.patchOf(order[place], 0), NONE);
            }
            due(x.told(1), 0);
            refused(STATE, x, x::disable);
        });
        test("A FUNCTION is called by the topmost of them that has it;", () -> {
            MendedProgram x = with("call 1;call 2;call 3;", "", "", "");
            patch(x, "func 1{}func 2{}func 3{}");
            patch(x, "func 1{}func 2{}");
            patch(x, "func 1{}");
            x.enable(2);
            due(x.calls(0, 1), 2);
            due(x.calls(0, 2), NONE);
            x.enable(1);
            x.enable(0);
            for (int f = 1; f <= 3; f++) due(x.calls(0, f), 0);
            x.disable();
            due(x.calls(0, 1), 1);
            due(x.calls(0, 2), 1);
            due(x.calls(0, 3), NONE);
            x.start(0, 0);
            x.step(0);
            due(x.frame(0, 0, 1), 1);
            x.disable();
            // it goes on by the CODE by which it was called
            due(x.told(4), 0);
            due(x.frame(0, 0, 1), 1);
            x.go(4);
            due(x.frame(0, 0, 0), 3);
            due(x.frame(0, 0, 1), NONE);
        });
        test("but of one that is TURNING it is left out for TASKS that are not TURNED.", () -> {
            MendedProgram x = with(LONG, "call 0;ret;");
            patch(x, "func 0{}");
            patch(x, "func 0{}");
            x.start(0, 0);
            due(x.enable(1), 1);
            due(x.calls(0, 0), NONE);
            due(x.calls(1, 0), 1);
            x.force();
            due(x.calls(0, 0), 1);
            due(x.enable(0), 1);
            due(x.calls(0, 0), 1);
            due(x.calls(1, 0), 0);
            due(x.start(1, 0), 0);
            due(x.force(), 1);
            due(x.disable(), 2);
            due(x.calls(0, 0), 0);
            due(x.calls(1, 0), 0);
            due(x.calls(2, 0), 1);
            due(x.start(2, 0), 1);
        });
        enabling();
        whoTurns();
        whenOver();
        whatPatchesDo();
    }

    private static void enabling() {
        test("To enable a PATCH (not stacked): it does its begin; it is on top, TURNING on; no TASK is TURNED.", () -> {
            MendedProgram x = sixInZero();
            x.datum(0, I, 1);
            patch(x, "func 0{}begin{set i 0 0 1;}done{set i 0 0 2;}undone{set i 0 0 3;}");
            patch(x, "func 1{}");
            due(x.enable(1), 0);
            due(x.enable(0), 6);
            due(x.cell(0, NONE, 0), 1);
            due(x.told(2), 0);
            due(x.told(3), 0);
            due(x.told(4), 1);
            due(x.told(5), 0);
            due(x.patchOf(0, 0), 1);
            for (int t = 0; t < 6; t++) due(x.task(t, 4), 0);
            // what a turning ahead of it has left does not count
            x.force();
            x.disable();
            x.reverse();
            x.disable();
            x.force();
            due(x.told(1), 1);
            due(x.enable(0), 6);
            due(x.told(5), 0);
        });
        test("To disable the topmost: it is TURNING off; all TASKS are TURNED.", () -> {
            MendedProgram x = sixInZero();
            x.datum(0, I, 1);
            patch(x, "func 0{}undone{set i 0 0 3;}");
            x.enable(0);
            x.force();
            due(x.disable(), 6);
            due(x.told(2), 0);
            due(x.told(3), 0);
            due(x.told(4), 0);
            due(x.told(5), 63);
            due(x.cell(0, NONE, 0), 0);
            for (int t = 0; t < 6; t++) due(x.task(t, 4), 1);
        });
    }

    private static void whoTurns() {
        test("A TASK TURNS (on: is TURNED, off: is not any more), as soon as it is IDLE,", () -> {
            MendedProgram x = with("ret;", LONG);
            patch(x, "func 0{}");
            x.start(0, 0);
            x.start(1, 0);
            due(x.enable(0), 2);
            due(x.told(5), 60);
            x.step(0);
            due(x.told(5), 61);
            due(x.told(4), 1);
            x.step(1);
            due(x.told(3), NONE);
            x.start(0, 0);
            x.start(1, 0);
            due(x.disable(), 2);
            due(x.told(5), 3);
            x.step(1);
            due(x.told(5), 1);
            x.step(0);
            due(x.told(3), NONE);
        });
        test("or none of its FRAMES is blurred,", () -> {
            MendedProgram x = with("blur;call 1;clear;rest 99;", "blur;clear;ret;");
            patch(x, "func 2{}");
            x.start(0, 0);
            x.go(3);
            due(x.enable(0), 1);
            due(x.stuck(0), 0);
            x.step(0);
            due(x.stuck(0), 1);
            x.step(0);
            due(x.stuck(0), 0);
            due(x.told(5), 62);
            x.step(0);
            due(x.told(3), NONE);
        });
        test("and none is of a FUNCTION that the PATCH has.", () -> {
            MendedProgram x = with("call 1;", "call 2;", LONG);
            patch(x, "func 1{call 2;}func 11{}");
            patch(x, "func 1{call 2;}");
            patch(x, "func 2{}func 1{}");
            patch(x, "func 3{}");
            x.start(0, 0);
            x.go(2);
            due(x.enable(0), 1);
            due(x.stuck(0), 1);
            x.force();
            x.kill(0);
            x.start(0, 0);
            x.go(2);
            due(x.frame(0, 1, 1), 0);
            // of the FUNCTION, by whichever CODE
            due(x.enable(1), 1);
            x.force();
            due(x.enable(2), 1);
            due(x.stuck(0), 0);
            x.force();
            due(x.enable(3), 0);
            // a TASK that is TURNED stays so, whatever it calls
            MendedProgram y = with(LONG, "call 0;");
            patch(y, "func 0{rest 99;}");
            y.start(0, 0);
            y.start(1, 1);
            due(y.enable(0), 1);
            y.go(3);
            due(y.frame(1, 0, 1), 0);
            due(y.told(5), 62);
            y.kill(0);
            due(y.told(3), NONE);
        });
        test("This is looked at when the turning begins, at each end of a TICK, and by calls that say so, of TASKS 0 to 5.", () -> {
            MendedProgram x = with("ret;", "call 0;", LONG);
            patch(x, "func 0{rest 99;}func 2{}");
            for (int t = 0; t < 6; t++) x.start(t, t == 5 ? 1 : 0);
            // when it begins: TASK 5
            due(x.enable(0), 5);
            due(x.told(5), 32);
            // not in the middle of a TICK, but at its end: all
            x.go(1);
            due(x.told(3), NONE);
            due(x.frame(5, 0, 1), 0);
            MendedProgram y = with("none;", "take i 1;take i 2;call 0;");
            patch(y, "func 0{}func 1{}");
            y.start(0, 0);
            y.start(1, 1);
            due(y.enable(0), 2);
            y.go(2);
            due(y.told(5), 61);
            y.step(1);
            due(y.frame(1, 0, 1), NONE);
            y.kill(1);
            due(y.told(3), NONE);
            // start is none of the calls that say so, and changes nothing of who is TURNED
            MendedProgram z = sixInZero();
            patch(z, "func 0{}");
            z.kill(3);
            due(z.enable(0), 5);
            due(z.start(3, 0), 0);
            due(z.told(5), 8);
            due(z.task(3, 4), 1);
            due(z.stuck(3), NONE);
        });
    }

    private static void whenOver() {
        test("All TASKS having turned, the turning is over: on: it does its done;", () -> {
            MendedProgram x = with("ret;");
            x.datum(0, I, 2);
            patch(x, "func 0{}begin{set i 0 0 1;}done{set i 0 1 2;}undone{set i 0 1 9;}");
            x.start(0, 0);
            x.start(5, 0);
            due(x.enable(0), 2);
            due(x.cell(0, NONE, 1), 0);
            x.step(0);
            due(x.cell(0, NONE, 1), 0);
            due(x.told(8), 0);
            x.step(5);
            due(x.cell(0, NONE, 1), 2);
            due(x.told(8), 1);
            due(x.told(3), NONE);
            due(x.told(2), 0);
            // at once, if all turn when it begins: begin, then done
            MendedProgram y = row(I, 1);
            patch(y, "func 0{}begin{set i 0 0 1;}done{shape 0 i 2;set i 0 1 2;}");
            due(y.enable(0), 0);
            due(y.cell(0, NONE, 0), 1);
            due(y.cell(0, NONE, 1), 2);
        });
        test("with \"all\", all below it are no longer stacked (they do no undone).", () -> {
            MendedProgram x = with("ret;");
            x.datum(0, I, 1);
            for (int p = 0; p < 3; p++) patch(x, "func 1{}undone{set i 0 0 9;}");
            patch(x, "all func 0{}done{set i 0 0 4;}undone{set i 0 0 5;}");
            for (int p = 2; p >= 0; p--) x.enable(p);
            x.start(0, 0);
            due(x.enable(3), 1);
            due(x.told(1), 4);
            due(x.calls(1, 1), 0);
            x.step(0);
            due(x.told(1), 1);
            due(x.told(2), 3);
            due(x.patchOf(3, 0), 0);
            for (int p = 0; p < 3; p++) due(x.patchOf(p, 0), NONE);
            due(x.entry(1), NONE);
            due(x.calls(1, 1), NONE);
            due(x.cell(0, NONE, 0), 4);
            // not stacked any more, they can be enabled again
            due(x.enable(1), 0);
            due(x.patchOf(1, 4), 2);
            due(x.patchOf(1, 0), 1);
            due(x.disable(), 0);
            // off it leaves those below alone; with none below it is as any
            x.enable(0);
            due(x.disable(), 0);
            x.start(0, 0);
            due(x.disable(), 1);
            due(x.reverse(), 0);
            due(x.told(1), 1);
            due(x.cell(0, NONE, 0), 4);
            MendedProgram y = with(LONG);
            patch(y, "func 1{}");
            patch(y, "all func 0{}");
            y.enable(0);
            y.start(0, 0);
            y.enable(1);
            due(y.reverse(), 0);
            due(y.told(1), 1);
            due(y.told(2), 0);
        });
        test("Off: it is no longer stacked, does its undone.", () -> {
            MendedProgram x = with("ret;");
            x.datum(0, I, 1);
            patch(x, "func 1{}");
            patch(x, "func 0{}undone{set i 0 0 5;}");
            x.enable(0);
            x.enable(1);
            x.start(0, 0);
            due(x.disable(), 1);
            due(x.told(1), 2);
            due(x.patchOf(1, 0), 1);
            due(x.cell(0, NONE, 0), 0);
            x.step(0);
            due(x.told(1), 1);
            due(x.told(2), 0);
            due(x.told(3), NONE);
            due(x.patchOf(1, 0), NONE);
            due(x.patchOf(0, 0), 0);
            due(x.cell(0, NONE, 0), 5);
            due(x.told(8), 3);
        });
    }

    private static void whatPatchesDo() {
        test("What a PATCH does so (each DEED one behind the other, as by a TASK of its own without a name,", () -> {
            MendedProgram x = new MendedProgram();
            x.datum(0, I, 2);
            x.datum(1, THING, 0);
            patch(x, "func 0{}begin{take s 5;put 0 0;get d 0 0;shape 0 d 3;put 0 1;make 1 2 i 1;set i 1.2 0 7;lift 1 2;keep 0 4;"
                    + "free 0 4;keep 0 3;text q;none;box 1 0;put 0 2;}");
            due(x.enable(0), 0);
            due(x.told(11), 0);
            due(x.datumOf(0, 0), D);
            long[] cells = {20, 20, 28};
            for (int p = 0; p < 3; p++) due(x.cell(0, NONE, p), cells[p]);
            due(x.datumOf(1, 0), I);
            due(x.datumOf(0, 2), 8);
            due(x.told(7), 0);
            for (int t = 0; t < 6; t++) {
                due(x.task(t, 6), 0);
                due(x.task(t, 2), NONE);
            }
            // skip by its VALUE, wherever it stands
            MendedProgram y = row(A, 9);
            patch(y, "func 0{}begin{text a;skip 3;put 0 0;take i 0;skip 2;put 0 1;put 0 2;put 0 3;take z 1;skip 99;put 0 4;"
                    + "take f 0;skip 1;put 0 5;put 0 6;none;skip 99;put 0 7;}done{skip 1;put 0 8;take i 3;put 0 8;skip 0;put 0 7;}");
            due(y.enable(0), 0);
            String kinds = "";
            for (int p = 0; p < 9; p++) {
                does(y, "box 0 " + p + ";");
                kinds += y.task(5, 2) + " ";
            }
            due(kinds.equals("8 -1 -1 4 0 -1 6 4 4 ") ? 0 : 1, 0);
            due(y.told(11), 0);
        });
        test("its VALUE missing at first,", () -> {
            // of each of the three, whatever the one ahead of it, a TASK, or a call by hand has left
            MendedProgram x = new MendedProgram();
            x.datum(0, T, 1);
            x.datum(1, I, 1);
            patch(x, "func 0{}begin{put 1 0;put 0 0;text a;put 0 0;}done{put 0 0;take i 5;put 1 0;put 0 0;}undone{put 0 0;put 1 0;}");
            x.set(I, 1, 0, 4);
            does(x, "take i 9;");
            x.move(1, 0, 1, 0);
            due(x.enable(0), 0);
            due(x.told(11), 2);
            due(x.cell(0, NONE, 0), 0);
            due(x.cell(1, NONE, 0), 5);
            x.get(I, 1, 0);
            due(x.disable(), 0);
            due(x.told(11), 3);
            MendedProgram y = row(I, 1);
            patch(y, "func 0{}begin{skip 1;set i 0 0 5;}");
            due(y.enable(0), 0);
            due(y.cell(0, NONE, 0), 0);
        });
        test("FRAMES none): call, back, rest, blur, clear do nothing,", () -> {
            MendedProgram x = with("set i 0 0 9;");
            x.datum(0, I, 2);
            patch(x, "func 0{set i 0 0 8;}begin{call 0;back;rest 99;blur;clear;set i 0 1 3;}");
            due(x.enable(0), 0);
            due(x.cell(0, NONE, 0), 0);
            due(x.cell(0, NONE, 1), 3);
            due(x.told(7), 0);
            due(x.told(11), 0);
            due(x.told(6), 63);
        });
        test("ret is the end,", () -> {
            MendedProgram x = row(I, 3);
            patch(x, "func 0{}begin{set i 0 0 1;ret;set i 0 0 9;}done{ret;set i 0 1 9;}undone{skip 1;ret;set i 0 2 3;ret;set i 0 2 9;}");
            due(x.enable(0), 0);
            due(x.cell(0, NONE, 0), 1);
            due(x.cell(0, NONE, 1), 0);
            due(x.disable(), 0);
            due(x.cell(0, NONE, 2), 3);
        });
        test("TRAPS are counted (see told()).", () -> {
            MendedProgram x = row(I, 1);
            patch(x, "func 0{}begin{get i 0 9;get s 0 0;get i 1 0;set i 0 0 1;}done{free 0 0;}undone{put 0 0;lift 0 0;}");
            due(x.enable(0), 0);
            due(x.told(11), 4);
            due(x.cell(0, NONE, 0), 1);
            due(x.disable(), 0);
            due(x.told(11), 6);
            due(x.told(10), 0);
        });
    }

    private static void ticksAndAsking() {
        test("A TICK: TASKS 0 to 5, one behind the other: each that is not IDLE does a DEED (or rests); then it is looked at who TURNS.",
                () -> {
            MendedProgram x = new MendedProgram();
            x.datum(0, I, 6);
            for (int f = 0; f < 6; f++) {
                int before = (f + 5) % 6;
                function(x, f, "take i " + (f + 1) + ";put 0 " + f + ";box 0 " + before + ";rest 1;");
            }
            for (int t = 5; t >= 0; t--) if (t != 3) x.start(t, t);
            x.go(2);
            for (int t = 0; t < 6; t++) due(x.cell(0, NONE, t), t == 3 ? 0 : t + 1);
            due(x.go(1), 0);
            int[] numbers = {6, 1, 2, 0, 0, 5};
            for (int t = 0; t < 6; t++) due(x.number(t), numbers[t]);
            due(x.task(3, 6), 0);
            x.go(2);
            due(x.told(6), 8);
            due(x.go(1), 0);
            due(x.told(6), 63);
            for (int t = 0; t < 6; t++) due(x.task(t, 6), t == 3 ? 0 : 5);
            // the first one sets what the others get in the same TICK, the last one what they get in the next
            MendedProgram y = with("set i 0 0 1;", "get i 0 0;get i 0 0;", "set i 0 0 2;");
            y.datum(0, I, 1);
            y.start(0, 0);
            y.start(1, 1);
            y.start(5, 2);
            y.go(1);
            due(y.number(1), 1);
            y.go(1);
            due(y.number(1), 2);
        });
        part("Part 4");
        test("Asked, nothing stays changed.", () -> {
            MendedProgram x = with("text a;blur;rest 5;set i 0 0 3;", LONG, "take i 5;rest 3;make 0 1 i 9;free 9 0;");
            x.datum(0, I, 2);
            x.datum(1, A, 2);
            patch(x, "func 1{}");
            patch(x, "all func 2{}func 1{}done{set i 0 1 9;get i 9 0;}");
            x.enable(0);
            x.start(0, 0);
            x.start(3, 2);
            x.go(3);
            x.enable(1);
            x.feed(1, 2, 3, 4, 5);
            String before = told(x);
            due(told(x).equals(before) ? 1 : 0, 1);
            x.waits();
            due(told(x).equals(before) ? 1 : 0, 1);
            for (int ask = 0; ask < 3; ask++) {
                x.same(0, 1);
                x.shapes(0);
                x.shapes(1);
                x.get(D, 0, 0);
                x.get(S, 0, 9);
                x.cell(0, 4, 9);
                x.status(0);
                x.calls(0, 2);
            }
            due(told(x).equals(before) ? 1 : 0, 1);
        });
    }

    // ---- the promises ----

    private static void promises1To9() {
        part("Promise 1");
        test("As told above (at first).", () -> {
            MendedProgram x = new MendedProgram();
            for (int what = 0; what < 15; what++) {
                due(x.told(what), what >= 2 && what <= 4 ? NONE : what == 6 ? 63 : 0);
            }
            for (int t = 0; t < 6; t++) {
                for (int what = 0; what < 7; what++) due(x.task(t, what), what == 2 ? NONE : 0);
                int task = t;
                refused(ELEMENT, x, () -> x.frame(task, 0, 0));
            }
            for (int d = 0; d < 10; d++) {
                due(x.datumOf(d, 0), MISSING);
                due(x.datumOf(d, 1), 0);
                due(x.datumOf(d, 2), 0);
                for (int m = 0; m < 5; m++) due(x.shadowOf(d, m, 0), MISSING);
            }
            for (int f = 0; f < 12; f++) due(x.entry(f), NONE);
            refused(ELEMENT, x, () -> x.patchOf(0, 0));
            due(x.fault(), NONE);
            due(x.waits(), 0);
            due(x.deepest(), NONE);
            // objects have nothing in common
            MendedProgram y = new MendedProgram();
            y.datum(0, I, 1);
            y.start(0, 0);
            patch(y, "func 0{}");
            due(x.told(0), 0);
            due(x.told(6), 63);
            due(x.datumOf(0, 0), MISSING);
        });
        part("Promise 2");
        test("Twenty bytes come on the TAPE, of each number the highest first: how many there are;", () -> {
            MendedProgram x = new MendedProgram();
            due(x.feed(0x72657374, 0x2037383b, 0x63616c6c, 0x2031313b, 0x6e6f6e65), 20);
            due(x.feed(0x3b202020, -1, LEAST, MOST, 0), 40);
            due(x.told(14), 40);
            due(x.function(11, 24), 3);
            x.start(0, 11);
            x.step(0);
            due(x.task(0, 3), 78);
            // a byte beyond 127, and 0, is a sign like others
            due(x.feed(0x7265743b, 0x80000000, 0, 0, 0), 20);
            x.kill(0);
            due(x.function(0, 5), -9);
            due(x.fault(), 4);
        });
        test("NONE, doing nothing, if there would be more than 500.", () -> {
            MendedProgram x = new MendedProgram();
            for (int i = 0; i < 24; i++) x.feed(0x7265743b, 0, 0, 0, 0);
            due(x.told(14), 480);
            due(x.feed(0x7265743b, 0x20202020, 0x20202020, 0x20202020, 0x20202020), 500);
            String before = told(x);
            due(x.feed(0x78787878, 0x78787878, 0x78787878, 0x78787878, 0x78787878), NONE);
            due(told(x).equals(before) ? 1 : 0, 1);
            due(x.function(0, 4), 1);
            due(x.feed(0, 0, 0, 0, 0), 20);
        });
        promise3();
        promises4To6();
        promises7To9();
    }

    private static void promise3() {
        part("Promise 3");
        test("The first n bytes of the TAPE (empty then) are the CODE of a FUNCTION from now on: how many DEEDS;", () -> {
            MendedProgram x = new MendedProgram();
            lay(x, "take i 1;take i 2;nonsense");
            due(x.function(4, 18), 2);
            due(x.told(14), 0);
            due(x.fault(), NONE);
            x.start(0, 4);
            x.step(0);
            due(x.number(0), 1);
            x.step(0);
            due(x.number(0), 2);
            x.step(0);
            due(x.told(6), 63);
            // in place of what it was; no bytes: no DEEDS
            due(function(x, 4, "take i 3;"), 1);
            x.start(0, 4);
            x.step(0);
            due(x.number(0), 3);
            x.kill(0);
            lay(x, "ret;");
            due(x.function(4, 0), 0);
            due(x.told(14), 0);
            x.start(0, 4);
            x.step(0);
            due(x.told(6), 63);
            due(x.function(4, 0), 0);
            due(function(x, 4, deedsOf(24)), 24);
            // a PATCH's CODE of it is not changed by that
            patch(x, "func 4{take i 8;}");
            x.enable(0);
            function(x, 4, "take i 9;");
            due(x.start(0, 4), 0);
            x.step(0);
            due(x.number(0), 8);
        });
        test("or the FAULT less 10 (all but the TAPE stays).", () -> {
            MendedProgram x = with("take i 7;");
            due(function(x, 0, "x"), -9);
            due(function(x, 0, "rest 100;"), -8);
            due(function(x, 0, deedsOf(25)), -7);
            String before = told(x).replaceAll("fault \\d+", "");
            due(function(x, 0, "none;none"), -9);
            due(told(x).replaceAll("fault \\d+", "").equals(before) ? 1 : 0, 1);
            due(x.told(14), 0);
            x.start(0, 0);
            x.step(0);
            due(x.number(0), 7);
        });
        test("NoSuchElementException: no such FUNCTION, TASK, PATCH, DATUM, SHADOW's number, FRAME (so below, ahead of others).",
                () -> {
            MendedProgram x = with(LONG);
            patch(x, "func 0{}");
            x.datum(0, I, 1);
            x.start(0, 0);
            lay(x, "ret;");
            for (int no : new int[] {-1, 99, MOST, LEAST}) {
                refused(ELEMENT, x, () -> x.function(no, 4));
                refused(ELEMENT, x, () -> x.function(no, 99));
                refused(ELEMENT, x, () -> x.start(0, no));
                refused(ELEMENT, x, () -> x.start(no, 0));
                refused(ELEMENT, x, () -> x.step(no));
                refused(ELEMENT, x, () -> x.enable(no));
                refused(ELEMENT, x, () -> x.patchOf(no, 99));
                refused(ELEMENT, x, () -> x.datum(no, 99, 99));
                refused(ELEMENT, x, () -> x.shadowOf(0, no, 99));
                refused(ELEMENT, x, () -> x.keep(0, no, 99));
                refused(ELEMENT, x, () -> x.frame(0, no, 99));
                refused(ELEMENT, x, () -> x.frame(no, 0, 0));
                refused(ELEMENT, x, () -> x.task(no, 99));
                refused(ELEMENT, x, () -> x.get(99, no, 0));
                refused(ELEMENT, x, () -> x.set(99, no, 0, MOST));
                refused(ELEMENT, x, () -> x.shape(no, 99, 99));
                refused(ELEMENT, x, () -> x.datumOf(no, 99));
            }
        });
        test("IllegalArgumentException: n is not 0 to the TAPE's bytes (it stays).", () -> {
            MendedProgram x = new MendedProgram();
            refused(ARGUMENT, x, () -> x.function(0, 1));
            refused(ARGUMENT, x, () -> x.function(0, -1));
            due(x.function(0, 0), 0);
            lay(x, "ret;                ");
            for (int n : new int[] {21, -1, MOST, LEAST, 500}) refused(ARGUMENT, x, () -> x.function(0, n));
            due(x.told(14), 20);
            due(x.function(0, 20), 1);
        });
        test("IllegalStateException: a TASK is not IDLE (the TAPE stays).", () -> {
            MendedProgram x = with(LONG);
            lay(x, "ret;");
            for (int t = 0; t < 6; t++) {
                x.start(t, 0);
                refused(STATE, x, () -> x.function(1, 4));
                refused(STATE, x, () -> x.function(1, 0));
                x.kill(t);
            }
            due(x.told(14), 20);
            due(x.function(1, 4), 1);
        });
    }

    private static void promises4To6() {
        part("Promise 4");
        test("The first n bytes of the TAPE (empty then) are a PATCH (numbered from 0 on, 8 at most): its number;", () -> {
            MendedProgram x = new MendedProgram();
            lay(x, "func 1{ret;}xyz");
            due(x.patch(12), 0);
            due(x.told(14), 0);
            due(patch(x, "funk 1{}"), -9);
            for (int p = 1; p < 8; p++) {
                due(patch(x, "func " + p + "{}"), p);
                due(x.told(0), p + 1);
            }
            for (int p = 1; p < 8; p++) due(x.patchOf(p, 1), 1 << p);
            due(x.patchOf(0, 1), 2);
            due(x.patchOf(0, 3), 1);
            due(x.told(1), 0);
            // a TASK need not be IDLE, and a PATCH may be TURNING
            MendedProgram y = with(LONG);
            patch(y, "func 0{}");
            y.start(0, 0);
            due(y.enable(0), 1);
            due(patch(y, "func 0{}"), 1);
            due(y.told(3), 0);
        });
        test("or the FAULT less 10 (all but the TAPE stays).", () -> {
            MendedProgram x = new MendedProgram();
            patch(x, "func 0{}");
            due(patch(x, "func 1{}x"), -9);
            due(patch(x, "func 12{}"), -8);
            due(patch(x, "func 1{" + deedsOf(25) + "}"), -7);
            String before = told(x).replaceAll("fault \\d+", "");
            due(patch(x, "func 1{none;}func 1{}"), -6);
            due(told(x).replaceAll("fault \\d+", "").equals(before) ? 1 : 0, 1);
            due(x.told(0), 1);
            due(patch(x, "func 3{}"), 1);
        });
        test("IllegalArgumentException likewise.", () -> {
            MendedProgram x = new MendedProgram();
            refused(ARGUMENT, x, () -> x.patch(1));
            refused(ARGUMENT, x, () -> x.patch(-1));
            lay(x, "func 0{}            ");
            for (int n : new int[] {21, -1, MOST, LEAST}) refused(ARGUMENT, x, () -> x.patch(n));
            due(x.told(14), 20);
            due(x.patch(20), 0);
        });
        test("IllegalStateException: there are 8 (the TAPE stays).", () -> {
            MendedProgram x = new MendedProgram();
            for (int p = 0; p < 8; p++) due(patch(x, "func 0{}"), p);
            refused(STATE, x, () -> x.patch(0));
            lay(x, "func 0{}");
            refused(STATE, x, () -> x.patch(8));
            refused(STATE, x, () -> x.patch(1));
            refused(ARGUMENT, x, () -> x.patch(21));
            due(x.told(14), 20);
            due(x.told(0), 8);
        });
        part("Promise 5");
        test("The place of the FAULT of the latest of these;", () -> {
            MendedProgram x = new MendedProgram();
            function(x, 0, "ret; rat;");
            due(x.fault(), 5);
            patch(x, "func 0{}done;");
            due(x.fault(), 12);
            function(x, 1, "x");
            due(x.fault(), 0);
            patch(x, "func 1{rest 100;}");
            due(x.fault(), 12);
            // other calls, and refused ones, leave it
            x.go(1);
            refused(ARGUMENT, x, () -> x.patch(1));
            refused(ELEMENT, x, () -> x.function(12, 0));
            due(x.fault(), 12);
        });
        test("NONE without.", () -> {
            MendedProgram x = new MendedProgram();
            due(x.fault(), NONE);
            function(x, 0, "x");
            due(function(x, 0, "ret;"), 1);
            due(x.fault(), NONE);
            function(x, 0, "x");
            due(patch(x, "func 0{}"), 0);
            due(x.fault(), NONE);
            function(x, 0, "x");
            due(x.function(0, 0), 0);
            due(x.fault(), NONE);
        });
        promise6();
    }

    private static void promise6() {
        part("Promise 6");
        test("A DATUM is a ROW of a KIND (0 z, 1 b, 2 c, 3 s, 4 i, 5 j, 6 f, 7 d, 8 t, 9 n, 10 a) of so many places (0 to 9),", () -> {
            MendedProgram x = row(Z, 0);
            for (int kind = 0; kind <= 10; kind++) {
                for (int places : new int[] {0, 1, 9}) {
                    due(x.datum(9, kind, places), places);
                    due(x.datumOf(9, 0), kind);
                    due(x.datumOf(9, 1), places);
                }
                // the letter of the CODE is the same KIND
                due(does(x, "shape 0 " + LETTERS.charAt(kind) + " 0;"), 0);
                due(x.datumOf(0, 0), kind);
            }
        });
        test("or a THING (11; 0 places), or missing (12; 0),", () -> {
            MendedProgram x = row(I, 3);
            due(x.datum(0, THING, 0), 0);
            due(x.datumOf(0, 0), THING);
            due(x.datumOf(0, 1), 0);
            due(x.datum(0, MISSING, 0), 0);
            due(x.datumOf(0, 0), MISSING);
            due(x.datum(0, MISSING, 0), 0);
            for (int kind = THING; kind <= MISSING; kind++) {
                int k = kind;
                refused(ARGUMENT, x, () -> x.datum(0, k, 1));
                refused(ARGUMENT, x, () -> x.datum(0, k, -1));
            }
        });
        test("without SHADOWS, in place of what it was:", () -> {
            for (int kind = 0; kind <= 12; kind++) {
                MendedProgram x = row(A, 2);
                due(does(x, "text a;put 0 0;put 0 1;keep 0 0;keep 0 4;"), 0);
                due(x.datum(0, kind, kind > 10 ? 0 : 2), kind > 10 ? 0 : 2);
                due(x.datumOf(0, 2), 0);
                due(x.told(13), 0);
                due(x.cell(0, NONE, 0), 0);
                due(x.cell(0, 4, 1), 0);
                due(does(x, "text b;box 0 1;"), kind == 12 ? 3 : kind == 11 ? 2 : 0);
                due(x.task(5, 2), kind > 10 ? TEXT : kind < 8 ? kind : NONE);
            }
        });
        test("how many places all ROWS have then, SHADOWS, too.", () -> {
            MendedProgram x = new MendedProgram();
            for (int d = 0; d < 10; d++) due(x.datum(d, A, 9), 9 * (d + 1));
            for (int d = 0; d < 9; d++) {
                for (int m = 0; m < 5; m++) x.keep(d, m, 0);
            }
            due(x.told(12), 9 * (10 + 45));
            due(x.datum(9, I, 3), 9 * 54 + 3);
            due(x.datum(8, THING, 0), 9 * 48 + 3);
            due(does(x, "make 8 3 i 4;"), 0);
            due(x.datum(9, I, 1), 9 * 48 + 5);
        });
        test("IllegalArgumentException: another KIND, number of places (so below: another argument).", () -> {
            MendedProgram x = row(I, 1);
            for (int kind : new int[] {-1, 13, MOST, LEAST}) refused(ARGUMENT, x, () -> x.datum(0, kind, 0));
            for (int places : new int[] {-1, 10, MOST, LEAST}) {
                for (int kind = 0; kind <= 12; kind++) {
                    int k = kind;
                    refused(ARGUMENT, x, () -> x.datum(0, k, places));
                }
            }
            refused(ARGUMENT, x, () -> x.told(15));
            refused(ARGUMENT, x, () -> x.shape(0, 11, 0));
            refused(ARGUMENT, x, () -> x.get(8, 0, 0));
        });
    }

    private static void promises7To9() {
        part("Promise 7");
        test("A TASK begins with a FRAME of a FUNCTION, its VALUE missing: by which PATCH's CODE (NONE: its own).", () -> {
            MendedProgram x = with("take i 5;blur;rest 9;", "text a;");
            patch(x, "func 1{}func 2{}");
            due(x.start(2, 0), NONE);
            x.go(3);
            x.kill(2);
            due(x.number(2), 5);
            due(x.start(2, 0), NONE);
            due(x.task(2, 0), 1);
            due(x.task(2, 2), NONE);
            due(x.number(2), 0);
            due(x.task(2, 3), 0);
            int[] frame = {0, NONE, 0, 0};
            for (int what = 0; what < 4; what++) due(x.frame(2, 0, what), frame[what]);
            x.enable(0);
            due(x.start(3, 1), 0);
            due(x.frame(3, 0, 1), 0);
            due(x.start(4, 2), 0);
            due(x.start(5, 3), NONE);
            // one that is TURNING: by the TASK, which is IDLE, and so has TURNED
            MendedProgram y = with(LONG);
            patch(y, "func 0{rest 99;}");
            y.start(0, 0);
            y.enable(0);
            due(y.start(1, 0), 0);
            due(y.reverse(), 1);
            due(y.start(2, 0), NONE);
        });
        test("IllegalStateException: it is not IDLE.", () -> {
            MendedProgram x = with("ret;");
            x.start(4, 0);
            refused(STATE, x, () -> x.start(4, 0));
            refused(STATE, x, () -> x.start(4, 11));
            refused(ELEMENT, x, () -> x.start(4, 12));
            x.step(4);
            due(x.start(4, 0), NONE);
        });
        part("Promise 8");
        test("A TASK does a DEED (or rests), out of turn: its TRAP;", () -> {
            MendedProgram x = rows();
            function(x, 0, "get i 0 0;get i 1 0;get i 5 9;get i 5 0;rest 2;box 0 0;");
            x.start(3, 0);
            x.start(4, 0);
            int[] traps = {3, 2, 1, 0, 0, 0, 0, 3, 0};
            for (int t = 0; t < traps.length; t++) {
                due(x.step(3), traps[t]);
                due(x.task(3, 1), traps[t]);
            }
            due(x.told(6), 63 - 16);
            due(x.task(4, 6), 0);
            due(x.told(7), 0);
            due(x.told(10), 4);
            due(x.task(3, 6), 7);
        });
        test("then it is looked at whether it TURNS.", () -> {
            MendedProgram x = with("none;ret;");
            patch(x, "func 0{}");
            x.start(1, 0);
            x.enable(0);
            x.step(1);
            due(x.told(3), 0);
            x.step(1);
            due(x.told(3), NONE);
            x.start(1, 0);
            x.disable();
            due(x.told(3), 0);
            due(x.step(1), 0);
            due(x.told(3), NONE);
        });
        test("IllegalStateException: it is IDLE.", () -> {
            MendedProgram x = with("ret;");
            refused(STATE, x, () -> x.step(0));
            x.start(0, 0);
            x.start(1, 0);
            x.step(0);
            refused(STATE, x, () -> x.step(0));
            x.kill(1);
            refused(STATE, x, () -> x.step(1));
            refused(ELEMENT, x, () -> x.step(6));
        });
        part("Promise 9");
        test("So many TICKS go by (1 to 60): how many TRAPS of TASKS there were.", () -> {
            MendedProgram x = with("get i 0 0;back;", LONG);
            patch(x, "func 2{}begin{get i 0 0;}done{get i 0 0;}");
            patch(x, "func 1{}done{get i 0 0;}");
            due(x.go(60), 0);
            due(x.told(7), 60);
            x.start(0, 0);
            x.start(5, 0);
            due(x.go(1), 2);
            due(x.go(1), 0);
            due(x.go(60), 60);
            x.kill(5);
            due(x.go(3), 2);
            due(x.told(7), 125);
            // those of what a PATCH does are not of TASKS
            x.start(1, 1);
            x.enable(1);
            x.go(57);
            x.kill(0);
            due(x.told(3), 1);
            due(x.go(43), 0);
            due(x.told(11), 0);
            due(x.go(1), 0);
            due(x.told(3), NONE);
            due(x.told(11), 1);
            for (int ticks : new int[] {0, 61, -1, MOST, LEAST}) refused(ARGUMENT, x, () -> x.go(ticks));
        });
    }

    private static void promises10To16() {
        part("Promise 10");
        test("A PATCH is enabled: how many TASKS have not TURNED then (0: it is over).", () -> {
            MendedProgram x = with(LONG);
            patch(x, "func 0{}");
            for (int stuck = 0; stuck <= 6; stuck++) {
                if (stuck > 0) x.start(stuck - 1, 0);
                due(x.enable(0), stuck);
                due(x.patchOf(0, 4), stuck + 1);
                due(x.told(8), stuck + 1);
                due(x.told(3), stuck == 0 ? NONE : 0);
                due(stuck == 0 ? x.disable() : x.reverse(), 0);
                due(x.told(1), 0);
            }
        });
        test("IllegalStateException: it is stacked;", () -> {
            MendedProgram x = new MendedProgram();
            patch(x, "func 0{}");
            patch(x, "func 1{}");
            x.enable(0);
            refused(STATE, x, () -> x.enable(0));
            x.enable(1);
            refused(STATE, x, () -> x.enable(0));
            refused(STATE, x, () -> x.enable(1));
            refused(ELEMENT, x, () -> x.enable(2));
            x.disable();
            due(x.enable(1), 0);
        });
        test("one is TURNING.", () -> {
            MendedProgram x = with(LONG);
            patch(x, "func 0{}");
            patch(x, "func 1{}begin{get i 0 0;}");
            x.start(0, 0);
            x.enable(0);
            refused(STATE, x, () -> x.enable(1));
            refused(STATE, x, () -> x.enable(0));
            refused(ELEMENT, x, () -> x.enable(2));
            x.force();
            x.disable();
            refused(STATE, x, () -> x.enable(1));
            x.force();
            due(x.enable(1), 0);
        });
        part("Promise 11");
        test("The topmost PATCH is disabled: how many TASKS are TURNED then (0: it is over).", () -> {
            MendedProgram x = with(LONG);
            patch(x, "func 0{}");
            patch(x, "func 1{}");
            x.enable(1);
            for (int stuck = 0; stuck <= 6; stuck++) {
                if (stuck > 0) x.start(stuck - 1, 0);
                x.enable(0);
                if (stuck > 0) x.force();
                due(x.disable(), stuck);
                due(x.told(3), stuck == 0 ? NONE : 0);
                due(x.told(5), (1 << stuck) - 1);
                if (stuck > 0) due(x.force(), (1 << stuck) - 1);
                due(x.told(2), 1);
            }
        });
        test("IllegalStateException: there is none;", () -> {
            MendedProgram x = new MendedProgram();
            refused(STATE, x, x::disable);
            patch(x, "func 0{}");
            refused(STATE, x, x::disable);
            x.enable(0);
            x.disable();
            refused(STATE, x, x::disable);
        });
        test("one is TURNING.", () -> {
            MendedProgram x = with(LONG);
            patch(x, "func 1{}");
            patch(x, "func 0{}");
            x.enable(0);
            x.start(0, 0);
            x.enable(1);
            refused(STATE, x, x::disable);
            x.force();
            x.disable();
            refused(STATE, x, x::disable);
            x.force();
            due(x.disable(), 0);
        });
        promise12();
        promises13To14();
        promises15To16();
    }

    private static void promise12() {
        part("Promise 12");
        test("Turning goes the other way (who has turned by now turns back as soon as that can be; it is looked at at once):", () -> {
            MendedProgram x = with(LONG, LONG);
            patch(x, "func 0{rest 99;}");
            x.start(0, 0);
            x.start(1, 1);
            x.start(2, 1);
            x.enable(0);
            x.kill(2);
            x.start(2, 0);
            due(x.frame(2, 0, 1), 0);
            due(x.told(5), 62);
            // TASK 1 and those that are IDLE at once; TASK 2 not, TASK 0 never had
            due(x.reverse(), 1);
            due(x.told(4), 0);
            due(x.told(5), 4);
            due(x.stuck(0), NONE);
            due(x.stuck(2), 0);
            due(x.reverse(), 1);
            due(x.told(4), 1);
            due(x.told(5), 62);
            due(x.stuck(0), 0);
            due(x.stuck(2), NONE);
            x.reverse();
            x.kill(2);
            due(x.told(3), NONE);
            due(x.told(1), 0);
        });
        test("how many TASKS have to turn still.", () -> {
            MendedProgram x = sixInZero();
            patch(x, "func 0{rest 99;}");
            x.enable(0);
            x.kill(0);
            x.kill(5);
            x.kill(4);
            due(x.start(5, 0), 0);
            due(x.start(4, 0), 0);
            due(x.reverse(), 2);
            due(x.reverse(), 3);
            due(x.reverse(), 2);
            x.kill(4);
            due(x.told(5), 32);
            due(x.reverse(), 3);
            x.kill(5);
            due(x.reverse(), 0);
            due(x.told(3), NONE);
        });
        test("(Over, off of one that was never on: its undone is done, too.)", () -> {
            MendedProgram x = with(LONG);
            x.datum(0, I, 1);
            patch(x, "func 0{}done{set i 0 0 1;}undone{set i 0 0 2;}");
            x.start(0, 0);
            x.enable(0);
            due(x.reverse(), 0);
            due(x.cell(0, NONE, 0), 2);
            due(x.told(1), 0);
            due(x.told(8), 1);
            due(x.patchOf(0, 4), 1);
            // from off to on: over, its done is done
            x.enable(0);
            x.force();
            x.disable();
            x.set(I, 0, 0, 0);
            due(x.reverse(), 0);
            due(x.cell(0, NONE, 0), 1);
            due(x.told(1), 1);
            due(x.told(8), 3);
            due(x.patchOf(0, 4), 2);
        });
        test("IllegalStateException: none is TURNING.", () -> {
            MendedProgram x = with(LONG);
            refused(STATE, x, x::reverse);
            patch(x, "func 0{}");
            refused(STATE, x, x::reverse);
            x.enable(0);
            refused(STATE, x, x::reverse);
            x.start(0, 0);
            x.disable();
            x.force();
            refused(STATE, x, x::reverse);
            due(x.enable(0), 1);
            due(x.reverse(), 0);
            refused(STATE, x, x::reverse);
        });
    }

    private static void promises13To14() {
        part("Promise 13");
        test("All TASKS turn now, whatever is on their STACKS: those (bits) that had not.", () -> {
            MendedProgram x = with(LONG, "blur;rest 99;");
            x.datum(0, I, 1);
            patch(x, "func 0{}done{set i 0 0 1;}undone{set i 0 0 2;}");
            int[] functions = {0, 1, NONE, 2, 1, 0};
            for (int t = 0; t < 6; t++) if (functions[t] != NONE) x.start(t, functions[t]);
            x.step(1);
            x.step(4);
            due(x.enable(0), 4);
            due(x.force(), 1 + 2 + 16 + 32);
            due(x.told(3), NONE);
            due(x.told(1), 1);
            due(x.cell(0, NONE, 0), 1);
            for (int t = 0; t < 6; t++) due(x.task(t, 5), functions[t] == 0 || functions[t] == 1 ? 1 : 0);
            // they stay where they are
            due(x.frame(0, 0, 1), NONE);
            due(x.frame(0, 0, 0), 0);
            x.kill(5);
            due(x.disable(), 3);
            due(x.force(), 1 + 2 + 16);
            due(x.told(1), 0);
            due(x.cell(0, NONE, 0), 2);
            due(x.told(9), 7);
            // after turning the other way: those that have it to do still
            MendedProgram y = with(LONG);
            patch(y, "func 0{rest 99;}");
            y.start(0, 0);
            y.enable(0);
            y.start(4, 0);
            y.reverse();
            due(y.force(), 16);
            due(y.told(1), 0);
            due(y.frame(4, 0, 1), 0);
            due(sixForced(), 63);
        });
        test("IllegalStateException: none is TURNING.", () -> {
            MendedProgram x = with(LONG);
            refused(STATE, x, x::force);
            patch(x, "func 0{}");
            x.start(0, 0);
            refused(STATE, x, x::force);
            x.enable(0);
            x.force();
            refused(STATE, x, x::force);
        });
        part("Promise 14");
        test("A TASK's STACK is gone, it is IDLE (it is looked at whether it TURNS): how many FRAMES it had.", () -> {
            MendedProgram x = with("call 0;", "take i 4;rest 9;");
            for (int frames = 0; frames <= 10; frames++) {
                if (frames > 0) x.start(1, 0);
                for (int more = 1; more < frames; more++) x.step(1);
                due(x.kill(1), frames);
                due(x.task(1, 0), 0);
                due(x.told(6), 63);
            }
            x.start(0, 1);
            x.go(4);
            due(x.task(0, 3), 7);
            due(x.kill(0), 1);
            due(x.task(0, 3), 0);
            // begun anew it does not rest
            x.start(0, 1);
            x.step(0);
            due(x.number(0), 4);
            // one in the middle of turning, and the last one
            patch(x, "func 1{}");
            x.start(2, 1);
            due(x.enable(0), 2);
            due(x.kill(2), 1);
            due(x.told(5), 62);
            due(x.kill(5), 0);
            due(x.kill(0), 1);
            due(x.told(3), NONE);
            x.start(0, 1);
            x.disable();
            due(x.kill(0), 1);
            due(x.told(1), 0);
            for (int t : new int[] {6, -1, MOST, LEAST}) refused(ELEMENT, x, () -> x.kill(t));
        });
    }

    private static int sixForced() {
        MendedProgram x = sixInZero();
        patch(x, "func 0{}");
        x.enable(0);
        return x.force();
    }

    private static void promises15To16() {
        part("Promise 15");
        MendedProgram x = with(LONG, "get i 9 0;back;");
        x.datum(0, I, 4);
        x.datum(1, A, 0);
        test("0 PATCHES,", () -> {
            for (int p = 0; p < 3; p++) {
                due(x.told(0), p);
                patch(x, "func 0{rest 99;}begin{free 9 0;}undone{free 9 0;lift 9 0;}");
            }
            due(x.told(0), 3);
        });
        test("1 those stacked,", () -> {
            due(x.told(1), 0);
            x.enable(1);
            due(x.told(1), 1);
            x.start(0, 0);
            x.enable(2);
            due(x.told(1), 2);
        });
        test("2 the topmost (NONE),", () -> {
            due(x.told(2), 2);
            due(new MendedProgram().told(2), NONE);
        });
        test("3 the one TURNING (NONE),", () -> {
            due(x.told(3), 2);
            due(new MendedProgram().told(3), NONE);
        });
        test("4 1 it is TURNING on, 0 off, NONE none is,", () -> {
            due(x.told(4), 1);
            x.reverse();
            due(x.told(4), NONE);
            due(x.told(2), 1);
            due(x.disable(), 1);
            due(x.told(4), 0);
        });
        test("5 TASKS that are TURNED (bits; 0, if none is TURNING),", () -> {
            due(x.told(5), 1);
            x.reverse();
            due(x.told(5), 0);
            x.kill(0);
            for (int t = 0; t < 3; t++) x.start(2 * t + 1, 0);
            x.enable(0);
            due(x.told(5), 1 + 4 + 16);
            x.force();
            due(x.told(5), 0);
            x.disable();
            due(x.told(5), 2 + 8 + 32);
        });
        test("6 TASKS that are IDLE (bits),", () -> {
            due(x.told(6), 1 + 4 + 16);
            x.kill(5);
            due(x.told(6), 63 - 10);
        });
        test("7 TICKS so far,", () -> {
            due(x.told(7), 0);
            x.go(60);
            x.go(1);
            x.step(1);
            due(x.told(7), 61);
        });
        test("8 turnings that were over,", () -> {
            // on 1, on and off 2, off and on 1, on 0, and 0 is turning off still
            due(x.told(8), 4);
            x.force();
            due(x.told(8), 5);
        });
        test("9 TASKS that were forced so far (each as often),", () -> {
            due(x.told(9), 5);
            due(x.task(5, 5), 1);
            due(x.task(1, 5), 2);
        });
        test("10 TRAPS of TASKS so far,", () -> {
            due(x.told(10), 0);
            x.start(2, 1);
            x.go(3);
            x.step(2);
            x.get(I, 9, 0);
            due(x.told(10), 2);
            x.step(2);
            due(x.told(10), 3);
        });
        test("11 of what PATCHES did,", () -> {
            // begins of 1, 2 and 0, undones of 2 and 0
            due(x.told(11), 7);
        });
        test("12 places of all ROWS,", () -> {
            due(x.told(12), 4);
            x.keep(0, 3, 0);
            x.keep(1, 0, 0);
            due(x.told(12), 8);
            x.shape(0, I, 9);
            due(x.told(12), 13);
        });
        test("13 SHADOWS,", () -> {
            due(x.told(13), 2);
            for (int m = 0; m < 5; m++) x.keep(0, m, 0);
            due(x.told(13), 6);
            x.datum(0, MISSING, 0);
            due(x.told(13), 1);
        });
        test("14 bytes of the TAPE.", () -> {
            due(x.told(14), 0);
            x.feed(0, 0, 0, 0, 0);
            due(x.told(14), 20);
            x.patch(0);
            due(x.told(14), 0);
            for (int what : new int[] {15, -1, MOST, LEAST}) refused(ARGUMENT, x, () -> x.told(what));
        });
        promise16();
    }

    private static void promise16() {
        part("Promise 16");
        test("Of a TASK: 0 how many FRAMES,", () -> {
            MendedProgram x = with("call 0;");
            due(x.task(3, 0), 0);
            x.start(3, 0);
            for (int frames = 1; frames <= 10; frames++) {
                due(x.task(3, 0), frames);
                x.step(3);
            }
            due(x.task(3, 0), 10);
            due(x.task(2, 0), 0);
            for (int t : new int[] {6, -1, MOST, LEAST}) refused(ELEMENT, x, () -> x.task(t, 0));
            for (int what : new int[] {7, -1, MOST, LEAST}) refused(ARGUMENT, x, () -> x.task(3, what));
        });
        test("1 TRAP of its latest DEED (0),", () -> {
            MendedProgram x = rows();
            function(x, 0, "get i 5 9;rest 2;get i 1 0;get i 0 0;");
            due(x.task(0, 1), 0);
            x.start(0, 0);
            due(x.task(0, 1), 0);
            int[] traps = {1, 0, 0, 0, 2, 3, 0};
            for (int trap : traps) {
                x.go(1);
                due(x.task(0, 1), trap);
            }
            due(x.told(6), 63);
            x.go(1);
            due(x.task(0, 1), 0);
        });
        test("2 KIND of its VALUE (0 to 7; 8 a TEXT; NONE: it is missing),", () -> {
            MendedProgram x = new MendedProgram();
            due(x.task(5, 2), NONE);
            for (int kind = Z; kind <= D; kind++) {
                does(x, "take " + LETTERS.charAt(kind) + " 0;");
                due(x.task(5, 2), kind);
            }
            does(x, "text a;");
            due(x.task(5, 2), 8);
            does(x, "none;");
            due(x.task(5, 2), NONE);
        });
        test("3 for how many TICKS it rests still,", () -> {
            MendedProgram x = with("rest 3;rest 0;rest 99;");
            x.start(0, 0);
            due(x.task(0, 3), 0);
            int[] rests = {3, 2, 1, 0, 0, 99, 98};
            for (int r : rests) {
                x.go(1);
                due(x.task(0, 3), r);
            }
            x.step(0);
            due(x.task(0, 3), 97);
        });
        test("4 1 it is TURNED (of the PATCH that is TURNING), 0 not,", () -> {
            MendedProgram x = with(LONG);
            patch(x, "func 0{}");
            for (int t = 0; t < 6; t++) due(x.task(t, 4), 0);
            x.start(2, 0);
            x.enable(0);
            for (int t = 0; t < 6; t++) due(x.task(t, 4), t == 2 ? 0 : 1);
            x.force();
            for (int t = 0; t < 6; t++) due(x.task(t, 4), 0);
            x.disable();
            for (int t = 0; t < 6; t++) due(x.task(t, 4), t == 2 ? 1 : 0);
            x.force();
            for (int t = 0; t < 6; t++) due(x.task(t, 4), 0);
        });
        test("5 how often it was forced,", () -> {
            MendedProgram x = with(LONG);
            patch(x, "func 0{}");
            x.start(2, 0);
            for (int i = 1; i <= 3; i++) {
                due(x.task(2, 5), 2 * i - 2);
                x.enable(0);
                x.force();
                due(x.task(2, 5), 2 * i - 1);
                x.disable();
                x.force();
            }
            due(x.task(3, 5), 0);
            x.kill(2);
            x.start(2, 0);
            due(x.task(2, 5), 6);
        });
        test("6 DEEDS that it did so far.", () -> {
            MendedProgram x = with("rest 3;get i 0 0;call 1;", "ret;");
            x.start(0, 0);
            int[] deeds = {1, 1, 1, 1, 2, 3, 4, 5, 5};
            for (int d : deeds) {
                x.go(1);
                due(x.task(0, 6), d);
            }
            x.start(0, 1);
            due(x.task(0, 6), 5);
            x.kill(0);
            due(x.task(0, 6), 5);
            due(x.task(1, 6), 0);
        });
    }

    private static void promises17To25() {
        part("Promise 17");
        test("A TASK's VALUE: a number (z 0, 1; of f, d 4 times it);", () -> {
            MendedProgram x = with("set i 0 0 -3;get d 0 0;");
            x.datum(0, I, 1);
            String[] takes = {"take z 5;", "take z 0;", "take b -128;", "take c 65535;", "take i -99999;", "take j 99999;",
                "take f 7;", "take d -7;", "set i 0 0 -3;get f 0 0;", "set i 0 0 99999;get d 0 0;"};
            long[] numbers = {1, 0, -128, 65535, -99999, 99999, 7, -7, -12, 399996};
            for (int i = 0; i < takes.length; i++) {
                does(x, takes[i]);
                due(x.number(5), numbers[i]);
                due(x.number(4), 0);
            }
            for (int t : new int[] {6, -1, MOST, LEAST}) refused(ELEMENT, x, () -> x.number(t));
        });
        test("of a TEXT its letters by 27, the first one the highest (a is 1);", () -> {
            String[] texts = {"a", "z", "aa", "az", "ba", "abc", "zzzzzz", "aaaaaa"};
            long[] numbers = {1, 26, 28, 53, 55, 786, 387420488L, 14900788};
            MendedProgram x = new MendedProgram();
            for (int i = 0; i < texts.length; i++) {
                does(x, "text " + texts[i] + ";");
                due(x.number(5), numbers[i]);
            }
        });
        test("0, if it is missing.", () -> {
            MendedProgram x = row(T, 1);
            due(x.number(0), 0);
            does(x, "take i 5;none;");
            due(x.number(5), 0);
            does(x, "text a;box 0 0;");
            due(x.number(5), 0);
        });
        promise18();
        promises19To21();
        promises22To25();
    }

    private static void promise18() {
        part("Promise 18");
        MendedProgram x = with("none;call 1;", "blur;call 2;none;", "none;");
        patch(x, "func 3{}");
        patch(x, "func 1{blur;none;call 2;none;}");
        x.enable(1);
        x.start(2, 0);
        x.go(5);
        test("Of a FRAME of a TASK (0 the topmost): 0 its FUNCTION,", () -> {
            due(x.task(2, 0), 3);
            for (int f = 0; f < 3; f++) due(x.frame(2, f, 0), 2 - f);
            for (int f : new int[] {3, -1, 9, 10, MOST, LEAST}) refused(ELEMENT, x, () -> x.frame(2, f, 0));
            refused(ELEMENT, x, () -> x.frame(1, 0, 0));
            refused(ELEMENT, x, () -> x.frame(6, 0, 0));
            refused(ELEMENT, x, () -> x.frame(-1, 0, 0));
            for (int what : new int[] {4, -1, MOST, LEAST}) refused(ARGUMENT, x, () -> x.frame(2, 2, what));
        });
        test("1 the PATCH whose CODE it is (NONE: its own),", () -> {
            int[] patches = {NONE, 1, NONE};
            for (int f = 0; f < 3; f++) due(x.frame(2, f, 1), patches[f]);
            // also when it is no longer stacked
            x.disable();
            x.force();
            due(x.frame(2, 1, 1), 1);
        });
        test("2 the DEED at which it is (from 0 on; as many as there are: behind all),", () -> {
            int[] places = {0, 3, 2};
            for (int f = 0; f < 3; f++) due(x.frame(2, f, 2), places[f]);
            x.step(2);
            due(x.frame(2, 0, 2), 1);
            x.step(2);
            due(x.frame(2, 0, 2), 3);
            x.step(2);
            due(x.frame(2, 0, 2), 4);
            x.step(2);
            due(x.frame(2, 0, 2), 2);
        });
        test("3 1 it is blurred, 0 not.", () -> {
            due(x.frame(2, 0, 3), 0);
            x.kill(2);
            x.start(2, 1);
            due(x.frame(2, 0, 3), 0);
            x.go(2);
            due(x.frame(2, 0, 3), 0);
            due(x.frame(2, 1, 3), 1);
        });
    }

    private static void promises19To21() {
        part("Promise 19");
        test("Why a TASK has not turned: the FRAME nearest the top for which it can't (0 the topmost);", () -> {
            MendedProgram x = with("call 1;", "blur;call 2;", "call 3;", "none;blur;clear;call 0;", LONG);
            patch(x, "func 0{}func 4{}");
            x.start(0, 0);
            x.go(5);
            due(x.task(0, 0), 4);
            due(x.enable(0), 1);
            // of F3, F2, F1 (blurred), F0 (the PATCH's): the third from the top
            due(x.stuck(0), 2);
            x.step(0);
            due(x.stuck(0), 0);
            x.step(0);
            due(x.stuck(0), 2);
            x.step(0);
            due(x.task(0, 0), 5);
            due(x.stuck(0), 0);
            x.start(1, 4);
            due(x.stuck(1), NONE);
            MendedProgram y = sixInZero();
            patch(y, "func 0{}");
            y.enable(0);
            for (int t = 0; t < 6; t++) due(y.stuck(t), 0);
            // ten FRAMES, the lowest one
            MendedProgram z = with("call 1;", "call 1;");
            patch(z, "func 0{}");
            z.start(3, 0);
            z.go(9);
            z.enable(0);
            due(z.task(3, 0), 10);
            due(z.stuck(3), 9);
            // off as on
            z.force();
            due(z.disable(), 1);
            due(z.stuck(3), 9);
        });
        test("NONE: it has, or none is TURNING.", () -> {
            MendedProgram x = with("blur;rest 99;");
            patch(x, "func 0{}");
            x.start(0, 0);
            x.step(0);
            due(x.stuck(0), NONE);
            x.enable(0);
            due(x.stuck(0), 0);
            for (int t = 1; t < 6; t++) due(x.stuck(t), NONE);
            x.force();
            due(x.stuck(0), NONE);
            x.disable();
            due(x.stuck(0), 0);
            x.reverse();
            due(x.stuck(0), NONE);
            for (int t : new int[] {6, -1, MOST, LEAST}) refused(ELEMENT, x, () -> x.stuck(t));
        });
        part("Promise 20");
        test("By which PATCH's CODE a FUNCTION would be called by a TASK now; NONE: its own.", () -> {
            MendedProgram x = with(LONG);
            patch(x, "func 0{}func 11{}");
            patch(x, "func 11{}");
            for (int f = 0; f < 12; f++) due(x.calls(5, f), NONE);
            x.enable(1);
            due(x.calls(5, 11), 1);
            due(x.calls(5, 0), NONE);
            x.start(0, 0);
            x.enable(0);
            due(x.calls(0, 0), NONE);
            due(x.calls(0, 11), 1);
            due(x.calls(5, 0), 0);
            due(x.calls(5, 11), 0);
            x.force();
            due(x.calls(0, 0), 0);
            due(x.calls(0, 11), 0);
            x.disable();
            due(x.calls(0, 0), 0);
            due(x.calls(5, 0), NONE);
            due(x.calls(5, 11), 1);
            for (int no : new int[] {-1, 12, MOST, LEAST}) {
                refused(ELEMENT, x, () -> x.calls(0, no));
                refused(ELEMENT, x, () -> x.calls(no, 0));
            }
            refused(ELEMENT, x, () -> x.calls(6, 0));
        });
        part("Promise 21");
        test("The topmost PATCH stacked that has a FUNCTION, TURNING or not; NONE: none has.", () -> {
            MendedProgram x = with(LONG);
            patch(x, "func 0{}func 11{}");
            patch(x, "func 11{}");
            for (int f = 0; f < 12; f++) due(x.entry(f), NONE);
            x.enable(1);
            due(x.entry(11), 1);
            x.start(0, 0);
            x.enable(0);
            due(x.entry(11), 0);
            due(x.entry(0), 0);
            due(x.entry(5), NONE);
            x.force();
            due(x.entry(11), 0);
            x.disable();
            due(x.entry(11), 0);
            due(x.entry(0), 0);
            x.force();
            due(x.entry(11), 1);
            due(x.entry(0), NONE);
            for (int f : new int[] {-1, 12, MOST, LEAST}) refused(ELEMENT, x, () -> x.entry(f));
        });
    }

    private static void promises22To25() {
        part("Promise 22");
        MendedProgram x = new MendedProgram();
        patch(x, "func 0{ret;}func 11{}begin{ret;none;}done{ret;none;none;}undone{ret;none;none;none;}");
        patch(x, "all func 11{" + deedsOf(24) + "}");
        patch(x, "func 1{}func 2{ret;}func 3{}");
        test("Of a PATCH: 0 its place among those stacked (0 the lowest; NONE),", () -> {
            for (int p = 0; p < 3; p++) due(x.patchOf(p, 0), NONE);
            x.enable(2);
            x.enable(0);
            due(x.patchOf(2, 0), 0);
            due(x.patchOf(0, 0), 1);
            x.start(0, 11);
            x.enable(1);
            due(x.patchOf(1, 0), 2);
            x.kill(0);
            due(x.patchOf(1, 0), 0);
            due(x.patchOf(0, 0), NONE);
            for (int p : new int[] {3, 7, 8, -1, MOST, LEAST}) refused(ELEMENT, x, () -> x.patchOf(p, 0));
            for (int what : new int[] {5, -1, MOST, LEAST}) refused(ARGUMENT, x, () -> x.patchOf(0, what));
        });
        test("1 FUNCTIONS that it has (bits),", () -> {
            int[] bits = {1 | 1 << 11, 1 << 11, 14};
            for (int p = 0; p < 3; p++) due(x.patchOf(p, 1), bits[p]);
        });
        test("2 1 with \"all\", 0 without,", () -> {
            int[] all = {0, 1, 0};
            for (int p = 0; p < 3; p++) due(x.patchOf(p, 2), all[p]);
        });
        test("3 DEEDS of all its CODES,", () -> {
            int[] deeds = {10, 24, 1};
            for (int p = 0; p < 3; p++) due(x.patchOf(p, 3), deeds[p]);
        });
        test("4 how often it was enabled.", () -> {
            for (int p = 0; p < 3; p++) due(x.patchOf(p, 4), 1);
            due(x.enable(2), 0);
            x.start(1, 11);
            x.disable();
            x.enable(2);
            x.disable();
            due(x.patchOf(2, 4), 3);
            due(x.patchOf(1, 4), 1);
            x.disable();
            x.reverse();
            due(x.patchOf(1, 4), 1);
            refused(STATE, x, () -> x.enable(1));
            due(x.patchOf(1, 4), 1);
            MendedProgram y = new MendedProgram();
            patch(y, "func 0{}");
            due(y.patchOf(0, 4), 0);
        });
        promises23To25();
    }

    private static void promises23To25() {
        part("Promise 23");
        test("Of a DATUM: 0 KIND (11 a THING, 12 missing), 1 places, 2 SHADOWS (bits).", () -> {
            MendedProgram x = new MendedProgram();
            for (int kind = 0; kind <= 12; kind++) {
                x.datum(4, kind, kind <= 10 ? 9 : 0);
                due(x.datumOf(4, 0), kind);
                due(x.datumOf(4, 1), kind <= 10 ? 9 : 0);
                due(x.datumOf(4, 2), 0);
                due(does(x, "make 4 0 i 3;make 4 4 i 3;make 4 2 i 3;"), kind == 12 ? 3 : 0);
                due(x.datumOf(4, 2), kind == 12 ? 0 : 1 + 4 + 16);
                due(x.datumOf(4, 0), kind);
            }
            for (int d : new int[] {10, -1, MOST, LEAST}) refused(ELEMENT, x, () -> x.datumOf(d, 0));
            for (int what : new int[] {3, -1, MOST, LEAST}) refused(ARGUMENT, x, () -> x.datumOf(0, what));
        });
        part("Promise 24");
        test("Likewise of a SHADOW: 0 KIND (12 missing), 1 places.", () -> {
            MendedProgram x = new MendedProgram();
            x.datum(9, THING, 0);
            for (int kind = 0; kind <= 10; kind++) {
                due(x.shadowOf(9, 4, 0), MISSING);
                due(x.shadowOf(9, 4, 1), 0);
                does(x, "make 9 4 " + LETTERS.charAt(kind) + " " + kind % 10 + ";");
                due(x.shadowOf(9, 4, 0), kind);
                due(x.shadowOf(9, 4, 1), kind % 10);
                due(x.shadowOf(9, 3, 0), MISSING);
                does(x, "free 9 4;");
            }
            due(x.shadowOf(0, 0, 0), MISSING);
            due(x.shadowOf(0, 0, 1), 0);
            for (int d : new int[] {10, -1, MOST, LEAST}) refused(ELEMENT, x, () -> x.shadowOf(d, 0, 0));
            for (int m : new int[] {5, NONE, MOST, LEAST}) refused(ELEMENT, x, () -> x.shadowOf(9, m, 0));
            for (int what : new int[] {2, -1, MOST, LEAST}) refused(ARGUMENT, x, () -> x.shadowOf(9, 0, what));
            refused(ARGUMENT, x, () -> x.shadowOf(0, 0, 2));
        });
        part("Promise 25");
        test("What stands at a place of a DATUM, or of a SHADOW of it (number NONE: of the DATUM itself), as number() tells;", () -> {
            MendedProgram x = row(D, 2);
            x.set(I, 0, 1, -3);
            x.keep(0, 0, 0);
            x.keep(0, 4, 0);
            x.set(D, 0, 1, 7);
            due(x.cell(0, NONE, 1), 7);
            due(x.cell(0, 0, 1), -12);
            due(x.cell(0, 4, 1), -12);
            x.datum(9, A, 9);
            does(x, "text zz;put 9 8;take z 9;put 9 0;take f 6;put 9 1;");
            due(x.cell(9, NONE, 8), 728);
            due(x.cell(9, NONE, 0), 1);
            due(x.cell(9, NONE, 1), 6);
            for (int d : new int[] {10, -1, MOST, LEAST}) refused(ELEMENT, x, () -> x.cell(d, NONE, 0));
            for (int m : new int[] {5, -2, MOST, LEAST}) refused(ELEMENT, x, () -> x.cell(0, m, 0));
        });
        test("0, if it is missing, or there is no such ROW, place.", () -> {
            MendedProgram x = rows();
            x.keep(4, 0, 0);
            due(x.cell(2, NONE, 0), 0);
            due(x.cell(4, 0, 0), 0);
            x.set(I, 5, 0, 8);
            for (int p : new int[] {1, -1, 8, 9, 10, MOST, LEAST}) {
                due(x.cell(5, NONE, p), 0);
                due(x.cell(0, NONE, p), 0);
                due(x.cell(1, NONE, p), 0);
                due(x.cell(5, 0, p), 0);
                due(x.cell(0, 4, p), 0);
            }
            due(x.cell(7, NONE, 0), 0);
            due(x.status(0), 0);
        });
    }

    private static void promises26To35() {
        part("Promise 26");
        test("GET by a KIND (0 to 7) of a place of a DATUM, as by hand: the number (as number() tells),", () -> {
            String[] widens = {"z", "bsijfd", "cijfd", "sijfd", "ijfd", "jfd", "fd", "d"};
            for (int of = Z; of <= D; of++) {
                MendedProgram x = row(of, 9);
                x.set(of, 0, 8, 1);
                for (int by = Z; by <= D; by++) {
                    boolean can = widens[of].indexOf(LETTERS.charAt(by)) >= 0;
                    due(x.get(by, 0, 8), !can ? GOT_2 : of < F && by >= F ? 4 : 1);
                }
                for (int kind : new int[] {8, 9, 10, 11, -1, MOST, LEAST}) refused(ARGUMENT, x, () -> x.get(kind, 0, 8));
                for (int d : new int[] {10, -1, MOST, LEAST}) refused(ELEMENT, x, () -> x.get(0, d, 0));
            }
            // a TASK has nothing of it
            MendedProgram x = row(I, 1);
            does(x, "text a;get i 1 0;");
            x.set(I, 0, 0, 5);
            due(x.get(J, 0, 0), 5);
            value(x, TEXT, 1);
            due(x.task(5, 1), 3);
        });
        test("or, with a TRAP, that less 1,000,000,000.", () -> {
            MendedProgram x = rows();
            x.set(I, 5, 0, -99999);
            due(x.get(I, 5, 0), -99999);
            due(x.get(I, 5, 1), -999999999L);
            due(x.get(S, 5, 0), -999999998L);
            due(x.get(I, 1, 0), -999999998L);
            due(x.get(I, 0, 0), -999999997L);
            due(x.told(10), 0);
            due(x.told(11), 0);
        });
        part("Promise 27");
        test("SET likewise, v -99,999 to 99,999: the TRAP.", () -> {
            MendedProgram x = rows();
            due(x.set(I, 0, 0, 1), 3);
            due(x.set(I, 1, 0, 1), 2);
            due(x.set(I, 5, 1, 1), 1);
            due(x.set(J, 5, 0, 1), 2);
            for (int v : new int[] {99999, -99999, 0}) {
                due(x.set(I, 5, 0, v), 0);
                due(x.cell(5, NONE, 0), v);
            }
            for (int v : new int[] {100000, -100000, MOST, LEAST}) refused(ARGUMENT, x, () -> x.set(I, 5, 0, v));
            for (int kind : new int[] {8, 9, 10, 11, -1, MOST, LEAST}) refused(ARGUMENT, x, () -> x.set(kind, 5, 0, 0));
            for (int d : new int[] {10, -1, MOST, LEAST}) refused(ELEMENT, x, () -> x.set(I, d, 0, 0));
            // before it is looked at what stands there
            refused(ARGUMENT, x, () -> x.set(I, 0, 0, 100000));
            due(x.told(10), 0);
        });
        part("Promise 28");
        test("BOX of a place of a DATUM, PUT to a place of another one, or the same: the TRAP of BOX, if there is one, else 10 and that of PUT.",
                () -> {
            MendedProgram x = rows();
            x.set(I, 5, 0, 6);
            due(x.move(0, 0, 0, 0), 3);
            due(x.move(1, 0, 0, 0), 2);
            due(x.move(5, 1, 0, 0), 1);
            due(x.move(5, 0, 0, 0), 13);
            due(x.move(5, 0, 1, 0), 12);
            due(x.move(5, 0, 6, 0), 12);
            due(x.move(5, 0, 6, 1), 11);
            due(x.move(5, 0, 4, 0), 10);
            due(x.cell(4, NONE, 0), 6);
            due(x.move(2, 0, 5, 9), 12);
            due(x.move(2, 0, 3, 0), 10);
            due(x.move(4, 0, 3, 0), 10);
            due(x.cell(3, NONE, 0), 6);
            x.datum(8, S, 3);
            x.set(S, 8, 0, 3);
            due(x.move(8, 0, 8, 2), 10);
            due(x.move(8, 0, 8, 0), 10);
            due(x.cell(8, NONE, 0), 3);
            due(x.cell(8, NONE, 1), 0);
            due(x.cell(8, NONE, 2), 3);
            for (int no : new int[] {10, -1, MOST, LEAST}) {
                refused(ELEMENT, x, () -> x.move(no, 0, 0, 0));
                refused(ELEMENT, x, () -> x.move(0, 0, no, 0));
                due(x.move(5, no, 4, 0), 1);
                due(x.move(5, 0, 4, no), 11);
            }
            due(x.status(1), 0);
            due(x.told(10), 0);
        });
        promises29To31();
        promises32To35();
    }

    private static void promises29To31() {
        part("Promise 29");
        test("shape of a DATUM (KIND 0 to 10, places 0 to 9), as by hand: the TRAP.", () -> {
            MendedProgram x = rows();
            for (int d = 0; d <= 1; d++) due(x.shape(d, I, 0), 3 - d);
            for (int kind = 0; kind <= 10; kind++) {
                due(x.shape(7, kind, 9), 0);
                due(x.datumOf(7, 0), kind);
                due(x.datumOf(7, 1), 9);
                due(x.shape(7, kind, 0), 0);
                due(x.datumOf(7, 1), 0);
            }
            x.set(S, 6, 0, -2);
            x.keep(6, 3, 0);
            due(x.shape(6, B, 1), 2);
            due(x.shape(6, F, 2), 0);
            due(x.cell(6, NONE, 0), -8);
            due(x.cell(6, NONE, 1), 0);
            due(x.shadowOf(6, 3, 0), S);
            due(x.told(10), 0);
            for (int kind : new int[] {11, 12, -1, MOST, LEAST}) refused(ARGUMENT, x, () -> x.shape(6, kind, 0));
            for (int places : new int[] {10, -1, MOST, LEAST}) refused(ARGUMENT, x, () -> x.shape(6, I, places));
            for (int d : new int[] {10, -1, MOST, LEAST}) refused(ELEMENT, x, () -> x.shape(d, I, 0));
            refused(ARGUMENT, x, () -> x.shape(0, 11, 0));
        });
        part("Promise 30");
        test("keep (what 0), lift (1), as by hand: the TRAP.", () -> {
            MendedProgram x = rows();
            for (int what = 0; what <= 1; what++) due(x.keep(0, 0, what), 3);
            due(x.keep(1, 0, 0), 2);
            due(x.keep(1, 0, 1), 3);
            x.set(I, 5, 0, 4);
            due(x.keep(5, 4, 0), 0);
            due(x.keep(5, 0, 0), 0);
            x.set(I, 5, 0, 5);
            due(x.keep(5, 0, 0), 0);
            due(x.cell(5, 0, 0), 5);
            due(x.keep(5, 4, 1), 0);
            due(x.cell(5, NONE, 0), 4);
            due(x.datumOf(5, 2), 1);
            due(x.keep(5, 4, 1), 3);
            due(x.cell(5, NONE, 0), 4);
            due(x.told(10), 0);
            for (int what : new int[] {2, -1, MOST, LEAST}) refused(ARGUMENT, x, () -> x.keep(5, 0, what));
            for (int m : new int[] {5, NONE, MOST, LEAST}) refused(ELEMENT, x, () -> x.keep(5, m, 0));
            for (int d : new int[] {10, -1, MOST, LEAST}) refused(ELEMENT, x, () -> x.keep(d, 0, 0));
            refused(ARGUMENT, x, () -> x.keep(0, 0, 2));
        });
        part("Promise 31");
        test("KINDS (bits, 0 to 10) of which a DATUM could be by shape, of as many places as it has;", () -> {
            String[] widens = {"za", "bsijfda", "cijfda", "sijfda", "ijfdna", "jfda", "fda", "da", "tna", "tna", "tna"};
            for (int kind = Z; kind <= A; kind++) {
                MendedProgram x = row(kind, 1);
                int bits = 0;
                for (int i = 0; i < widens[kind].length(); i++) bits |= 1 << LETTERS.indexOf(widens[kind].charAt(i));
                due(x.shapes(0), bits);
                x.datum(0, kind, 9);
                due(x.shapes(0), bits);
                // as shape says
                for (int to = Z; to <= A; to++) {
                    x.datum(0, kind, 9);
                    due(x.shape(0, to, 9), (bits >> to & 1) == 1 ? 0 : 2);
                }
                x.datum(0, kind, 0);
                due(x.shapes(0), 2047);
            }
            // by what stands there
            MendedProgram x = rows();
            due(does(x, "text a;put 2 0;put 4 0;"), 0);
            due(x.shapes(2), 1 << T | 1 << A);
            due(x.shapes(4), 1 << T | 1 << A);
            due(does(x, "take i 1;put 3 0;put 4 0;"), 0);
            due(x.shapes(3), 16 + 32 + 64 + 128 + 512 + 1024);
            due(x.shapes(4), 16 + 32 + 64 + 128 + 512 + 1024);
            x.datum(9, A, 9);
            due(does(x, "take b 1;put 9 0;put 9 1;put 9 2;put 9 3;put 9 4;put 9 5;put 9 6;put 9 7;put 9 8;"), 0);
            due(x.shapes(9), 2 + 8 + 16 + 32 + 64 + 128 + 1024);
            due(does(x, "take c 1;put 9 8;"), 0);
            due(x.shapes(9), 16 + 32 + 64 + 128 + 1024);
            due(does(x, "none;put 9 8;"), 0);
            due(x.shapes(9), 1024);
            for (int d : new int[] {10, -1, MOST, LEAST}) refused(ELEMENT, x, () -> x.shapes(d));
        });
        test("0: it is no ROW.", () -> {
            MendedProgram x = rows();
            due(x.shapes(0), 0);
            due(x.shapes(1), 0);
            due(does(x, "make 1 0 i 1;"), 0);
            due(x.shapes(1), 0);
        });
    }

    private static void promises32To35() {
        part("Promise 32");
        test("All that stands in two DATA place by place, as far as both go: at how many places VALUES are the same", () -> {
            MendedProgram x = row(I, 3);
            x.datum(1, I, 9);
            due(x.same(0, 1), 3);
            due(x.same(1, 0), 3);
            due(x.same(1, 1), 9);
            x.set(I, 1, 0, 4);
            due(x.same(0, 1), 2);
            // place by place: not the same one at another place
            x.set(I, 0, 1, 4);
            due(x.same(0, 1), 1);
            x.set(I, 1, 3, 4);
            due(x.same(0, 1), 1);
            x.datum(2, I, 0);
            due(x.same(0, 2), 0);
            due(x.same(2, 2), 0);
            for (int d : new int[] {10, -1, MOST, LEAST}) {
                refused(ELEMENT, x, () -> x.same(d, 0));
                refused(ELEMENT, x, () -> x.same(0, d));
            }
        });
        test("(as numbers, whatever their KINDS are; missing ones alike);", () -> {
            MendedProgram x = new MendedProgram();
            for (int kind = Z; kind <= D; kind++) {
                x.datum(kind, kind, 1);
                x.set(kind, kind, 0, kind >= F ? 4 : 1);
            }
            for (int d = Z; d <= D; d++) {
                for (int e = Z; e <= D; e++) due(x.same(d, e), 1);
            }
            x.set(D, D, 0, 1);
            for (int d = Z; d <= F; d++) due(x.same(d, D), 0);
            x.datum(8, A, 2);
            x.datum(9, T, 2);
            due(x.same(8, 9), 2);
            x.move(0, 0, 8, 0);
            due(x.same(8, 4), 1);
            due(x.same(8, 9), 1);
            // a missing one is no number, not 0 either; a TEXT is the same as itself
            x.set(I, 4, 0, 0);
            due(x.same(9, 4), 0);
            due(does(x, "text a;put 9 0;put 8 1;put 9 1;"), 0);
            due(x.same(9, 8), 1);
            due(does(x, "text b;put 8 1;"), 0);
            due(x.same(9, 8), 0);
        });
        test("NONE: one is no ROW.", () -> {
            MendedProgram x = rows();
            for (int d = 0; d <= 1; d++) {
                for (int e = 0; e <= 7; e++) {
                    due(x.same(d, e), NONE);
                    due(x.same(e, d), NONE);
                }
            }
            due(x.same(7, 5), 0);
        });
        part("Promise 33");
        test("How many TICKS it would take, if nothing else is done, until no PATCH is TURNING (at most 60);", () -> {
            for (int n : new int[] {0, 1, 30, 57, 58}) {
                MendedProgram x = with("rest " + n + ";");
                patch(x, "func 0{}");
                x.start(0, 0);
                due(x.enable(0), 1);
                due(x.waits(), n + 2);
                due(x.go(n + 1), 0);
                due(x.told(3), 0);
                due(x.waits(), 1);
                x.go(1);
                due(x.told(3), NONE);
            }
            waitsForAll();
        });
        test("NONE: more;", () -> {
            MendedProgram x = with("rest 59;", "back;", "blur;rest 99;");
            patch(x, "func 0{}func 1{}");
            x.start(0, 0);
            x.enable(0);
            due(x.waits(), NONE);
            x.go(1);
            due(x.waits(), 60);
            x.kill(0);
            x.start(0, 1);
            x.disable();
            due(x.waits(), 1);
            MendedProgram y = with("", "back;", "blur;rest 99;");
            patch(y, "func 1{}");
            y.start(0, 1);
            y.enable(0);
            due(y.waits(), NONE);
            y.kill(0);
            y.start(3, 2);
            y.step(3);
            y.disable();
            due(y.waits(), NONE);
        });
        test("0: none is.", () -> {
            MendedProgram x = with(LONG);
            due(x.waits(), 0);
            patch(x, "func 0{}");
            x.start(0, 0);
            due(x.waits(), 0);
            x.enable(0);
            due(x.waits(), NONE);
            x.force();
            due(x.waits(), 0);
        });
        promises34And35();
    }

    /** What waits() goes by: all TASKS, VALUES, data, and what is stacked below the PATCH that is TURNING. */
    private static void waitsForAll() {
        String[] values = {"none", "take i 0", "take i 1", "text a"};
        for (int v = 0; v < values.length; v++) {
            MendedProgram y = with(values[v] + ";skip 1;rest 7;ret;");
            patch(y, "func 0{}");
            y.start(3, 0);
            y.step(3);
            due(y.enable(0), 1);
            due(y.waits(), v < 2 ? 2 : 10);
            due(y.number(3), v < 2 ? 0 : 1);
        }
        MendedProgram x = with("call 1;", "", "get i 0 0;skip 1;rest 7;ret;");
        patch(x, "func 5{}");
        patch(x, "func 5{}");
        patch(x, "func 1{rest 4;}");
        for (int i = 3; i < 7; i++) patch(x, "func 4{}");
        patch(x, "func 0{}func 2{}done{get i 9 0;}undone{get i 9 0;}");
        x.datum(0, I, 1);
        x.enable(2);
        x.start(0, 0);
        due(x.enable(7), 1);
        due(x.told(3), 7);
        due(x.told(5), 62);
        due(x.waits(), 8);
        x.kill(0);
        due(x.disable(), 0);
        x.start(4, 2);
        due(x.enable(7), 1);
        due(x.waits(), 3);
        x.set(I, 0, 0, 1);
        due(x.waits(), 11);
        int traps = x.told(11);
        due(x.waits(), 11);
        due(x.told(11), traps);
        x.go(10);
        due(x.told(3), 7);
        x.go(1);
        due(x.told(3), NONE);
        due(x.told(11), traps + 1);
    }

    private static void promises34And35() {
        part("Promise 34");
        test("The TASK with most FRAMES, of alike ones the first;", () -> {
            MendedProgram x = with("call 0;");
            for (int t = 5; t >= 0; t--) {
                x.start(t, 0);
                due(x.deepest(), t);
            }
            x.step(5);
            due(x.deepest(), 5);
            x.step(2);
            due(x.deepest(), 2);
            x.step(5);
            due(x.deepest(), 5);
            x.kill(5);
            due(x.deepest(), 2);
            x.kill(2);
            due(x.deepest(), 0);
            for (int i = 0; i < 9; i++) x.step(3);
            for (int i = 0; i < 9; i++) x.step(1);
            due(x.deepest(), 1);
            due(x.task(1, 0), 10);
        });
        test("NONE: all are IDLE.", () -> {
            MendedProgram x = new MendedProgram();
            due(x.deepest(), NONE);
            x.start(0, 0);
            due(x.deepest(), 0);
            x.go(1);
            due(x.deepest(), NONE);
            x.start(5, 0);
            due(x.deepest(), 5);
            x.kill(5);
            due(x.deepest(), NONE);
        });
        part("Promise 35");
        test("How many calls were refused: 0 NoSuchElementException, 1 IllegalArgumentException, 2 IllegalStateException;", () -> {
            MendedProgram x = new MendedProgram();
            for (int what = 0; what < 3; what++) due(x.status(what), 0);
            refused(ELEMENT, x, () -> x.kill(6));
            refused(ELEMENT, x, () -> x.kill(6));
            refused(ARGUMENT, x, () -> x.go(0));
            for (int i = 0; i < 4; i++) refused(STATE, x, x::force);
            int[] due = {2, 1, 4};
            for (int what = 0; what < 3; what++) due(x.status(what), due[what]);
            // an answer that tells of a FAULT, a TRAP, a full TAPE or NONE is none that is refused
            function(x, 0, "x");
            patch(x, "x");
            x.get(I, 0, 0);
            x.set(I, 0, 0, 0);
            x.move(0, 0, 0, 0);
            x.same(0, 0);
            x.cell(0, NONE, 99);
            for (int i = 0; i < 26; i++) x.feed(0, 0, 0, 0, 0);
            x.status(99);
            for (int what = 0; what < 3; what++) due(x.status(what), due[what]);
        });
        test("NONE for others.", () -> {
            MendedProgram x = new MendedProgram();
            for (int what : new int[] {3, -1, MOST, LEAST}) due(x.status(what), NONE);
            due(x.status(0) + x.status(1) + x.status(2), 0);
        });
    }
}
