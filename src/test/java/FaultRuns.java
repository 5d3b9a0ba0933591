import java.util.ArrayList;
import java.util.List;
import java.util.Random;
import java.util.TreeMap;
import java.util.TreeSet;
import java.util.regex.Matcher;
import java.util.regex.Pattern;

/**
 * Random texts of CODE and PATCHES, their FAULTS found without a parser: the forms stand as regular expressions, and a
 * FAULT stands at the first word, number or sign with which the text can no longer be the beginning of one that is due
 * (Matcher.hitEnd tells that). Which FAULT it is, is told by what looser forms would let pass there.
 */
public final class FaultRuns {
    private static final int TEXTS = 60000;
    private static final int MOST = 500;
    private static final Pattern TOKEN = Pattern.compile("[a-z]+|[0-9]+|[^ ]", Pattern.DOTALL);
    private static final String[] DEEDS = {"call F", "ret", "back", "rest N", "skip N", "blur", "clear", "take k V",
        "text T", "none", "get k X P", "set k X P V", "box X P", "put X P", "make D M K P", "free D M", "shape D K P",
        "keep D M", "lift D M"};

    /** Every word, number and sign has a blank behind it in what these are matched with. */
    private static final Form[] CODE = {form(false, true, true), form(false, false, true), form(false, true, false)};
    private static final Form[] PATCH = {form(true, true, true), form(true, false, true), form(true, true, false)};

    private record Form(Pattern whole) {
        boolean canGoOn(String text) {
            Matcher m = whole.matcher(text);
            return m.matches() || m.hitEnd();
        }

        boolean is(String text) {
            return whole.matcher(text).matches();
        }
    }

    private record Fault(int kind, int place) { }

    public static void main(String[] args) {
        int texts = args.length > 0 ? Integer.parseInt(args[0]) : TEXTS;
        int wrong = 0;
        Random r = new Random(args.length > 1 ? Long.parseLong(args[1]) : 10);
        TreeMap<String, Integer> seen = new TreeMap<>();
        for (int i = 0; i < texts && wrong < 5; i++) {
            boolean patch = r.nextBoolean();
            String text = patch ? patchText(r) : code(r, r.nextInt(8) == 0 ? 20 + r.nextInt(7) : r.nextInt(5));
            for (int n = r.nextInt(3); n > 0; n--) text = spoilt(r, text);
            if (text.length() > MOST) text = text.substring(0, MOST);
            Fault due = fault(patch, text);
            Fault got = answered(patch, text);
            seen.merge((patch ? "patch" : "code") + due.kind, 1, Integer::sum);
            if (!due.equals(got)) {
                wrong++;
                System.out.println("FaultRuns: " + (patch ? "patch" : "function") + " of \"" + text + "\" answered "
                        + got + ", due is " + due);
            }
        }
        boolean every = seen.keySet().containsAll(List.of("code0", "code1", "code2", "code3", "patch0", "patch1",
                "patch2", "patch3", "patch4"));
        System.out.println("FaultRuns: " + texts + " texts, " + wrong + " wrong; FAULTS due: " + seen);
        if (wrong != 0 || !every) System.exit(1);
    }

    // ---- the class ----

    /** FAULT 0 without one. What a text without FAULT answers is looked at, too. */
    private static Fault answered(boolean patch, String text) {
        MendedProgram x = new MendedProgram();
        for (int at = 0; at < text.length() && at + 20 <= MOST; at += 20) {
            int[] five = new int[5];
            for (int i = 0; i < 20; i++) {
                // what is behind the text on the TAPE must not be read
                int sign = at + i < text.length() ? text.charAt(at + i) : "ret;0".charAt(i % 5);
                five[i / 4] |= sign << 24 - 8 * (i % 4);
            }
            x.feed(five[0], five[1], five[2], five[3], five[4]);
        }
        int answer = patch ? x.patch(text.length()) : x.function(0, text.length());
        if (x.told(14) != 0) return new Fault(100, x.told(14));
        if (answer < 0) return new Fault(answer + 10, x.fault());
        int deeds = deeds(text);
        if (!patch && answer != deeds) return new Fault(101, answer);
        if (patch && (answer != 0 || x.patchOf(0, 3) != deeds)) return new Fault(102, x.patchOf(0, 3));
        return new Fault(0, x.fault());
    }

    private static int deeds(String text) {
        int n = 0;
        for (int i = 0; i < text.length(); i++) n += text.charAt(i) == ';' ? 1 : 0;
        return n;
    }

    // ---- the forms ----

    private static Form form(boolean patch, boolean narrow, boolean counted) {
        String deed = "";
        for (String d : DEEDS) deed += (deed.isEmpty() ? "" : "|") + deedForm(d, narrow);
        String code = "(?:(?:" + deed + "); )" + (counted ? "{0,24}" : "*");
        if (!patch) return new Form(Pattern.compile(code));
        String func = "func " + number("0*(?:[0-9]|1[01])", narrow) + " \\{ " + code + "\\} ";
        String whole = "(?:all )?(?:" + func + ")" + (counted ? "{1,8}" : "+");
        for (String end : new String[] {"begin", "done", "undone"}) whole += "(?:" + end + " \\{ " + code + "\\} )?";
        return new Form(Pattern.compile(whole));
    }

    private static String number(String narrowly, boolean narrow) {
        return narrow ? "(?:" + narrowly + ")" : "[0-9]+";
    }

    private static String deedForm(String deed, boolean narrow) {
        String[] parts = deed.split(" ");
        StringBuilder b = new StringBuilder(parts[0]).append(' ');
        for (int i = 1; i < parts.length; i++) {
            switch (parts[i]) {
                case "F": b.append(number("0*(?:[0-9]|1[01])", narrow)); break;
                case "N": b.append(number("0*[0-9]{1,2}", narrow)); break;
                case "V": b.append("(?:- )?").append(number("0*[0-9]{1,5}", narrow)); break;
                case "k": b.append("[zbcsijfd]"); break;
                case "K": b.append("[zbcsijfdtna]"); break;
                case "T": b.append("[a-z]{1,6}"); break;
                case "M": b.append(number("0*[0-4]", narrow)); break;
                case "X": b.append(number("0*[0-9]", narrow)).append("(?: \\. ").append(number("0*[0-4]", narrow)).append(")?"); break;
                default: b.append(number("0*[0-9]", narrow)); break;
            }
            b.append(' ');
        }
        return b.toString();
    }

    private static Fault fault(boolean patch, String text) {
        Form[] forms = patch ? PATCH : CODE;
        StringBuilder before = new StringBuilder();
        TreeSet<Integer> functions = new TreeSet<>();
        String last = "";
        Matcher token = TOKEN.matcher(text);
        while (token.find()) {
            String with = before + token.group() + " ";
            if (!forms[0].canGoOn(with)) {
                // [1] lets any number pass, [2] any count of DEEDS and of FUNCS
                int kind = forms[1].canGoOn(with) ? 2 : forms[2].canGoOn(with) ? 3 : 1;
                return new Fault(kind, token.start());
            }
            boolean ofFunc = patch && last.equals("func") && Character.isDigit(token.group().charAt(0));
            if (ofFunc && !functions.add(Integer.parseInt(token.group()))) return new Fault(4, token.start());
            last = token.group();
            before.append(last).append(' ');
        }
        return forms[0].is(before.toString()) ? new Fault(0, -1) : new Fault(1, text.length());
    }

    // ---- the texts ----

    private static String blanks(Random r, boolean one) {
        int n = r.nextInt(9) == 0 ? r.nextInt(3) : 0;
        return " ".repeat(one ? n + 1 : n);
    }

    private static String number(Random r, int most) {
        String zeros = r.nextInt(12) == 0 ? "0".repeat(1 + r.nextInt(7)) : "";
        int n = r.nextInt(4) == 0 ? most : r.nextInt(most + 1);
        if (r.nextInt(150) == 0) return zeros + (most + 1);
        if (r.nextInt(300) == 0) return (r.nextBoolean() ? "4294967296" : "18446744073709551616") + n;
        return zeros + n;
    }

    private static String code(Random r, int deeds) {
        StringBuilder b = new StringBuilder(blanks(r, false));
        for (int i = 0; i < deeds; i++) {
            String[] parts = DEEDS[deeds > 10 && r.nextInt(9) > 0 ? 1 + r.nextInt(2) : r.nextInt(DEEDS.length)].split(" ");
            b.append(parts[0]);
            for (int p = 1; p < parts.length; p++) part(r, parts[p], b);
            b.append(blanks(r, false)).append(';').append(blanks(r, false));
        }
        return b.toString();
    }

    private static void part(Random r, String part, StringBuilder b) {
        boolean letters = Character.isLetter(b.charAt(b.length() - 1));
        boolean word = "kKT".contains(part);
        b.append(blanks(r, letters == word || r.nextInt(2) == 0));
        switch (part) {
            case "F": b.append(number(r, 11)); break;
            case "N": b.append(number(r, 99)); break;
            case "V": b.append(r.nextInt(3) == 0 ? "-" + blanks(r, false) : "").append(number(r, 99999)); break;
            case "k": b.append("zbcsijfd".charAt(r.nextInt(8))); break;
            case "K": b.append("zbcsijfdtna".charAt(r.nextInt(11))); break;
            case "T": b.append(List.of("a", "z", "ret", "func", "begin", "undone", "i", "abcdef").get(r.nextInt(8))); break;
            case "M": b.append(number(r, 4)); break;
            case "X": b.append(number(r, 9));
                if (r.nextInt(3) == 0) b.append(blanks(r, false)).append('.').append(blanks(r, false)).append(number(r, 4));
                break;
            default: b.append(number(r, 9)); break;
        }
    }

    private static String patchText(Random r) {
        StringBuilder b = new StringBuilder(blanks(r, false)).append(r.nextInt(3) == 0 ? "all " : "");
        int funcs = r.nextInt(6) == 0 ? 7 + r.nextInt(3) : r.nextInt(4);
        int first = r.nextInt(12);
        for (int i = 0; i < funcs; i++) {
            int function = r.nextInt(40) == 0 ? first : (first + i) % 12;
            b.append("func").append(blanks(r, false)).append(r.nextInt(200) == 0 ? 12 : function).append(blanks(r, false)).append('{');
            b.append(code(r, r.nextInt(25) == 0 ? 23 + r.nextInt(3) : r.nextInt(2))).append('}').append(blanks(r, false));
        }
        for (String end : new String[] {"begin", "done", "undone"}) {
            if (r.nextInt(2) == 0) b.append(end).append(blanks(r, false)).append('{').append(code(r, r.nextInt(3))).append('}');
        }
        return b.append(blanks(r, false)).toString();
    }

    private static String spoilt(Random r, String text) {
        List<String> tokens = new ArrayList<>();
        Matcher m = Pattern.compile(" +|[a-z]+|[0-9]+|[^ ]", Pattern.DOTALL).matcher(text);
        while (m.find()) tokens.add(m.group());
        if (tokens.isEmpty()) return ";";
        int at = r.nextInt(tokens.size());
        String[] odd = {" ", "", ";", "}", "{", ".", "-", "all", "func", "func 3{}", "begin{}", "done{}", "undone{}", "ret;",
            "x", "call", "7", "12", "100", "100000", "\t", "\n", "\0", "\u00ff", "A", "+", "call 1;", "zz", "text func;"};
        String one = odd[r.nextInt(odd.length)];
        switch (r.nextInt(6)) {
            case 0: tokens.remove(at); break;
            case 1: tokens.add(at, one); break;
            case 2: tokens.set(at, one); break;
            case 3: tokens.add(at, tokens.get(r.nextInt(tokens.size()))); break;
            case 4: return text.substring(0, r.nextInt(text.length() + 1));
            default: return text + one;
        }
        return String.join("", tokens);
    }
}
