import java.util.NoSuchElementException;
import java.util.function.LongSupplier;

/** The promises one by one: ordinary inputs, the edges that the document names, wrong inputs. */
public final class PromiseTests {
    private static final int NONE = MendedProgram.NONE;
    private static final Class<?> ELEMENT = NoSuchElementException.class;
    private static final Class<?> ARGUMENT = IllegalArgumentException.class;
    private static final Class<?> STATE = IllegalStateException.class;
    private static final int Z = 0, B = 1, C = 2, S = 3, I = 4, J = 5, F = 6, D = 7, T = 8, N = 9, A = 10;
    private static final int THING = 11, MISSING = 12;

    private static int passed;
    private static int failed;
    private static int promise;
    private static int row;

    public static void main(String[] args) {
        Runnable[] promises = {
            PromiseTests::p1, PromiseTests::p2, PromiseTests::p3, PromiseTests::p4, PromiseTests::p5,
            PromiseTests::p6, PromiseTests::p7, PromiseTests::p8, PromiseTests::p9, PromiseTests::p10,
            PromiseTests::p11, PromiseTests::p12, PromiseTests::p13, PromiseTests::p14, PromiseTests::p15,
            PromiseTests::p16, PromiseTests::p17, PromiseTests::p18, PromiseTests::p19, PromiseTests::p20,
            PromiseTests::p21, PromiseTests::p22, PromiseTests::p23, PromiseTests::p24, PromiseTests::p25,
            PromiseTests::p26, PromiseTests::p27, PromiseTests::p28, PromiseTests::p29, PromiseTests::p30,
            PromiseTests::p31, PromiseTests::p32, PromiseTests::p33, PromiseTests::p34, PromiseTests::p35};
        for (int p = 0; p < promises.length; p++) {
            promise = p + 1;
            row = 0;
            promises[p].run();
        }
        System.out.println("PromiseTests: " + passed + " passed, " + failed + " failed");
        if (failed != 0) System.exit(1);
    }

    private static void due(long got, long want) {
        row++;
        if (got == want) {
            passed++;
            return;
        }
        failed++;
        System.out.println("promise " + promise + ", row " + row + " (line "
                + new Throwable().getStackTrace()[1].getLineNumber() + "): answered " + got + ", due is " + want);
    }

    private static void refused(Class<?> due, LongSupplier call) {
        row++;
        String told;
        try {
            told = "answered " + call.getAsLong();
        } catch (RuntimeException e) {
            if (e.getClass() == due) {
                passed++;
                return;
            }
            told = "threw " + e;
        }
        failed++;
        System.out.println("promise " + promise + ", row " + row + " (line "
                + new Throwable().getStackTrace()[1].getLineNumber() + "): " + told + ", due is " + due);
    }

    /** Lays a text on the TAPE, which is empty: how many bytes are the text's. */
    private static int lay(MendedProgram x, String text) {
        if (x.told(14) != 0) throw new IllegalStateException("the tape is not empty");
        for (int at = 0; at < text.length(); at += 20) {
            int[] five = new int[5];
            for (int i = 0; i < 20; i++) {
                int sign = at + i < text.length() ? text.charAt(at + i) : 0;
                five[i / 4] |= sign << 24 - 8 * (i % 4);
            }
            x.feed(five[0], five[1], five[2], five[3], five[4]);
        }
        return text.length();
    }

    private static int function(MendedProgram x, int function, String code) {
        return x.function(function, lay(x, code));
    }

    private static int patch(MendedProgram x, String patch) {
        return x.patch(lay(x, patch));
    }

    private static void codeFault(String code, int fault, int place) {
        MendedProgram x = new MendedProgram();
        function(x, 0, "ret;ret;ret;");
        due(function(x, 0, code), fault - 10);
        due(x.fault(), place);
        due(x.told(14), 0);
        x.start(0, 0);
        x.step(0);
        due(x.told(6), 63);
    }

    private static void patchFault(String patch, int fault, int place) {
        MendedProgram x = new MendedProgram();
        due(patch(x, patch), fault - 10);
        due(x.fault(), place);
        due(x.told(14), 0);
        due(x.told(0), 0);
    }

    private static String times(int n, String text) {
        return text.repeat(n);
    }

    private static MendedProgram with(String... functions) {
        MendedProgram x = new MendedProgram();
        for (int f = 0; f < functions.length; f++) {
            if (function(x, f, functions[f]) < 0) throw new IllegalStateException(functions[f]);
        }
        return x;
    }

    /** One DEED done by TASK 0: its TRAP. */
    private static int deed(MendedProgram x, String deed) {
        if (x.task(0, 0) != 0) x.kill(0);
        if (function(x, 11, deed + ";") != 1) throw new IllegalStateException(deed);
        x.start(0, 11);
        return x.step(0);
    }

    /** DEEDS done by TASK 0, one behind the other: the TRAP of the last one. */
    private static int deeds(MendedProgram x, String deeds) {
        if (x.task(0, 0) != 0) x.kill(0);
        int count = function(x, 11, deeds);
        x.start(0, 11);
        int trap = 0;
        for (int d = 0; d < count; d++) trap = x.step(0);
        return trap;
    }

    private static void p1() {
        MendedProgram x = new MendedProgram();
        for (int what = 0; what < 15; what++) {
            due(x.told(what), what == 2 || what == 3 || what == 4 ? NONE : what == 6 ? 63 : 0);
        }
        for (int t = 0; t < 6; t++) {
            for (int what = 0; what < 7; what++) due(x.task(t, what), what == 2 ? NONE : 0);
            due(x.number(t), 0);
            due(x.stuck(t), NONE);
            due(x.calls(t, 11), NONE);
        }
        for (int d = 0; d < 10; d++) {
            due(x.datumOf(d, 0), MISSING);
            due(x.datumOf(d, 1), 0);
            due(x.datumOf(d, 2), 0);
            due(x.shapes(d), 0);
            for (int m = 0; m < 5; m++) due(x.shadowOf(d, m, 0), MISSING);
        }
        for (int f = 0; f < 12; f++) {
            due(x.entry(f), NONE);
            due(x.start(0, f), NONE);
            due(x.frame(0, 0, 2), 0);
            due(x.step(0), 0);
            due(x.task(0, 0), 0);
        }
        due(x.fault(), NONE);
        due(x.waits(), 0);
        due(x.deepest(), NONE);
        for (int what = 0; what < 3; what++) due(x.status(what), 0);
        due(MendedProgram.NONE, -1);
    }

    private static void p2() {
        MendedProgram x = new MendedProgram();
        // the highest byte of each number comes first
        due(x.feed(0x72657374, 0x20313b72, 0x65737420, 0x323b2020, 0x7265743b), 20);
        due(x.function(0, 20), 3);
        due(x.told(14), 0);
        for (int i = 1; i <= 25; i++) due(x.feed(-1, 0, 0, 0, 0), 20 * i);
        due(x.feed(0, 0, 0, 0, 0), NONE);
        due(x.told(14), 500);
        refused(ARGUMENT, () -> x.function(0, 501));
        due(x.function(0, 500), -9);
        due(x.fault(), 0);
        due(x.feed(0, 0, 0, 0, 0), 20);
    }

    private static void p3() {
        MendedProgram x = new MendedProgram();
        due(function(x, 0, ""), 0);
        due(function(x, 11, "call 11;"), 1);
        due(x.fault(), NONE);
        due(function(x, 3, "  take   i  -  0007 ;put 9 . 4 9 ;  ret ; "), 3);
        due(function(x, 3, "takei5;"), -9);
        due(function(x, 3, "take i5;get j0.0 0;rest0;none;"), 4);
        due(function(x, 0, times(24, "ret;")), 24);
        due(function(x, 0, "call 0;ret;back;rest 99;skip 0;blur;clear;take d -99999;text zzzzzz;none;"
                + "get f 9.4 9;set z 0 9 -0;box 1 2;put 3.0 4;make 9 4 n 9;free 0 0;shape 9 a 0;keep 1 2;lift 3 4;"), 19);
        due(x.told(14), 0);
        // only the first n bytes are the CODE, and all of the TAPE goes
        lay(x, "ret;ret;ret;xxxx");
        due(x.function(1, 8), 2);
        due(x.told(14), 0);
        lay(x, "ret;");
        refused(ELEMENT, () -> x.function(12, 0));
        refused(ELEMENT, () -> x.function(-1, 99));
        refused(ARGUMENT, () -> x.function(0, 21));
        refused(ARGUMENT, () -> x.function(0, -1));
        due(x.told(14), 20);
        x.start(5, 0);
        refused(STATE, () -> x.function(0, 4));
        refused(ARGUMENT, () -> x.function(0, 21));
        refused(ELEMENT, () -> x.function(12, 21));
        due(x.told(14), 20);
        x.kill(5);
        due(x.function(0, 4), 1);

        // nothing behind the first n bytes is looked at
        String[] texts = {"rest 12;", "retx", "ret;", "ret  ;", "take i 5;", "text abc;"};
        int[] lengths = {6, 3, 3, 4, 7, 7};
        for (int i = 0; i < texts.length; i++) {
            MendedProgram y = new MendedProgram();
            lay(y, texts[i]);
            due(y.function(0, lengths[i]), -9);
            due(y.fault(), lengths[i]);
        }
        codeFault("call", 1, 4);
        codeFault("call ", 1, 5);
        codeFault("call 1", 1, 6);
        codeFault("call 1 ", 1, 7);
        codeFault("call 12;", 2, 5);
        codeFault("call 99999999999999999999;", 2, 5);
        codeFault("call 4294967296;", 2, 5);
        codeFault("call -1;", 1, 5);
        codeFault("call 1.0;", 1, 6);
        codeFault("call 1 ret;", 1, 7);
        codeFault("Call 1;", 1, 0);
        codeFault("calls 1;", 1, 0);
        codeFault(" cal 1;", 1, 1);
        codeFault(";", 1, 0);
        codeFault("ret;;", 1, 4);
        codeFault("ret}", 1, 3);
        codeFault("ret;}", 1, 4);
        codeFault("ret 1;", 1, 4);
        codeFault("rest 100;", 2, 5);
        codeFault("skip;", 1, 4);
        codeFault("take a 1;", 1, 5);
        codeFault("take n 1;", 1, 5);
        codeFault("take x 1;", 1, 5);
        codeFault("take ii 1;", 1, 5);
        codeFault("take i 100000;", 2, 7);
        codeFault("take i - 100000;", 2, 9);
        codeFault("take i --1;", 1, 8);
        codeFault("take i -;", 1, 8);
        codeFault("take i;", 1, 6);
        codeFault("take 1 1;", 1, 5);
        codeFault("text ;", 1, 5);
        codeFault("text abcdefg;", 1, 5);
        codeFault("text a1;", 1, 6);
        codeFault("get t 0 0;", 1, 4);
        codeFault("get i 10 0;", 2, 6);
        codeFault("get i 0.5 0;", 2, 8);
        codeFault("get i 0. 0", 1, 10);
        codeFault("get i 0 10;", 2, 8);
        codeFault("get i .0 0;", 1, 6);
        codeFault("get i 00;", 1, 8);
        codeFault("set n 0 0 0;", 1, 4);
        codeFault("set i 0 0;", 1, 9);
        codeFault("box 0 -1;", 1, 6);
        codeFault("put 0;", 1, 5);
        codeFault("make 0 5 i 0;", 2, 7);
        codeFault("make 0.0 i 0;", 1, 6);
        codeFault("make 0 0 e 0;", 1, 9);
        codeFault("make 0 0 i 10;", 2, 11);
        codeFault("free 10 0;", 2, 5);
        codeFault("free 0.0;", 1, 6);
        codeFault("shape 0.0 i 1;", 1, 7);
        codeFault("shape 0 i;", 1, 9);
        codeFault("keep 0;", 1, 6);
        codeFault("lift 0 5;", 2, 7);
        codeFault("jump 1;", 1, 0);
        codeFault("\u0000", 1, 0);
        codeFault("ret;\u0000", 1, 4);
        codeFault("ret\t;", 1, 3);
        codeFault("r\u00e9t;", 1, 0);
        codeFault(times(24, "ret;") + " ret;", 3, 97);
        codeFault(times(24, "ret;") + "rest 100;", 3, 96);
        codeFault(times(24, "ret;") + "xyz;", 1, 96);
        codeFault(times(24, "ret;") + "1", 1, 96);
    }

    private static void p4() {
        MendedProgram x = new MendedProgram();
        due(patch(x, " all  func 11 { ret ; } func 0{}begin{ret;}done {} undone{ ret; ret ;} "), 0);
        due(x.patchOf(0, 1), 1 << 11 | 1);
        due(x.patchOf(0, 2), 1);
        due(x.patchOf(0, 3), 4);
        due(patch(x, "func 0{}func 1{}func 2{}func 3{}func 4{}func 5{}func 6{}func 7{" + times(24, "ret;") + "}"), 1);
        due(x.patchOf(1, 3), 24);
        lay(x, "func 3{}func 3{}");
        due(x.patch(8), 2);
        due(x.told(14), 0);
        due(patch(x, "func 1{}done{}"), 3);
        due(patch(x, "func 1{}undone{}"), 4);
        due(patch(x, "func1{}begin{}undone{}"), 5);
        due(patch(x, "func 12{}"), -8);
        due(x.told(0), 6);
        due(patch(x, "func 5{}"), 6);
        // a TASK need not be IDLE
        x.start(0, 0);
        due(patch(x, "func 6{}"), 7);
        lay(x, "func 7{}");
        refused(ARGUMENT, () -> x.patch(21));
        refused(ARGUMENT, () -> x.patch(-1));
        refused(STATE, () -> x.patch(8));
        refused(STATE, () -> x.patch(0));
        due(x.told(14), 20);
        due(x.told(0), 8);

        patchFault("", 1, 0);
        patchFault("  ", 1, 2);
        patchFault("all", 1, 3);
        patchFault("all all func 1{}", 1, 4);
        patchFault("all begin{}", 1, 4);
        patchFault("begin{}", 1, 0);
        patchFault("allfunc 1{}", 1, 0);
        patchFault("ret;", 1, 0);
        patchFault("func", 1, 4);
        patchFault("func {}", 1, 5);
        patchFault("func 12{}", 2, 5);
        patchFault("func 1", 1, 6);
        patchFault("func 1 ret;", 1, 7);
        patchFault("func 1{", 1, 7);
        patchFault("func 1{ret}", 1, 10);
        patchFault("func 1{ret;", 1, 11);
        patchFault("func 1{ret; ", 1, 12);
        patchFault("func 1{;}", 1, 7);
        patchFault("func 1{}}", 1, 8);
        patchFault("func 1{}func 2{}func 1{}", 4, 21);
        patchFault("func 1{}func 01{}", 4, 13);
        patchFault("func 1{rest 100;}func 1{}", 2, 12);
        patchFault("func 1{} all", 1, 9);
        patchFault("func 1{} begin{} func 2{}", 1, 17);
        patchFault("func 1{} begin{} begin{}", 1, 17);
        patchFault("func 1{} done{} begin{}", 1, 16);
        patchFault("func 1{} undone{} done{}", 1, 18);
        patchFault("func 1{} undone{} undone{}", 1, 18);
        patchFault("func 1{} begin 1{}", 1, 15);
        patchFault("func 1{" + times(24, "ret;") + "ret;}", 3, 7 + 96);
        patchFault("func 1{} done{" + times(24, "ret;") + " ret;}", 3, 14 + 97);
        patchFault("func 1{} begin{" + times(24, "ret;") + "}done{" + times(25, "ret;") + "}", 3, 15 + 96 + 6 + 96);
        patchFault("func 0{}func 1{}func 2{}func 3{}func 4{}func 5{}func 6{}func 7{} func 7{}", 3, 65);
        patchFault("func 0{}func 1{}func 2{}func 3{}func 4{}func 5{}func 6{}func 7{} funk 7{}", 1, 65);
    }

    private static void p5() {
        MendedProgram x = new MendedProgram();
        due(x.fault(), NONE);
        function(x, 0, "ret; rat;");
        due(x.fault(), 5);
        lay(x, "ret;");
        refused(ELEMENT, () -> x.function(12, 4));
        due(x.fault(), 5);
        due(x.patch(4), -9);
        due(x.fault(), 0);
        function(x, 0, "ret;");
        due(x.fault(), NONE);
        patch(x, "func 1{} x");
        due(x.fault(), 9);
        patch(x, "func 1{}");
        due(x.fault(), NONE);
    }

    private static void p6() {
        MendedProgram x = new MendedProgram();
        for (int kind = 0; kind <= 10; kind++) {
            due(x.datum(0, kind, 9), 9);
            due(x.datumOf(0, 0), kind);
            due(x.datumOf(0, 1), 9);
        }
        due(x.datum(9, I, 0), 9);
        due(x.datum(1, Z, 3), 12);
        x.set(Z, 1, 2, 1);
        x.keep(1, 0, 0);
        x.keep(1, 4, 0);
        due(x.told(12), 18);
        due(x.datum(2, T, 2), 20);
        // in place of what it was: fresh places, no SHADOWS
        due(x.datum(1, Z, 4), 15);
        due(x.datumOf(1, 2), 0);
        due(x.cell(1, NONE, 2), 0);
        x.keep(1, 2, 0);
        due(x.datum(1, THING, 0), 11);
        due(x.datumOf(1, 0), THING);
        due(x.datumOf(1, 2), 0);
        due(x.datum(0, MISSING, 0), 2);
        due(x.datumOf(0, 0), MISSING);
        // numbers 0, all others missing
        x.datum(3, N, 1);
        x.datum(4, A, 1);
        x.datum(5, J, 1);
        due(x.same(3, 4), 1);
        due(x.same(3, 5), 0);
        refused(ELEMENT, () -> x.datum(10, 0, 0));
        refused(ELEMENT, () -> x.datum(-1, 99, 0));
        refused(ARGUMENT, () -> x.datum(0, -1, 0));
        refused(ARGUMENT, () -> x.datum(0, 13, 0));
        refused(ARGUMENT, () -> x.datum(0, I, -1));
        refused(ARGUMENT, () -> x.datum(0, I, 10));
        refused(ARGUMENT, () -> x.datum(0, THING, 1));
        refused(ARGUMENT, () -> x.datum(0, MISSING, 1));
        due(x.datumOf(0, 0), MISSING);
    }

    private static void p7() {
        MendedProgram x = with("take i 5;rest 5;", "");
        patch(x, "func 1{ret;}");
        due(x.start(0, 0), NONE);
        x.step(0);
        due(x.number(0), 5);
        refused(STATE, () -> x.start(0, 1));
        x.kill(0);
        due(x.number(0), 5);
        due(x.task(0, 2), I);
        due(x.start(0, 1), NONE);
        due(x.number(0), 0);
        due(x.task(0, 2), NONE);
        due(x.frame(0, 0, 0), 1);
        due(x.frame(0, 0, 1), NONE);
        x.kill(0);
        x.enable(0);
        due(x.start(0, 1), 0);
        due(x.frame(0, 0, 1), 0);
        due(x.start(5, 0), NONE);
        due(x.task(5, 0), 1);
        refused(ELEMENT, () -> x.start(6, 0));
        refused(ELEMENT, () -> x.start(-1, 0));
        refused(ELEMENT, () -> x.start(0, 12));
        refused(ELEMENT, () -> x.start(0, -1));
        // what is TURNING is called by TASKS that are TURNED alone: an IDLE one is
        MendedProgram y = with("", "rest 1;");
        patch(y, "func 1{ret;}");
        y.start(3, 1);
        due(y.enable(0), 1);
        due(y.start(2, 1), 0);
        y.reverse();
        due(y.told(3), 0);
        due(y.start(1, 1), NONE);
    }

    private static void p8() {
        MendedProgram x = with("call 1;back;", "blur;clear;rest 2;get i 0 0;", "ret;ret;");
        x.start(0, 0);
        due(x.step(0), 0);
        due(x.task(0, 0), 2);
        due(x.step(0), 0);
        due(x.frame(0, 0, 3), 1);
        x.step(0);
        due(x.frame(0, 0, 3), 0);
        x.step(0);
        due(x.task(0, 3), 2);
        due(x.frame(0, 0, 2), 2);
        due(x.step(0), 0);
        due(x.task(0, 3), 1);
        due(x.frame(0, 0, 2), 2);
        due(x.step(0), 0);
        due(x.task(0, 3), 0);
        due(x.frame(0, 0, 2), 3);
        due(x.step(0), 3);
        due(x.frame(0, 0, 2), 4);
        due(x.step(0), 0);
        due(x.task(0, 0), 1);
        due(x.frame(0, 0, 2), 1);
        due(x.step(0), 0);
        due(x.frame(0, 0, 2), 0);
        due(x.told(7), 0);
        x.start(1, 2);
        due(x.step(1), 0);
        due(x.told(6), 62);
        refused(STATE, () -> x.step(1));
        refused(ELEMENT, () -> x.step(6));
        refused(ELEMENT, () -> x.step(-1));
        // it is looked at whether it TURNS
        patch(x, "func 1{} done{}");
        x.kill(0);
        x.start(0, 1);
        due(x.enable(0), 1);
        for (int i = 0; i < 6; i++) {
            x.step(0);
            due(x.told(3), 0);
        }
        x.step(0);
        due(x.told(3), NONE);
        // DEEDS of data: VALUE and TRAP
        MendedProgram y = new MendedProgram();
        y.datum(0, I, 2);
        y.datum(1, T, 1);
        y.datum(2, THING, 0);
        y.datum(4, A, 2);
        due(deeds(y, "take b 300;"), 0);
        due(y.number(0), 44);
        due(deeds(y, "take b 128;"), 0);
        due(y.number(0), -128);
        deeds(y, "take c -1;");
        due(y.number(0), 65535);
        deeds(y, "take s 40000;");
        due(y.number(0), -25536);
        deeds(y, "take z -9;");
        due(y.number(0), 1);
        deeds(y, "take i -99999;");
        due(y.number(0), -99999);
        deeds(y, "take f 10;");
        due(y.number(0), 10);
        due(y.task(0, 2), F);
        deeds(y, "set i 0 1 10;get d 0 1;");
        due(y.number(0), 40);
        due(y.task(0, 2), D);
        due(deed(y, "get i 0 2"), 1);
        due(deed(y, "get s 0 0"), 2);
        due(deed(y, "get i 1 9"), 2);
        due(deed(y, "get i 2 0"), 2);
        due(deed(y, "get i 3 0"), 3);
        due(deed(y, "get i 0.1 0"), 3);
        due(deed(y, "set j 0 0 1"), 2);
        due(deed(y, "set j 0 2 1"), 1);
        due(deed(y, "box 2 0"), 2);
        due(deed(y, "box 3 0"), 3);
        due(deed(y, "box 0 2"), 1);
        // a TRAP leaves the VALUE as it is
        due(deeds(y, "text ab;get i 0 5;"), 1);
        due(y.number(0), 29);
        due(deeds(y, "text ab;box 3 5;"), 3);
        due(y.task(0, 2), 8);
        due(deeds(y, "text ab;put 0 5;"), 2);
        due(deeds(y, "take j 1;put 0 5;"), 1);
        due(deeds(y, "take j 1;put 0 0;"), 2);
        due(deeds(y, "take j 1;put 1 0;"), 2);
        due(deeds(y, "text ab;put 1 0;none;box 1 0;"), 0);
        due(y.number(0), 29);
        due(deeds(y, "none;put 4 0;"), 0);
        due(deeds(y, "none;put 0 0;"), 2);
        due(deeds(y, "none;put 2 0;"), 2);
        due(deeds(y, "none;put 3 0;"), 3);
        due(deed(y, "make 3 0 i 1"), 3);
        due(deed(y, "make 2 0 i 1"), 0);
        due(deed(y, "make 2 0 j 4"), 0);
        due(y.shadowOf(2, 0, 0), I);
        due(deed(y, "set i 2.0 0 9"), 0);
        due(deed(y, "keep 2 0"), 2);
        due(deed(y, "lift 2 1"), 3);
        due(deed(y, "lift 2 0"), 0);
        due(y.datumOf(2, 0), I);
        due(y.cell(2, NONE, 0), 9);
        due(deed(y, "free 2 0"), 3);
        due(deed(y, "keep 2 3"), 0);
        due(deed(y, "free 2 3"), 0);
        due(y.shadowOf(2, 3, 0), MISSING);
        due(y.shadowOf(2, 3, 1), 0);
        due(y.datumOf(2, 2), 0);
        due(deed(y, "shape 2 b 1"), 2);
        due(deed(y, "shape 2 d 2"), 0);
        due(y.cell(2, NONE, 0), 36);
        // skip: a missing VALUE, a number 0; not a TEXT, nor another number
        String skip = "skip 2;take i 7;take i 8;ret;";
        MendedProgram u = with("take z 1;skip 1;take z 0;ret;");
        u.start(0, 0);
        u.go(3);
        due(u.number(0), 0);
        u = with("none;put 0 0;box 0 0;");
        u.datum(0, T, 1);
        u.start(0, 0);
        u.go(3);
        due(u.task(0, 2), NONE);
        due(u.told(10), 0);
        for (String value : new String[] {"none", "take i 0", "take z 0", "take d 0"}) {
            MendedProgram v = with(value + ";skip 2;take i 7;");
            v.start(0, 0);
            v.go(2);
            due(v.frame(0, 0, 2), 3);
        }
        MendedProgram w = with("take i 0;" + skip, "text z;" + skip, "take f 1;" + skip, "skip 99;");
        for (int f = 0; f < 3; f++) {
            w.start(f, f);
            w.step(f);
            w.step(f);
            due(w.frame(f, 0, 2), f == 0 ? 4 : 2);
        }
        w.start(3, 3);
        w.step(3);
        due(w.frame(3, 0, 2), 1);
        w.step(3);
        due(w.task(3, 0), 0);
    }

    private static void p9() {
        MendedProgram x = with("get i 0 0;get i 0 0;rest 1;back;", "take i 1;set i 1 0 4;ret;", "get i 1 0;ret;");
        x.datum(1, I, 1);
        x.start(0, 0);
        x.start(3, 0);
        due(x.go(1), 2);
        due(x.go(2), 2);
        due(x.go(2), 0);
        due(x.go(1), 2);
        due(x.told(10), 6);
        due(x.told(7), 6);
        x.kill(0);
        x.kill(3);
        due(x.go(60), 0);
        due(x.told(7), 66);
        // TASKS one behind the other: what the first one does the second one finds
        x.start(2, 1);
        x.step(2);
        x.start(1, 2);
        x.start(4, 2);
        x.go(1);
        due(x.number(1), 0);
        due(x.number(4), 4);
        refused(ARGUMENT, () -> x.go(0));
        refused(ARGUMENT, () -> x.go(61));
        refused(ARGUMENT, () -> x.go(-1));
        // rest 0 costs its own TICK alone
        MendedProgram y = with("rest 0;rest 1;take i 1;");
        y.start(0, 0);
        y.go(1);
        due(y.frame(0, 0, 2), 1);
        y.go(2);
        due(y.frame(0, 0, 2), 2);
        y.go(1);
        due(y.number(0), 1);
        due(y.task(0, 6), 3);
        // who TURNS is looked at when the TICK ends, not before: TASK 1 calls by the old CODE in it
        MendedProgram z = with("ret;", "call 0;", "ret;");
        patch(z, "func 0{rest 9;}func 2{}");
        z.start(0, 2);
        z.start(1, 2);
        due(z.enable(0), 2);
        z.go(1);
        due(z.told(8), 1);
        // a TASK's VALUE and TRAP are its own
        MendedProgram v = with("take i 3;", "get i 0 0;");
        v.start(0, 0);
        v.start(1, 1);
        due(v.go(1), 1);
        due(v.task(0, 1), 0);
        due(v.task(1, 1), 3);
    }

    private static void p10() {
        MendedProgram x = with("rest 3;", "blur;rest 2;clear;rest 9;", "rest 9;");
        x.datum(0, I, 1);
        patch(x, "func 0{}begin{take i 4;put 0 0;}done{take i 5;put 0 0;get i 0 9;}undone{take i 6;put 0 0;}");
        x.start(0, 0);
        x.start(1, 1);
        x.start(2, 2);
        x.go(1);
        due(x.enable(0), 2);
        due(x.cell(0, NONE, 0), 4);
        due(x.told(1), 1);
        due(x.told(2), 0);
        due(x.told(3), 0);
        due(x.told(4), 1);
        due(x.told(5), 63 - 3);
        due(x.patchOf(0, 4), 1);
        refused(STATE, () -> x.enable(0));
        refused(ELEMENT, () -> x.enable(1));
        refused(ELEMENT, () -> x.enable(-1));
        patch(x, "func 0{}");
        refused(STATE, () -> x.enable(1));
        x.go(3);
        due(x.told(5), 63 - 3);
        x.go(1);
        due(x.told(8), 1);
        due(x.told(3), NONE);
        due(x.cell(0, NONE, 0), 5);
        due(x.told(11), 1);
        refused(STATE, () -> x.enable(0));
        due(x.enable(1), 0);
        due(x.told(2), 1);
        due(x.told(1), 2);
        due(x.patchOf(0, 4), 1);
        // with "all" those below are no longer stacked; they do no undone
        MendedProgram y = new MendedProgram();
        y.datum(0, I, 1);
        patch(y, "func 0{}undone{set i 0 0 9;}");
        patch(y, "func 1{}undone{set i 0 0 9;}");
        patch(y, "all func 2{}");
        due(y.enable(1), 0);
        due(y.enable(0), 0);
        y.start(0, 2);
        due(y.enable(2), 1);
        due(y.told(1), 3);
        due(y.entry(0), 0);
        y.step(0);
        due(y.told(1), 1);
        due(y.told(2), 2);
        due(y.entry(0), NONE);
        due(y.cell(0, NONE, 0), 0);
        due(y.enable(0), 0);
        due(y.patchOf(0, 4), 2);
        due(y.patchOf(0, 0), 1);
        // what a PATCH does: its VALUE missing at first, each DEED one behind the other
        MendedProgram z = new MendedProgram();
        z.datum(0, A, 9);
        patch(z, "func 0{}begin{skip 1;get i 0 0;call 0;back;rest 9;blur;clear;text ab;put 0 1;skip 1;put 0 2;"
                + "take i 0;skip 99;put 0 3;}done{put 0 1;take f 6;put 0 4;ret;put 0 5;}");
        due(z.enable(0), 0);
        due(z.told(11), 0);
        due(z.cell(0, NONE, 2), 29);
        due(z.cell(0, NONE, 1), 0);
        due(z.same(0, 0), 9);
        due(z.cell(0, NONE, 4), 6);
        due(z.cell(0, NONE, 5), 0);
        for (int t = 0; t < 6; t++) due(z.task(t, 6), 0);
        MendedProgram w = new MendedProgram();
        w.datum(0, A, 2);
        w.datum(1, I, 1);
        w.set(I, 1, 0, 5);
        patch(w, "func 0{}begin{put 0 0;skip 1;take i 6;take i 7;}done{put 0 1;}");
        w.move(1, 0, 1, 0);
        due(w.enable(0), 0);
        due(w.cell(0, NONE, 0), 0);
        due(w.cell(0, NONE, 1), 0);
        due(w.same(0, 0), 2);
    }

    private static void p11() {
        MendedProgram x = with("rest 3;", "ret;");
        x.datum(0, I, 1);
        patch(x, "func 0{rest 5;}undone{set i 0 0 7;}");
        patch(x, "func 1{}");
        refused(STATE, x::disable);
        due(x.enable(0), 0);
        due(x.enable(1), 0);
        due(x.disable(), 0);
        due(x.told(1), 1);
        due(x.told(2), 0);
        x.start(0, 0);
        x.start(4, 1);
        due(x.disable(), 1);
        due(x.told(3), 0);
        due(x.told(4), 0);
        due(x.told(5), 1);
        due(x.told(1), 1);
        due(x.cell(0, NONE, 0), 0);
        refused(STATE, x::disable);
        refused(STATE, () -> x.enable(1));
        // TURNED still: by the PATCH; turned: by the code below
        due(x.calls(0, 0), 0);
        due(x.calls(4, 0), NONE);
        x.go(6);
        due(x.told(3), 0);
        x.go(1);
        due(x.told(3), NONE);
        due(x.told(1), 0);
        due(x.cell(0, NONE, 0), 7);
        due(x.told(8), 4);
        refused(STATE, x::disable);
    }

    private static void p12() {
        MendedProgram x = with("rest 9;", "call 0;");
        x.datum(0, I, 1);
        patch(x, "func 0{rest 9;}done{set i 0 0 1;}undone{set i 0 0 2;}");
        refused(STATE, x::reverse);
        x.start(0, 0);
        x.start(1, 0);
        due(x.enable(0), 2);
        x.kill(1);
        due(x.told(5), 62);
        // all that are TURNED can turn back at once: over, off, its undone done, though it was never on
        due(x.reverse(), 0);
        due(x.told(3), NONE);
        due(x.told(1), 0);
        due(x.told(8), 1);
        due(x.cell(0, NONE, 0), 2);
        refused(STATE, x::reverse);
        // a TASK that has called by the PATCH has to turn back
        due(x.enable(0), 1);
        x.start(1, 1);
        x.step(1);
        due(x.frame(1, 0, 1), 0);
        due(x.reverse(), 1);
        due(x.told(4), 0);
        due(x.told(5), 2);
        due(x.stuck(0), NONE);
        due(x.stuck(1), 0);
        due(x.calls(1, 0), 0);
        due(x.calls(0, 0), NONE);
        // and on again: TASK 0 has to turn still
        due(x.reverse(), 1);
        due(x.told(4), 1);
        due(x.told(5), 62);
        due(x.reverse(), 1);
        x.kill(1);
        due(x.told(1), 0);
        due(x.told(8), 2);
        // from off to on again: its done is done again
        x.kill(0);
        due(x.enable(0), 0);
        due(x.cell(0, NONE, 0), 1);
        x.start(0, 0);
        due(x.disable(), 1);
        x.set(I, 0, 0, 8);
        due(x.reverse(), 0);
        due(x.cell(0, NONE, 0), 1);
        due(x.told(1), 1);
        due(x.told(8), 4);
    }

    private static void p13() {
        MendedProgram x = with("rest 9;", "blur;rest 9;");
        x.datum(0, I, 1);
        patch(x, "func 0{rest 7;}done{set i 0 0 1;}undone{set i 0 0 2;}");
        refused(STATE, x::force);
        x.start(0, 0);
        x.start(3, 1);
        x.start(5, 1);
        x.go(1);
        due(x.enable(0), 3);
        due(x.force(), 1 | 8 | 32);
        due(x.told(3), NONE);
        due(x.told(9), 3);
        due(x.cell(0, NONE, 0), 1);
        due(x.task(0, 5), 1);
        due(x.task(1, 5), 0);
        due(x.frame(0, 0, 1), NONE);
        refused(STATE, x::force);
        x.kill(3);
        due(x.disable(), 2);
        due(x.force(), 1 | 32);
        due(x.told(1), 0);
        due(x.told(9), 5);
        due(x.task(0, 5), 2);
        due(x.told(8), 2);
        due(x.cell(0, NONE, 0), 2);
        due(x.told(5), 0);
        x.kill(0);
        x.kill(5);
        x.start(1, 0);
        x.enable(0);
        due(x.force(), 2);
    }

    private static void p14() {
        MendedProgram x = with("take i 3;rest 9;", "call 0;", "get i 0 0;call 1;");
        x.start(0, 2);
        x.go(4);
        due(x.task(0, 3), 0);
        x.go(1);
        due(x.task(0, 3), 9);
        due(x.kill(0), 3);
        due(x.task(0, 0), 0);
        due(x.task(0, 3), 0);
        due(x.number(0), 3);
        due(x.told(6), 63);
        due(x.kill(0), 0);
        refused(ELEMENT, () -> x.kill(6));
        refused(ELEMENT, () -> x.kill(-1));
        // it is looked at whether it TURNS
        patch(x, "func 0{}");
        x.start(0, 0);
        x.start(1, 0);
        due(x.enable(0), 2);
        x.kill(0);
        due(x.told(5), 63 - 2);
        x.kill(1);
        due(x.told(3), NONE);
        due(x.told(8), 1);
        // a FRAME that is begun anew is at its first DEED, and not blurred
        MendedProgram y = with("blur;");
        y.start(0, 0);
        y.step(0);
        y.kill(0);
        y.start(0, 0);
        due(y.frame(0, 0, 2), 0);
        due(y.frame(0, 0, 3), 0);
    }

    private static void p15() {
        MendedProgram x = with("get i 9 0;rest 9;", "rest 9;");
        x.datum(0, I, 4);
        x.datum(1, T, 2);
        x.keep(0, 0, 0);
        x.keep(0, 3, 0);
        x.keep(1, 1, 0);
        patch(x, "func 0{}begin{free 9 0;free 9 0;}");
        patch(x, "func 2{}");
        due(x.told(0), 2);
        due(x.told(1), 0);
        due(x.told(2), NONE);
        due(x.told(12), 4 + 2 + 4 + 4 + 2);
        due(x.told(13), 3);
        x.enable(1);
        due(x.told(2), 1);
        due(x.told(3), NONE);
        due(x.told(4), NONE);
        due(x.told(5), 0);
        due(x.told(8), 1);
        x.start(2, 0);
        x.start(4, 1);
        due(x.told(6), 63 - 4 - 16);
        x.enable(0);
        due(x.told(1), 2);
        due(x.told(2), 0);
        due(x.told(3), 0);
        due(x.told(4), 1);
        due(x.told(5), 63 - 4);
        due(x.told(11), 2);
        x.go(3);
        due(x.told(7), 3);
        due(x.told(10), 1);
        x.force();
        due(x.told(9), 1);
        x.disable();
        due(x.told(4), 0);
        due(x.told(5), 4);
        x.feed(0, 0, 0, 0, 0);
        due(x.told(14), 20);
        refused(ARGUMENT, () -> x.told(15));
        refused(ARGUMENT, () -> x.told(-1));
    }

    private static void p16() {
        MendedProgram x = with("get i 9 0;take d 9;rest 5;text abc;none;call 1;", "");
        x.start(0, 0);
        due(x.task(0, 0), 1);
        x.step(0);
        due(x.task(0, 1), 3);
        due(x.task(0, 2), NONE);
        x.step(0);
        due(x.task(0, 1), 0);
        due(x.task(0, 2), D);
        x.step(0);
        due(x.task(0, 3), 5);
        due(x.task(0, 6), 3);
        x.go(5);
        due(x.task(0, 3), 0);
        due(x.task(0, 6), 3);
        x.step(0);
        due(x.task(0, 2), 8);
        x.step(0);
        due(x.task(0, 2), NONE);
        x.step(0);
        due(x.task(0, 0), 2);
        x.step(0);
        x.step(0);
        due(x.task(0, 0), 0);
        due(x.task(0, 6), 8);
        // of its latest DEED: also when it is begun anew
        x.start(0, 0);
        x.step(0);
        x.kill(0);
        due(x.task(0, 1), 3);
        x.start(0, 0);
        due(x.task(0, 1), 3);
        due(x.task(0, 6), 9);
        x.kill(0);
        patch(x, "func 0{}");
        x.start(1, 0);
        x.enable(0);
        due(x.task(0, 4), 1);
        due(x.task(1, 4), 0);
        x.force();
        due(x.task(0, 4), 0);
        due(x.task(1, 4), 0);
        due(x.task(1, 5), 1);
        x.disable();
        due(x.task(0, 4), 0);
        due(x.task(1, 4), 1);
        refused(ELEMENT, () -> x.task(6, 0));
        refused(ELEMENT, () -> x.task(-1, 9));
        refused(ARGUMENT, () -> x.task(0, 7));
        refused(ARGUMENT, () -> x.task(0, -1));
    }

    private static void p17() {
        MendedProgram x = new MendedProgram();
        String[] deeds = {"take z 5", "take b -1", "take c 65537", "take s -32769", "take i 99999", "take j -7",
            "take f 3", "take d -3", "text a", "text ba", "text zzzzzz", "none"};
        long[] numbers = {1, -1, 1, 32767, 99999, -7, 3, -3, 1, 55, 387420488L, 0};
        int[] kinds = {Z, B, C, S, I, J, F, D, 8, 8, 8, NONE};
        for (int i = 0; i < deeds.length; i++) {
            deed(x, deeds[i]);
            due(x.number(0), numbers[i]);
            due(x.task(0, 2), kinds[i]);
        }
        refused(ELEMENT, () -> x.number(6));
        refused(ELEMENT, () -> x.number(-1));
    }

    private static void p18() {
        MendedProgram x = with("blur;call 1;ret;", "call 2;", "ret;");
        patch(x, "func 1{none;call 2;}");
        x.enable(0);
        x.start(0, 0);
        x.go(4);
        due(x.task(0, 0), 3);
        due(x.frame(0, 0, 0), 2);
        due(x.frame(0, 0, 1), NONE);
        due(x.frame(0, 0, 2), 0);
        due(x.frame(0, 0, 3), 0);
        due(x.frame(0, 1, 0), 1);
        due(x.frame(0, 1, 1), 0);
        due(x.frame(0, 1, 2), 2);
        due(x.frame(0, 2, 0), 0);
        due(x.frame(0, 2, 1), NONE);
        due(x.frame(0, 2, 2), 2);
        due(x.frame(0, 2, 3), 1);
        refused(ELEMENT, () -> x.frame(0, 3, 0));
        refused(ELEMENT, () -> x.frame(0, -1, 0));
        refused(ELEMENT, () -> x.frame(1, 0, 0));
        refused(ELEMENT, () -> x.frame(6, 0, 0));
        refused(ELEMENT, () -> x.frame(-1, 0, 9));
        refused(ARGUMENT, () -> x.frame(0, 0, 4));
        refused(ARGUMENT, () -> x.frame(0, 2, -1));
        // ten FRAMES at most: the eleventh call is a TRAP, and the DEED behind it is next
        MendedProgram y = with("call 0;");
        y.start(0, 0);
        y.go(9);
        due(y.task(0, 0), 10);
        due(y.step(0), 3);
        due(y.task(0, 0), 10);
        due(y.frame(0, 0, 2), 1);
        due(y.frame(0, 9, 2), 1);
    }

    private static void p19() {
        MendedProgram x = with("call 1;", "call 2;", "blur;clear;rest 9;");
        patch(x, "func 0{}");
        due(x.stuck(0), NONE);
        x.start(0, 0);
        x.start(1, 2);
        x.go(2);
        x.enable(0);
        due(x.stuck(0), 2);
        due(x.stuck(1), NONE);
        due(x.stuck(2), NONE);
        x.step(0);
        due(x.stuck(0), 0);
        x.step(0);
        due(x.stuck(0), 2);
        x.force();
        due(x.stuck(0), NONE);
        x.disable();
        due(x.stuck(0), 2);
        due(x.stuck(1), NONE);
        x.reverse();
        due(x.stuck(0), NONE);
        refused(ELEMENT, () -> x.stuck(6));
        refused(ELEMENT, () -> x.stuck(-1));
    }

    private static void p20() {
        MendedProgram x = with("rest 9;");
        patch(x, "func 0{}func 1{}");
        patch(x, "func 1{}func 2{}");
        x.start(0, 0);
        x.start(1, 0);
        x.enable(1);
        x.enable(0);
        due(x.calls(0, 0), NONE);
        due(x.calls(0, 1), 1);
        due(x.calls(0, 2), 1);
        due(x.calls(2, 0), 0);
        due(x.calls(2, 1), 0);
        due(x.calls(2, 2), 1);
        due(x.calls(2, 3), NONE);
        x.force();
        due(x.calls(0, 0), 0);
        x.disable();
        due(x.calls(0, 1), 0);
        due(x.calls(2, 1), 1);
        refused(ELEMENT, () -> x.calls(6, 0));
        refused(ELEMENT, () -> x.calls(-1, 0));
        refused(ELEMENT, () -> x.calls(0, 12));
        refused(ELEMENT, () -> x.calls(0, -1));
    }

    private static void p21() {
        MendedProgram x = with("rest 9;");
        patch(x, "func 0{}func 1{}");
        patch(x, "func 1{}func 2{}");
        due(x.entry(1), NONE);
        x.enable(1);
        due(x.entry(1), 1);
        x.start(0, 0);
        x.enable(0);
        due(x.entry(0), 0);
        due(x.entry(1), 0);
        due(x.entry(2), 1);
        due(x.entry(11), NONE);
        x.force();
        x.disable();
        due(x.entry(1), 0);
        x.force();
        due(x.entry(0), NONE);
        due(x.entry(1), 1);
        refused(ELEMENT, () -> x.entry(12));
        refused(ELEMENT, () -> x.entry(-1));
    }

    private static void p22() {
        MendedProgram x = new MendedProgram();
        patch(x, "func 3{ret;ret;}func 5{ret;}begin{ret;}done{ret;}undone{ret;}");
        patch(x, "all func 0{}");
        patch(x, "func 0{}");
        int[] first = {NONE, 40, 0, 6, 0};
        int[] second = {NONE, 1, 1, 0, 0};
        for (int what = 0; what < 5; what++) {
            due(x.patchOf(0, what), first[what]);
            due(x.patchOf(1, what), second[what]);
        }
        x.enable(2);
        x.enable(0);
        due(x.patchOf(2, 0), 0);
        due(x.patchOf(0, 0), 1);
        x.disable();
        due(x.patchOf(0, 0), NONE);
        x.enable(0);
        due(x.patchOf(0, 4), 2);
        x.enable(1);
        due(x.patchOf(1, 0), 0);
        due(x.patchOf(2, 0), NONE);
        due(patch(x, "func 0{ret;ret;}func 11{ret;}"), 3);
        due(x.patchOf(3, 1), 1 << 11 | 1);
        due(x.patchOf(3, 3), 3);
        refused(ELEMENT, () -> x.patchOf(4, 0));
        refused(ELEMENT, () -> x.patchOf(-1, 0));
        refused(ELEMENT, () -> x.patchOf(8, 9));
        refused(ARGUMENT, () -> x.patchOf(0, 5));
        refused(ARGUMENT, () -> x.patchOf(0, -1));
    }

    private static void p23() {
        MendedProgram x = new MendedProgram();
        x.datum(0, N, 7);
        x.keep(0, 1, 0);
        x.keep(0, 4, 0);
        due(x.datumOf(0, 0), N);
        due(x.datumOf(0, 1), 7);
        due(x.datumOf(0, 2), 18);
        x.datum(1, THING, 0);
        deed(x, "make 1 3 i 9");
        due(x.datumOf(1, 0), THING);
        due(x.datumOf(1, 1), 0);
        due(x.datumOf(1, 2), 8);
        due(x.datumOf(9, 0), MISSING);
        refused(ELEMENT, () -> x.datumOf(10, 0));
        refused(ELEMENT, () -> x.datumOf(-1, 3));
        refused(ARGUMENT, () -> x.datumOf(0, 3));
        refused(ARGUMENT, () -> x.datumOf(0, -1));
    }

    private static void p24() {
        MendedProgram x = new MendedProgram();
        x.datum(0, S, 7);
        x.keep(0, 1, 0);
        due(x.shadowOf(0, 1, 0), S);
        due(x.shadowOf(0, 1, 1), 7);
        due(x.shadowOf(0, 0, 0), MISSING);
        due(x.shadowOf(0, 0, 1), 0);
        due(x.shadowOf(9, 4, 0), MISSING);
        refused(ELEMENT, () -> x.shadowOf(10, 0, 0));
        refused(ELEMENT, () -> x.shadowOf(-1, 0, 0));
        refused(ELEMENT, () -> x.shadowOf(0, 5, 0));
        refused(ELEMENT, () -> x.shadowOf(0, NONE, 9));
        refused(ARGUMENT, () -> x.shadowOf(0, 0, 2));
        refused(ARGUMENT, () -> x.shadowOf(0, 0, -1));
    }

    private static void p25() {
        MendedProgram x = new MendedProgram();
        x.datum(0, F, 2);
        x.set(F, 0, 1, -5);
        x.keep(0, 4, 0);
        x.set(I, 0, 1, 5);
        due(x.cell(0, NONE, 1), 20);
        due(x.cell(0, 4, 1), -5);
        due(x.cell(0, 4, 2), 0);
        due(x.cell(0, 4, -1), 0);
        due(x.cell(0, 3, 0), 0);
        due(x.cell(1, NONE, 0), 0);
        x.datum(2, T, 1);
        due(x.cell(2, NONE, 0), 0);
        deeds(x, "text ab;put 2 0;");
        due(x.cell(2, NONE, 0), 29);
        due(x.cell(2, NONE, Integer.MAX_VALUE), 0);
        due(x.cell(2, NONE, Integer.MIN_VALUE), 0);
        x.datum(3, THING, 0);
        due(x.cell(3, NONE, 0), 0);
        // a ROW that had more places shows none of them
        x.datum(4, I, 3);
        x.set(I, 4, 2, 9);
        x.shape(4, I, 2);
        due(x.cell(4, NONE, 2), 0);
        x.shape(4, I, 3);
        due(x.cell(4, NONE, 2), 0);
        refused(ELEMENT, () -> x.cell(10, 0, 0));
        refused(ELEMENT, () -> x.cell(-1, 0, 0));
        refused(ELEMENT, () -> x.cell(0, 5, 0));
        refused(ELEMENT, () -> x.cell(0, -2, 0));
    }

    /** By the document's list: what WIDENS to what. */
    private static final String[] WIDENS = {"z", "bsijfd", "cijfd", "sijfd", "ijfd", "jfd", "fd", "d"};

    private static void p26() {
        String letters = "zbcsijfd";
        for (int of = 0; of < 8; of++) {
            MendedProgram x = new MendedProgram();
            x.datum(0, of, 1);
            x.set(of, 0, 0, 1);
            for (int by = 0; by < 8; by++) {
                boolean widens = WIDENS[of].indexOf(letters.charAt(by)) >= 0;
                long number = of < F && by >= F ? 4 : 1;
                due(x.get(by, 0, 0), widens ? number : -999999998L);
                due(x.get(by, 0, 1), -999999999L);
                due(x.get(by, 0, -1), -999999999L);
            }
        }
        MendedProgram x = new MendedProgram();
        for (int kind = T; kind <= THING; kind++) {
            x.datum(0, kind, kind == THING ? 0 : 1);
            due(x.get(I, 0, 0), -999999998L);
            due(x.get(I, 0, 9), -999999998L);
        }
        due(x.get(Z, 1, 9), -999999997L);
        refused(ELEMENT, () -> x.get(8, 10, 0));
        refused(ELEMENT, () -> x.get(0, -1, 0));
        refused(ARGUMENT, () -> x.get(8, 0, 0));
        refused(ARGUMENT, () -> x.get(-1, 0, 0));
    }

    private static void p27() {
        String letters = "zbcsijfd";
        int v = -90001;
        long[] cut = {1, (byte) v, (char) v, (short) v, v, v, v, v};
        for (int by = 0; by < 8; by++) {
            for (int of = 0; of < 8; of++) {
                MendedProgram x = new MendedProgram();
                x.datum(0, of, 1);
                boolean widens = WIDENS[by].indexOf(letters.charAt(of)) >= 0;
                due(x.set(by, 0, 0, v), widens ? 0 : 2);
                due(x.cell(0, NONE, 0), !widens ? 0 : by < F && of >= F ? 4 * cut[by] : cut[by]);
                due(x.set(by, 0, 1, v), 1);
                due(x.set(by, 0, -1, v), 1);
            }
        }
        MendedProgram x = new MendedProgram();
        for (int kind = T; kind <= THING; kind++) {
            x.datum(0, kind, kind == THING ? 0 : 1);
            due(x.set(I, 0, 0, 1), 2);
            due(x.set(I, 0, 9, 1), 2);
        }
        due(x.set(Z, 1, 9, 1), 3);
        x.datum(0, J, 1);
        due(x.set(J, 0, 0, 99999), 0);
        due(x.set(J, 0, 0, -99999), 0);
        due(x.cell(0, NONE, 0), -99999);
        refused(ELEMENT, () -> x.set(8, 10, 0, 0));
        refused(ELEMENT, () -> x.set(0, -1, 0, 0));
        refused(ARGUMENT, () -> x.set(8, 0, 0, 0));
        refused(ARGUMENT, () -> x.set(-1, 0, 0, 0));
        refused(ARGUMENT, () -> x.set(0, 0, 0, 100000));
        refused(ARGUMENT, () -> x.set(0, 0, 0, -100000));
    }

    private static void p28() {
        String letters = "zbcsijfd";
        for (int from = 0; from < 8; from++) {
            for (int to = 0; to <= 10; to++) {
                MendedProgram x = new MendedProgram();
                x.datum(0, from, 1);
                x.set(from, 0, 0, 1);
                x.datum(1, to, 2);
                boolean can = to < 8 ? WIDENS[from].indexOf(letters.charAt(to)) >= 0 : to == A || to == N && from == I;
                due(x.move(0, 0, 1, 1), can ? 10 : 12);
                due(x.cell(1, NONE, 1), !can ? 0 : from < F && (to == F || to == D) ? 4 : 1);
                due(x.cell(1, NONE, 0), 0);
                due(x.move(0, 0, 1, 2), 11);
                due(x.move(0, 1, 1, 0), 1);
                due(x.move(0, -1, 1, 0), 1);
            }
        }
        MendedProgram x = new MendedProgram();
        x.datum(1, THING, 0);
        x.datum(2, T, 2);
        deeds(x, "text q;put 2 0;");
        x.datum(3, I, 2);
        x.datum(4, N, 2);
        x.datum(5, A, 2);
        due(x.move(0, 0, 2, 0), 3);
        due(x.move(1, 0, 2, 0), 2);
        due(x.move(2, 0, 0, 0), 13);
        due(x.move(2, 0, 1, 9), 12);
        // a TEXT or a missing VALUE to numbers: ahead of the place
        due(x.move(2, 0, 3, 9), 12);
        due(x.move(2, 1, 3, 9), 12);
        due(x.move(2, 0, 4, 9), 11);
        due(x.move(2, 0, 4, 1), 12);
        due(x.move(2, 1, 4, 1), 10);
        due(x.move(2, 0, 5, 1), 10);
        due(x.cell(5, NONE, 1), 17);
        due(x.move(5, 1, 2, 1), 10);
        due(x.move(2, 0, 2, 1), 10);
        due(x.move(5, 0, 5, 1), 10);
        due(x.cell(5, NONE, 1), 0);
        // of n: KIND i
        x.set(I, 3, 0, 8);
        due(x.move(3, 0, 4, 0), 10);
        x.datum(6, D, 1);
        due(x.move(4, 0, 6, 0), 10);
        due(x.cell(6, NONE, 0), 32);
        x.datum(7, S, 1);
        due(x.move(4, 0, 7, 0), 12);
        refused(ELEMENT, () -> x.move(10, 0, 0, 0));
        refused(ELEMENT, () -> x.move(-1, 0, 0, 0));
        refused(ELEMENT, () -> x.move(0, 0, 10, 0));
        refused(ELEMENT, () -> x.move(0, 0, -1, 0));
    }

    private static void p29() {
        MendedProgram x = new MendedProgram();
        due(x.shape(0, I, 1), 3);
        x.datum(0, THING, 0);
        due(x.shape(0, I, 0), 2);
        x.datum(0, B, 3);
        x.set(B, 0, 0, -3);
        x.set(B, 0, 2, 9);
        x.keep(0, 2, 0);
        due(x.shape(0, C, 3), 2);
        due(x.datumOf(0, 0), B);
        due(x.cell(0, NONE, 2), 9);
        due(x.shape(0, F, 5), 0);
        due(x.datumOf(0, 0), F);
        due(x.datumOf(0, 1), 5);
        due(x.cell(0, NONE, 0), -12);
        due(x.cell(0, NONE, 2), 36);
        due(x.cell(0, NONE, 4), 0);
        due(x.get(F, 0, 4), 0);
        // its SHADOWS stay
        due(x.datumOf(0, 2), 4);
        due(x.cell(0, 2, 2), 9);
        due(x.shape(0, A, 2), 0);
        due(x.datumOf(0, 1), 2);
        due(x.shape(0, A, 3), 0);
        // the third place is missing now: no ROW of numbers can be made of it, but of the two ahead of it
        due(x.shape(0, D, 3), 2);
        due(x.datumOf(0, 0), A);
        due(x.shape(0, F, 2), 0);
        due(x.cell(0, NONE, 0), -12);
        // nothing in common: any KIND
        due(x.shape(0, F, 0), 0);
        due(x.shape(0, T, 2), 0);
        x.datum(1, N, 2);
        due(x.same(0, 1), 2);
        due(x.shape(0, N, 2), 0);
        due(x.shape(0, I, 2), 2);
        x.datum(2, I, 1);
        due(x.shape(2, N, 2), 0);
        due(x.shape(2, J, 1), 0);
        due(x.shape(2, N, 1), 2);
        due(x.shape(2, J, 9), 0);
        due(x.datumOf(2, 1), 9);
        due(x.shape(2, T, 1), 2);
        refused(ELEMENT, () -> x.shape(10, 0, 0));
        refused(ELEMENT, () -> x.shape(-1, 11, 0));
        refused(ARGUMENT, () -> x.shape(0, 11, 0));
        refused(ARGUMENT, () -> x.shape(0, -1, 0));
        refused(ARGUMENT, () -> x.shape(0, 0, 10));
        refused(ARGUMENT, () -> x.shape(0, 0, -1));
    }

    private static void p30() {
        MendedProgram x = new MendedProgram();
        due(x.keep(0, 0, 0), 3);
        due(x.keep(0, 0, 1), 3);
        x.datum(0, THING, 0);
        due(x.keep(0, 0, 0), 2);
        due(x.keep(0, 0, 1), 3);
        x.datum(0, I, 2);
        x.set(I, 0, 1, 6);
        due(x.keep(0, 1, 0), 0);
        x.set(I, 0, 1, 7);
        due(x.cell(0, 1, 1), 6);
        // whatever it was
        x.shape(0, J, 3);
        due(x.keep(0, 1, 0), 0);
        due(x.shadowOf(0, 1, 0), J);
        due(x.shadowOf(0, 1, 1), 3);
        due(x.cell(0, 1, 1), 7);
        x.keep(0, 4, 0);
        x.shape(0, D, 1);
        due(x.keep(0, 1, 1), 0);
        due(x.datumOf(0, 0), J);
        due(x.datumOf(0, 1), 3);
        due(x.cell(0, NONE, 1), 7);
        due(x.datumOf(0, 2), 16);
        due(x.keep(0, 1, 1), 3);
        due(x.shadowOf(0, 1, 1), 0);
        due(x.told(12), 6);
        x.set(J, 0, 1, 5);
        due(x.cell(0, 4, 1), 7);
        refused(ELEMENT, () -> x.keep(10, 0, 0));
        refused(ELEMENT, () -> x.keep(-1, 0, 0));
        refused(ELEMENT, () -> x.keep(0, 5, 9));
        refused(ELEMENT, () -> x.keep(0, -1, 0));
        refused(ARGUMENT, () -> x.keep(0, 0, 2));
        refused(ARGUMENT, () -> x.keep(0, 0, -1));
    }

    private static void p31() {
        MendedProgram x = new MendedProgram();
        due(x.shapes(0), 0);
        x.datum(0, THING, 0);
        due(x.shapes(0), 0);
        int a = 1 << A;
        int[] shapes = {1 | a, 0b11111010 | a, 0b11110100 | a, 0b11111000 | a, 0b11110000 | a | 1 << N,
            0b11100000 | a, 0b11000000 | a, 0b10000000 | a, 1 << T | 1 << N | a, 1 << T | 1 << N | a,
            1 << T | 1 << N | a};
        for (int kind = 0; kind <= 10; kind++) {
            x.datum(0, kind, 2);
            due(x.shapes(0), shapes[kind]);
            due(x.datumOf(0, 0), kind);
            x.datum(0, kind, 0);
            due(x.shapes(0), 2047);
        }
        x.datum(0, A, 2);
        x.datum(1, B, 1);
        x.move(1, 0, 0, 0);
        due(x.shapes(0), a);
        x.datum(1, C, 1);
        x.move(1, 0, 0, 1);
        due(x.shapes(0), 0b11110000 | a);
        x.datum(2, N, 1);
        x.datum(3, I, 1);
        x.move(3, 0, 2, 0);
        due(x.shapes(2), 0b11110000 | 1 << N | a);
        refused(ELEMENT, () -> x.shapes(10));
        refused(ELEMENT, () -> x.shapes(-1));
    }

    private static void p32() {
        MendedProgram x = new MendedProgram();
        due(x.same(0, 0), NONE);
        x.datum(0, THING, 0);
        x.datum(1, I, 3);
        due(x.same(0, 1), NONE);
        due(x.same(1, 0), NONE);
        due(x.same(1, 1), 3);
        x.datum(2, D, 2);
        due(x.same(1, 2), 2);
        due(x.same(2, 1), 2);
        x.set(I, 1, 0, 3);
        due(x.same(1, 2), 1);
        x.set(D, 2, 0, 3);
        due(x.same(1, 2), 1);
        x.set(D, 2, 0, 12);
        due(x.same(1, 2), 2);
        x.datum(3, Z, 1);
        x.set(Z, 3, 0, 1);
        x.set(I, 1, 0, 1);
        due(x.same(1, 3), 1);
        // a TEXT is no number, missing is not 0
        x.datum(4, T, 2);
        x.datum(5, A, 2);
        due(x.same(4, 5), 2);
        deeds(x, "text a;put 4 0;");
        due(x.same(4, 5), 1);
        due(x.same(4, 3), 0);
        x.move(4, 0, 5, 0);
        due(x.same(4, 5), 2);
        x.move(3, 0, 5, 0);
        due(x.same(4, 5), 1);
        x.datum(6, I, 2);
        due(x.same(5, 6), 0);
        x.datum(7, I, 0);
        due(x.same(7, 6), 0);
        refused(ELEMENT, () -> x.same(10, 0));
        refused(ELEMENT, () -> x.same(-1, 0));
        refused(ELEMENT, () -> x.same(0, 10));
        refused(ELEMENT, () -> x.same(0, -1));
    }

    private static void p33() {
        MendedProgram x = with("rest 58;", "rest 57;", "get i 0 0;skip 2;set i 0 0 0;set i 1 0 5;ret;", "back;", "rest 59;");
        x.datum(0, I, 1);
        x.datum(1, I, 1);
        patch(x, "func 0{}func 1{}func 2{}func 3{}func 4{}done{set i 1 0 6;get i 9 0;}");
        due(x.waits(), 0);
        x.start(0, 0);
        x.enable(0);
        due(x.waits(), 60);
        x.start(1, 0);
        due(x.waits(), 60);
        x.kill(1);
        due(x.waits(), 60);
        x.kill(0);
        x.disable();
        due(x.waits(), 0);
        x.start(0, 4);
        x.enable(0);
        due(x.waits(), NONE);
        due(x.go(60), 0);
        due(x.told(3), 0);
        due(x.waits(), 1);
        x.go(1);
        due(x.told(3), NONE);
        x.disable();
        // what is tried out stays as it was: data, TICKS, TRAPS, VALUES
        x.set(I, 0, 0, 1);
        x.set(I, 1, 0, 0);
        int ticks = x.told(7);
        int traps = x.told(11);
        x.start(2, 2);
        x.enable(0);
        due(x.waits(), 5);
        due(x.waits(), 5);
        due(x.cell(0, NONE, 0), 1);
        due(x.cell(1, NONE, 0), 0);
        due(x.told(7), ticks);
        due(x.told(11), traps);
        due(x.number(2), 0);
        due(x.task(2, 0), 1);
        due(x.frame(2, 0, 2), 0);
        due(x.told(5), 63 - 4);
        due(x.told(3), 0);
        x.go(4);
        due(x.told(3), 0);
        x.go(1);
        due(x.told(3), NONE);
        x.disable();
        x.start(2, 3);
        x.enable(0);
        due(x.waits(), NONE);
        // from where each TASK is: its VALUE, what it rests still, whether it is blurred, what is stacked below
        MendedProgram y = with("take i 1;skip 1;ret;rest 9;", "blur;rest 4;clear;ret;", "call 4;", "", "rest 1;");
        patch(y, "func 4{rest 6;}");
        patch(y, "func 0{}");
        patch(y, "func 2{}");
        y.start(0, 0);
        y.step(0);
        due(y.enable(1), 1);
        due(y.waits(), 2);
        y.reverse();
        due(y.told(3), NONE);
        y.kill(0);
        y.start(1, 1);
        y.go(3);
        due(y.enable(1), 1);
        due(y.waits(), 4);
        y.kill(1);
        due(y.enable(0), 0);
        y.start(3, 2);
        due(y.enable(2), 1);
        due(y.waits(), 10);
        y.go(9);
        due(y.told(3), 2);
        y.go(1);
        due(y.told(3), NONE);
    }

    private static void p34() {
        MendedProgram x = with("rest 9;", "call 0;");
        due(x.deepest(), NONE);
        x.start(0, 0);
        due(x.deepest(), 0);
        x.kill(0);
        x.start(3, 0);
        due(x.deepest(), 3);
        x.start(1, 1);
        due(x.deepest(), 1);
        x.start(5, 1);
        x.go(1);
        due(x.deepest(), 1);
        x.kill(1);
        due(x.deepest(), 5);
        x.kill(5);
        x.kill(3);
        due(x.deepest(), NONE);
    }

    private static void p35() {
        MendedProgram x = new MendedProgram();
        refused(ELEMENT, () -> x.task(6, 9));
        due(x.status(0), 1);
        due(x.status(1), 0);
        refused(ARGUMENT, () -> x.task(0, 9));
        refused(ARGUMENT, () -> x.told(99));
        due(x.status(1), 2);
        refused(STATE, x::reverse);
        refused(STATE, x::force);
        refused(STATE, x::disable);
        due(x.status(0), 1);
        due(x.status(1), 2);
        due(x.status(2), 3);
        due(x.status(3), NONE);
        due(x.status(-1), NONE);
        due(x.status(Integer.MIN_VALUE), NONE);
        // what a trap or a FAULT says is no refusal
        x.get(0, 0, 0);
        function(x, 0, "x");
        for (int i = 0; i < 26; i++) x.feed(0, 0, 0, 0, 0);
        due(x.status(0) + x.status(1) + x.status(2), 6);
    }
}
