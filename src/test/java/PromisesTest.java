/** Each promise of the document: ordinary inputs, the edges that it names, and wrong inputs. */
public final class PromisesTest extends Asking {
    private PromisesTest() {
    }

    public static void main(String[] args) {
        promise1NewObject();
        promise2Make();
        promise3Put();
        promise4Ground();
        promise5Turn();
        promise6BreakUp();
        promise7Append();
        promise8Clear();
        promise9Fault();
        promise10Load();
        promise11Sign();
        promise12Crate();
        promise12BestFit();
        promise13Letter();
        promise14Seen();
        promise15WhyNot();
        promise16Effort();
        promise17Alike();
        promise18Nest();
        promise19Count();
        promise20Full();
        promise21IfTurned();
        promise22BestTurn();
        promise23Undo();
        promise24Save();
        promise25Restore();
        Due.end("PromisesTest");
    }

    private static void promise1NewObject() {
        SlatCrates x = new SlatCrates();
        for (int what = 0; what <= 14; what++) {
            due("new: count(" + what + ")", x.count(what), 0);
        }
        due("new: full()", x.full(), 0.0);
        due("new: fault()", x.fault(), 0);
        due("new: load()", x.load(), NOT_POSSIBLE);
        due("new: undo()", x.undo(), NOT_POSSIBLE);
        due("new: restore()", x.restore(), NOT_POSSIBLE);
        due("new: bestTurn()", x.bestTurn(), NONE);
        due("new: nest(0)", x.nest(0), NONE);
        due("new: crate(0, 0)", x.crate(0, 0), INVALID);
        due("new: alike(28, 28, 28, 28)", x.alike(ANY, ANY, ANY, ANY), 0);
        due("new: effort(1, 0)", x.effort(1, 0), 0);
    }

    private static void promise2Make() {
        SlatCrates x = new SlatCrates();
        due("make(0, 0, 0, A)", x.make(0, 0, 0, A), INVALID);
        due("make(61, 0, 0, A)", x.make(61, 0, 0, A), INVALID);
        due("make(5, -1, 0, A)", x.make(5, -1, 0, A), INVALID);
        due("make(5, 5, 0, A)", x.make(5, 5, 0, A), INVALID);
        due("make(5, 4, -1, A)", x.make(5, 4, -1, A), INVALID);
        due("make(5, 4, 16, A)", x.make(5, 4, 16, A), INVALID);
        int[] wrongLabels = {MIN, -1, 0, 27, 27 * 27, 27 * 27 + 1, 27 * 27 * 27 + 1,
            27 * 27 * 27 + 28, 27 * 27 * 27 + 27 * 27 + 1, 27 * 27 * 27 + 27 * 27 + 27,
            27 * 27 * 27 * 27, 27 * 27 * 27 * 27 + 1, MAX};
        for (int wrong : wrongLabels) {
            due("make(5, 4, 3, " + wrong + ")", x.make(5, 4, 3, wrong), INVALID);
        }
        due("count(14) after refusals of arguments", x.count(14), 0);
        due("make(1, 0, 0, A)", x.make(1, 0, 0, A), 0);
        due("make(60, 59, 15, ZZZZ)", x.make(60, 59, 15, label("ZZZZ")), 1);
        due("make(60, 0, 9, QED)", x.make(60, 0, 9, label("QED")), 2);
        due("states", x.count(14), 3);
        due("the crates", all(x), "As1r0g0ZZZZs60r59g15QEDs60r0g9");
        for (int crate = 3; crate < 12; crate++) {
            due("make", x.make(7, 6, 5, label("HI")), crate);
        }
        due("make a 13th", x.make(7, 6, 5, A), LIMIT);
        due("make a wrong 13th", x.make(7, 7, 5, A), INVALID);
        due("crates", x.count(0), 12);
    }

    private static void promise3Put() {
        SlatCrates x = read("As60r40g15Bs20r19g15Cs19r5g0Ds21r20g1");
        due("put(1, 0)", x.put(1, 0), 11);
        due("put(1, 0) again, its room is left as it goes", x.put(1, 0), 11);
        due("put(2, 1)", x.put(2, 1), 12);
        due("put(3, 0), which is 1 too large", x.put(3, 0), 3);
        due("put(2, 0)", x.put(2, 0), 11);
        due("put(1, 0) below", x.put(1, 0), 1);
        due("put(1, 1) below and itself: the first reason", x.put(1, 1), 1);
        due("put(0, 0)", x.put(0, 0), 2);
        due("put(0, 2), of its load", x.put(0, 2), 2);
        due("put(2, 2)", x.put(2, 2), 2);
        due("refused", x.count(12), 6);
        due("states", x.count(14), 4);
        due("put(2, 3), small enough", x.put(2, 3), 11);
        due("put(3, 3) with its load in it", x.put(3, 3), 2);
        due("put(2, 0)", x.put(2, 0), 11);
        due("the pile", text(x, 0), "As60r40g15[Bs20r19g15Cs19r5g0]");
        due("the place of the top", x.crate(2, 9), 1);
        for (int far : new int[] {MIN, -1, 4, MAX}) {
            due("put(" + far + ", 0)", x.put(far, 0), INVALID);
            due("put(0, " + far + ")", x.put(0, far), INVALID);
        }
        due("refused, wrong numbers apart", x.count(12), 7);
        SlatCrates full = read("As60r10g15[Bs9r8g1]Cs1r0g0");
        due("put into all the room left", full.put(2, 0), 11);
        due("put the top again with no room left", full.put(2, 0), 11);
        due("its place stays", full.crate(2, 9), 1);
    }

    private static void promise4Ground() {
        SlatCrates x = read("As60r59g15[Bs20r19g15[Cs5r4g0]Ds10r0g1]");
        due("ground(0)", x.ground(0), 4);
        due("ground(1)", x.ground(1), 1);
        due("refused", x.count(12), 2);
        due("ground(3)", x.ground(3), 10);
        due("ground(3) again", x.ground(3), 4);
        due("ground(2)", x.ground(2), 10);
        due("ground(1), topmost now", x.ground(1), 10);
        due("on the ground", x.count(1), 4);
        due("its place", x.crate(1, 9), 0);
        due("ground(4)", x.ground(4), INVALID);
        due("ground(-1)", x.ground(-1), INVALID);
        due("refused", x.count(12), 3);
        due("states", x.count(14), 4);
        SlatCrates y = read("As60r59g15[Bs20r19g15[Cs5r4g0]]");
        due("ground(1) with its load", y.ground(1), 10);
        due("states", y.count(14), 2);
        due("it took its load along", text(y, 1), "Bs20r19g15[Cs5r4g0]");
    }

    private static void promise5Turn() {
        int[] turned = {0, 2, 4, 6, 8, 10, 12, 14, 1, 3, 5, 7, 9, 11, 13, 15};
        for (int gaps = 0; gaps <= 15; gaps++) {
            SlatCrates x = new SlatCrates();
            x.make(5, 4, gaps, A);
            due("turn of the gaps " + gaps, x.turn(0), turned[gaps]);
            due("crate(0, 2)", x.crate(0, 2), turned[gaps]);
            due("states", x.count(14), 2);
            due("turn(1)", x.turn(1), INVALID);
            due("turn(-1)", x.turn(-1), INVALID);
            due("states", x.count(14), 2);
        }
        SlatCrates y = read("As60r59g1[Bs20r19g15]");
        due("turn of one that lies in another", y.turn(1), 15);
        due("turn of one with a pile", y.turn(0), 2);
    }

    private static void promise6BreakUp() {
        SlatCrates x = read("As9r8g0Bs60r59g15[Cs30r20g15[Ds5r4g0]Es10r0g1]Fs7r6g5");
        due("breakUp(1)", x.breakUp(1), 5);
        due("breakUp(2), neither topmost nor empty: the first reason", x.breakUp(2), 1);
        due("refused", x.count(12), 2);
        due("breakUp(0)", x.breakUp(0), 15);
        due("the others", all(x), "Bs60r59g15[Cs30r20g15[Ds5r4g0]Es10r0g1]Fs7r6g5");
        due("the holder of D", x.crate(2, 4), 1);
        due("breakUp(3)", x.breakUp(3), 14);
        due("breakUp(2)", x.breakUp(2), 13);
        due("the others", all(x), "Bs60r59g15[Cs30r20g15]Fs7r6g5");
        due("breakUp(3)", x.breakUp(3), INVALID);
        due("breakUp(-1)", x.breakUp(-1), INVALID);
        due("breakUp(2)", x.breakUp(2), 12);
        due("breakUp(1)", x.breakUp(1), 11);
        due("breakUp(0)", x.breakUp(0), 10);
        due("breakUp(0)", x.breakUp(0), INVALID);
        due("refused", x.count(12), 2);
        SlatCrates one = read("As60r59g0[Bs20r9g1]");
        due("breakUp of one with a single crate in it", one.breakUp(0), 5);
        due("breakUp of the single one", one.breakUp(1), 11);
        due("breakUp of the emptied one", one.breakUp(0), 10);
        SlatCrates y = read("As60r59g0[Bs20r9g1Cs3r0g0]Ds9r8g7");
        y.put(2, 3);
        due("breakUp(2), whose holder has a greater number", y.breakUp(2), 13);
        due("the others", all(y), "As60r59g0[Bs20r9g1]Ds9r8g7");
        due("the broken one does not come back in a pile", y.crate(2, 6), 0);
    }

    private static void promise7Append() {
        SlatCrates x = new SlatCrates();
        for (int code : new int[] {MIN, -1, 0, 32, 127, MAX}) {
            due("append(" + code + ")", x.append(code), INVALID);
        }
        for (int length = 1; length <= 80; length++) {
            due("append", x.append(length % 2 == 0 ? 33 : 126), length);
        }
        due("append an 81st", x.append(65), LIMIT);
        due("append a wrong 81st", x.append(32), INVALID);
        due("append a wrong 81st", x.append(127), INVALID);
        due("the length", x.count(13), 80);
        due("the states", x.count(14), 0);
    }

    private static void promise8Clear() {
        SlatCrates x = new SlatCrates();
        due("clear()", x.clear(), 0);
        write(x, "As5r4g1");
        due("clear()", x.clear(), 7);
        due("clear() again", x.clear(), 0);
        due("fault()", x.fault(), 0);
        write(x, "Bs1r0g0");
        due("load()", x.load(), 1);
        due("only what was written after it", all(x), "Bs1r0g0");
        due("states", x.count(14), 1);
    }

    private static void promise9Fault() {
        String[] right = {"As1r0g0", "ABCDs60r59g15", "Zs9r59g9", "As10r10g10Bs5r5g5", "As5r4g1[Bs5r9g0]",
            "As5r4g1[Bs5r9g0Cs1r0g0]", "As5r4g1[Bs5r9g0[Cs1r0g0]]Ds2r2g2", "As5r4g1[Bs5r9g0]C" + "s1r0g0[Ds1r1g1]"};
        for (String text : right) {
            due("the fault of " + text, faultOf(text), NONE);
        }
        String[] open = {"", "A", "ABCD", "As", "As1", "As60", "As1r", "As1r0", "As1r0g", "As5r4g1[", "As5r4g1[B",
            "As5r4g1[Bs5r9g0", "As5r4g1[Bs5r9g0[Cs1r0g0]", "As1r0g0B", "As5r4g1[Bs5r9g0]C"};
        for (String text : open) {
            due("the fault of " + text, faultOf(text), text.length());
        }
        String[] wrong = {"s", "5", "[", "]", "a", "!", "ABCDE", "AS0", "As0", "Asr", "As61", "As70", "As100", "As601",
            "As5g", "As5rg", "As5r00", "As5r01", "As5r60", "As5r591", "As5r5[", "As5r4g00", "As5r4g07", "As5r4g16",
            "As5r4g20", "As5r4g150", "As5r4g[", "As5r4g]", "As5r4g1]", "As5r4g1s", "As5r4g1r", "As5r4g1g", "As5r4g1~",
            "As5r4g1[]", "As5r4g1[[", "As5r4g15[1", "As5r4g1[Bs5r4g1]]", "As5r4g1[Bs5r4g1][", "As5r4g1[Bs5r4g1]5",
            "As5r4g1[Bs5r4g1]s", "Ag", "Ar", "A[", "A]", "As5s", "As5[", "As5A", "AsA", "AsZ", "As@", "@", "As:", "As/"};
        for (String text : wrong) {
            int want = text.length() - 1;
            want = text.equals("AS0") ? 2 : want;
            want = text.equals("As5g") ? 3 : want;
            due("the fault of " + text, faultOf(text), want);
            due("the fault of " + text + " and more", faultOf(text + "As1r0g0"), want);
        }
        SlatCrates x = new SlatCrates();
        String deep = "As1r0g0[As1r0g0[As1r0g0[As1r0g0[As1r0g0[As1r0g0[As1r0g0[As1r0g0[As1r0g0[As1r0g0[";
        write(x, deep);
        due("the fault of a deep start, whose length does not matter", x.fault(), 80);
        due("the pad stays", x.count(13), 80);
    }

    private static void promise10Load() {
        SlatCrates x = new SlatCrates();
        x.make(30, 20, 3, A);
        write(x, "Ks50r40g15[As9r8g7[Zs8r0g0]Bs31r30g1]Cs1r0g9");
        due("load()", x.load(), 6);
        due("the pad is empty", x.count(13), 0);
        int[] holders = {NONE, NONE, 1, 2, 1, NONE};
        int[] places = {0, 0, 0, 0, 1, 0};
        for (int crate = 0; crate < 6; crate++) {
            due("the holder of " + crate, x.crate(crate, 4), holders[crate]);
            due("the place of " + crate, x.crate(crate, 9), places[crate]);
        }
        due("the crates", all(x), "As30r20g3Ks50r40g15[As9r8g7[Zs8r0g0]Bs31r30g1]Cs1r0g9");
        due("states", x.count(14), 2);
        String[] impossible = {"", "As5r4g", "As5r4g1]", "As5r5g1", "As5r59g1", "As5r4g1[Bs5r0g0]",
            "As60r9g1[Bs5r0g0Cs5r0g0]", "As60r59g1[Bs5r5g0]", "As60r59g0Bs9r1g0[Cs1r0g0[Ds1r0g0]]"};
        for (String text : impossible) {
            write(x, text);
            due("load " + text, x.load(), NOT_POSSIBLE);
            due("the pad stays", x.clear(), text.length());
        }
        due("states", x.count(14), 2);
        write(x, "As1r0g0Bs1r0g0Cs1r0g0Ds1r0g0Es1r0g0Fs1r0g0Gs1r0g0");
        due("load of 7 to 6", x.load(), LIMIT);
        write(x, "Gs1r1g0");
        due("load of 8 to 6 with a wrong room", x.load(), NOT_POSSIBLE);
        due("the pad stays", x.count(13), 56);
        due("crates", x.count(0), 6);
        x.clear();
        write(x, "As1r0g0Bs1r0g0Cs1r0g0Ds1r0g0Es1r0g0Fs60r59g0[");
        write(x, "Gs1r0g0]");
        due("load of 7 to 6", x.load(), LIMIT);
        x.clear();
        write(x, "As1r0g0Bs1r0g0Cs1r0g0Ds1r0g0Es60r10g0[Fs10r0g0]");
        due("load of 6 to 6, a pile as great as the room", x.load(), 12);
        due("refused", x.count(12), 0);
        SlatCrates y = new SlatCrates();
        write(y, "As1r0g0As1r0g0As1r0g0As1r0g0As1r0g0As1r0g0As1r0g0As1r0g0As1r0g0As1r0g0As1r0g0");
        due("load of 11", y.load(), 11);
    }

    private static void promise11Sign() {
        SlatCrates x = read("ABCDs60r59g15[Zs10r9g8[QRs1r0g0]Ys9r8g10]");
        due("crate 0", text(x, 0), "ABCDs60r59g15[Zs10r9g8[QRs1r0g0]Ys9r8g10]");
        due("crate 1", text(x, 1), "Zs10r9g8[QRs1r0g0]");
        due("crate 2", text(x, 2), "QRs1r0g0");
        due("crate 3", text(x, 3), "Ys9r8g10");
        due("sign(3, 7)", x.sign(3, 7), '0');
        due("sign(3, 8)", x.sign(3, 8), NONE);
        due("sign(3, MAX)", x.sign(3, MAX), NONE);
        due("sign(3, -1)", x.sign(3, -1), INVALID);
        due("sign(3, MIN)", x.sign(3, MIN), INVALID);
        due("sign(4, 0)", x.sign(4, 0), INVALID);
        due("sign(-1, 0)", x.sign(-1, 0), INVALID);
        SlatCrates y = new SlatCrates();
        StringBuilder want = new StringBuilder();
        for (int crate = 0; crate < 12; crate++) {
            y.make(60 - crate, 59 - crate, 15, label("WXYZ"));
            want.append("WXYZs").append(60 - crate).append('r').append(59 - crate).append("g15");
            want.append(crate < 11 ? "[" : "]]]]]]]]]]]");
        }
        for (int crate = 11; crate > 0; crate--) {
            due("put", y.put(crate, crate - 1), 11);
        }
        due("the longest text", text(y, 0), want.toString());
    }

    private static void promise12Crate() {
        SlatCrates x = read("ABs60r50g3[Cs20r15g5[Ds5r4g0Es5r2g1]Fs9r0g15Cs9r1g2]Hs30r29g0");
        int[][] want = {
            {60, 50, 3, 2, NONE, 0, 3, 5, 12, 0, 0, 1, 2, NONE, 4},
            {20, 15, 5, 1, 0, 1, 2, 2, 5, 0, 3, 1, 1, 5, 1},
            {5, 4, 0, 1, 1, 2, 0, 0, 4, 0, 5, 0, 1, 0, 1},
            {5, 2, 1, 1, 1, 2, 0, 0, 2, 1, 4, 0, 1, 0, 0},
            {9, 0, 15, 1, 0, 1, 0, 0, 0, 1, 2, 1, 1, 5, 1},
            {9, 1, 2, 1, 0, 1, 0, 0, 1, 2, 1, 1, 1, 6, 0},
            {30, 29, 0, 1, NONE, 0, 0, 0, 29, 0, 0, 1, 1, NONE, 4}};
        want[1][13] = 6;
        want[4][13] = 6;
        want[2][11] = 1;
        want[3][11] = 1;
        for (int crate = 0; crate < 7; crate++) {
            for (int what = 0; what <= 14; what++) {
                due("crate(" + crate + ", " + what + ")", x.crate(crate, what), want[crate][what]);
            }
            for (int what : new int[] {MIN, -1, 15, MAX}) {
                due("crate(" + crate + ", " + what + ")", x.crate(crate, what), INVALID);
            }
        }
        for (int what = -1; what <= 15; what++) {
            due("crate(7, " + what + ")", x.crate(7, what), INVALID);
            due("crate(-1, " + what + ")", x.crate(-1, what), INVALID);
        }
        due("states", x.count(14), 1);
        SlatCrates alike = read("As9r8g0As9r8g0As8r0g0Bs9r0g0");
        int[] told = {0, 0, 1, 1};
        for (int crate = 0; crate < 4; crate++) {
            due("crate(" + crate + ", 11)", alike.crate(crate, 11), told[crate]);
        }
        SlatCrates depths = read("As60r59g15[Bs9r0g0]Bs9r0g0Cs50r49g14[Bs9r0g0Ds9r0g0]");
        int[] byDepth = {1, 1, 1, 1, 0, 0};
        for (int crate = 0; crate < 6; crate++) {
            due("crate(" + crate + ", 11)", depths.crate(crate, 11), byDepth[crate]);
        }
    }

    private static void promise12BestFit() {
        SlatCrates x = read("As60r50g0[Bs20r19g0[Cs5r4g0]Ds6r5g0]Es7r6g0Fs30r5g0Gs60r6g0");
        due("C, the lowest of two that leave nothing", x.crate(2, 13), 3);
        due("B", x.crate(1, 13), NONE);
        due("D", x.crate(3, 13), 4);
        due("E", x.crate(4, 13), 1);
        due("A", x.crate(0, 13), NONE);
        x.put(4, 0);
        due("E again, which never fits into its own", x.crate(4, 13), 1);
        due("D, which is not topmost now", x.crate(3, 13), 4);
        SlatCrates alone = read("As60r59g0[Bs20r19g0]");
        due("B fits only where it lies", alone.crate(1, 13), NONE);
        SlatCrates three = read("As60r59g0[Bs20r19g0[Cs5r4g0]]");
        due("C fits into the one farther around", three.crate(2, 13), 0);
        SlatCrates tight = read("As60r30g0[Bs20r0g0]Cs10r0g0Ds11r0g0");
        due("C fits into just the room left", tight.crate(2, 13), 0);
        due("D does not", tight.crate(3, 13), NONE);
    }

    private static void promise13Letter() {
        SlatCrates x = read("QAZWs9r8g0Bs9r8g0");
        int[] first = {16, 0, 25, 22};
        int[] second = {1, NONE, NONE, NONE};
        for (int place = 0; place < 4; place++) {
            due("letter(0, " + place + ")", x.letter(0, place), first[place]);
            due("letter(1, " + place + ")", x.letter(1, place), second[place]);
            due("letter(2, " + place + ")", x.letter(2, place), INVALID);
            due("letter(-1, " + place + ")", x.letter(-1, place), INVALID);
        }
        for (int place : new int[] {MIN, -1, 4, MAX}) {
            due("letter(1, " + place + ")", x.letter(1, place), INVALID);
        }
    }

    private static void promise14Seen() {
        SlatCrates x = read("Zs60r59g7[ABCs50r40g13[XYs20r0g0]Ks9r0g0]");
        due("signs of 0, of which all is seen", signs(x, 0), "Z---");
        due("signs of 1", signs(x, 1), "ABC?");
        due("signs of 2", signs(x, 2), "X?-?");
        due("signs of 3", signs(x, 3), "K--?");
        x.turn(0);
        due("signs of 1 after a turn", signs(x, 1), "?BC-");
        due("signs of 2 after a turn", signs(x, 2), "??--");
        due("seen(4, 0)", x.seen(4, 0), INVALID);
        due("seen(-1, 0)", x.seen(-1, 0), INVALID);
        for (int place : new int[] {MIN, -1, 4, MAX}) {
            due("seen(0, " + place + ")", x.seen(0, place), INVALID);
        }
    }

    private static void promise15WhyNot() {
        SlatCrates x = read("As60r40g15[Bs20r19g15[Cs19r5g0]]Ds21r20g1Es20r0g0");
        due("whyNot(0, 0)", x.whyNot(0, 0), 2);
        due("whyNot(0, 2)", x.whyNot(0, 2), 2);
        due("whyNot(1, 0), where it lies", x.whyNot(1, 0), 0);
        due("whyNot(3, 0)", x.whyNot(3, 0), 3);
        due("whyNot(4, 0)", x.whyNot(4, 0), 0);
        due("whyNot(2, 4)", x.whyNot(2, 4), 3);
        x.put(4, 0);
        due("whyNot(1, 3)", x.whyNot(1, 3), 1);
        due("whyNot(1, 1), the first reason", x.whyNot(1, 1), 1);
        due("whyNot(1, 2), the first reason", x.whyNot(1, 2), 1);
        due("whyNot(5, 0)", x.whyNot(5, 0), INVALID);
        due("whyNot(0, 5)", x.whyNot(0, 5), INVALID);
        due("whyNot(-1, 0)", x.whyNot(-1, 0), INVALID);
        due("whyNot(0, -1)", x.whyNot(0, -1), INVALID);
        due("refused", x.count(12), 0);
        due("states", x.count(14), 2);
    }

    private static void promise16Effort() {
        SlatCrates x = read("As60r59g0[Bs20r19g0[Cs5r4g0[Ds3r0g0]Es5r0g0]Fs5r0g0Gs3r0g0]Hs5r0g0");
        for (int way = 0; way <= 1; way++) {
            due("effort(60, " + way + ")", x.effort(60, way), 0);
            due("effort(20, " + way + ")", x.effort(20, way), 3);
            due("effort(5, " + way + ")", x.effort(5, way), 5 + 4 + 2);
            due("effort(3, " + way + ")", x.effort(3, way), 6 + 1);
            due("effort(1, " + way + ")", x.effort(1, way), 0);
            for (int size : new int[] {MIN, -1, 0, 61, MAX}) {
                due("effort(" + size + ", " + way + ")", x.effort(size, way), INVALID);
            }
        }
        SlatCrates deep = deep12();
        for (int crate = 0; crate < 12; crate++) {
            due("the effort of a deep crate, going up", deep.effort(60 - crate, 0), crate);
            due("the effort of a deep crate, going down", deep.effort(60 - crate, 1), crate);
        }
        due("the greatest depth", deep.count(3), 11);
        due("the load of the outermost one", deep.crate(0, 7), 11);
        due("put of the outermost one into the innermost one", deep.put(0, 11), 2);
        for (int way : new int[] {MIN, -1, 2, MAX}) {
            due("effort(5, " + way + ")", x.effort(5, way), INVALID);
        }
    }

    private static void promise17Alike() {
        SlatCrates x = read("Zs60r59g7[ABCs50r40g13[XYs20r0g0]Ks9r0g0]ZEs1r0g0");
        due("alike Z---", x.alike(25, BARE, BARE, BARE), 1);
        due("alike Z***", x.alike(25, ANY, ANY, ANY), 2);
        due("alike ***?", x.alike(ANY, ANY, ANY, HIDDEN), 3);
        due("alike *?**", x.alike(ANY, HIDDEN, ANY, ANY), 1);
        due("alike **-*", x.alike(ANY, ANY, BARE, ANY), 4);
        due("alike **C*", x.alike(ANY, ANY, 2, ANY), 1);
        due("alike *E--", x.alike(ANY, 4, BARE, BARE), 1);
        due("alike ****", x.alike(ANY, ANY, ANY, ANY), 5);
        SlatCrates letters = read("ABs1r0g0BAs1r0g0CCAs1r0g0DDDAs1r0g0");
        due("alike *A**", letters.alike(ANY, 0, ANY, ANY), 1);
        due("alike **A*", letters.alike(ANY, ANY, 0, ANY), 1);
        due("alike ***A", letters.alike(ANY, ANY, ANY, 0), 1);
        due("alike A***", x.alike(0, ANY, ANY, ANY), 1);
        due("alike *B**", x.alike(ANY, 1, ANY, ANY), 1);
        due("alike ????", x.alike(HIDDEN, HIDDEN, HIDDEN, HIDDEN), 0);
        for (int wrong : new int[] {MIN, -1, 29, MAX}) {
            due("alike first " + wrong, x.alike(wrong, ANY, ANY, ANY), INVALID);
            due("alike second " + wrong, x.alike(ANY, wrong, ANY, ANY), INVALID);
            due("alike third " + wrong, x.alike(ANY, ANY, wrong, ANY), INVALID);
            due("alike fourth " + wrong, x.alike(ANY, ANY, ANY, wrong), INVALID);
        }
    }

    private static void nestDue(SlatCrates x, int... want) {
        for (int place = 0; place < want.length; place++) {
            due("nest(" + place + ")", x.nest(place), want[place]);
        }
        due("nest behind its end", x.nest(want.length), NONE);
        due("nest far behind its end", x.nest(MAX), NONE);
        due("nest(-1)", x.nest(-1), INVALID);
        due("nest(MIN)", x.nest(MIN), INVALID);
        due("the length of the nest", x.count(10), want.length);
    }

    private static void promise18Nest() {
        nestDue(new SlatCrates());
        nestDue(read("As5r4g0"), 0);
        nestDue(read("As5r4g0Bs5r4g0"), 0);
        nestDue(read("As3r0g0Bs9r8g0Cs5r3g0"), 1, 2, 0);
        nestDue(read("As3r0g0Bs9r5g0Cs9r5g0Ds5r3g0Es5r4g0Fs3r0g0"), 1, 3, 0);
        nestDue(read("As60r1g0Bs9r5g0Cs6r5g0Ds5r1g0Es1r0g0"), 1, 3, 4);
        nestDue(read("As60r59g0[Bs9r8g0]Cs7r6g0Ds6r0g0"), 2, 3);
        nestDue(read("As60r59g0[Bs9r8g0]"));
        nestDue(read("As2r1g0Bs1r0g0As4r2g0Ds5r4g0"), 3, 2, 0, 1);
    }

    private static void promise19Count() {
        SlatCrates x = read("ABs60r50g3[Cs20r15g5[Ds5r4g0Es5r2g1]Fs9r0g15Cs9r1g2]Hs30r29g0");
        x.ground(0);
        x.ground(1);
        write(x, "A[");
        int[] want = {7, 2, 1, 2, 138, 0, 7, 8, 8, 6, 1, 3 + 5 + 4 + 2 + 1, 2, 2, 3};
        want[5] = 50 + 15 + 4 + 2 + 0 + 1 + 29 - (20 + 9 + 9 + 5 + 5);
        for (int what = 0; what <= 14; what++) {
            due("count(" + what + ")", x.count(what), want[what]);
        }
        for (int what : new int[] {MIN, -1, 15, MAX}) {
            due("count(" + what + ")", x.count(what), INVALID);
        }
        SlatCrates alike = read("As9r8g0As8r0g0Bs9r0g0Bs9r0g0Cs60r59g0[ABs3r0g0Bs2r0g0]");
        due("rows of signs", alike.count(9), 4);
        due("crates that can be told", alike.count(6), 5);
        due("letters", alike.count(7), 8);
        due("letters that are seen", alike.count(8), 5);
        SlatCrates y = new SlatCrates();
        for (int change = 1; change <= 6; change++) {
            y.make(5, 4, 3, A);
            due("states", y.count(14), Math.min(change, 4));
        }
    }

    private static void promise20Full() {
        due("full without rooms", read("As9r0g0Bs9r0g0").full(), 0.0);
        due("full of empty rooms", read("As9r8g0Bs9r0g0").full(), 0.0);
        due("full", read("As60r50g0[Bs20r7g0[Cs5r4g0]]Ds9r8g0").full(), 25.0 / 69);
        due("full of thirds", read("As9r2g0[Bs1r0g0]Cs60r1g0").full(), 1.0 / 3);
        due("wholly full, the least room", read("As2r1g0[Bs1r0g0]").full(), 1.0);
        due("wholly full", read("As9r8g0[Bs8r0g0]").full(), 1.0);
    }

    private static void promise21IfTurned() {
        SlatCrates x = read("Zs60r59g1[ABs50r40g15[ABCDs20r0g0]ABs50r40g15]".replace("s50r40g15]", "s9r0g15]"));
        due("letters now", x.count(8), 1 + 1 + 1 + 1);
        due("ifTurned(0, 0)", x.ifTurned(0, 0), 4);
        due("ifTurned(1, 0)", x.ifTurned(1, 0), 4);
        x.turn(0);
        due("letters now", x.count(8), 4);
        due("ifTurned(0, 0)", x.ifTurned(0, 0), 2);
        due("the gaps stay", x.crate(0, 2), 2);
        SlatCrates y = read("Zs60r59g1[ABs5r4g0ACs5r4g0]");
        due("told now", y.count(6), 1);
        due("ifTurned(0, 1)", y.ifTurned(0, 1), 3);
        due("ifTurned(1, 1)", y.ifTurned(1, 1), 1);
        due("ifTurned(0, 0), of all crates", y.ifTurned(0, 0), 3);
        for (int what : new int[] {MIN, -1, 2, MAX}) {
            due("ifTurned(0, " + what + ")", y.ifTurned(0, what), INVALID);
        }
        for (int crate : new int[] {MIN, -1, 3, MAX}) {
            due("ifTurned(" + crate + ", 0)", y.ifTurned(crate, 0), INVALID);
        }
        due("states", y.count(14), 1);
        due("told as before", y.count(6), 1);
    }

    private static void promise22BestTurn() {
        due("bestTurn of one", read("As5r4g0").bestTurn(), 0);
        due("bestTurn", read("As60r59g1[Bs20r9g0]Cs60r59g8[Ds20r9g0]").bestTurn(), 2);
        due("bestTurn, the lowest of several", read("Es1r0g0As60r59g8[Bs20r9g0]Cs60r59g8[Ds20r9g0]").bestTurn(), 1);
        due("bestTurn, if none shows more", read("As60r59g15[Bs20r9g0]Cs60r59g15[Ds20r9g0]").bestTurn(), 0);
        SlatCrates x = read("As60r59g1[Bs20r9g0]Cs60r59g8[Ds20r9g0]");
        x.bestTurn();
        due("the gaps stay", x.crate(2, 2), 8);
    }

    private static void promise23Undo() {
        SlatCrates x = new SlatCrates();
        x.make(60, 59, 1, A);
        x.make(20, 9, 2, A);
        x.put(1, 0);
        x.turn(1);
        x.ground(0);
        write(x, "As");
        due("save()", x.save(), 2);
        due("refused", x.count(12), 1);
        due("undo of a refusal", x.undo(), 3);
        due("refused", x.count(12), 0);
        due("undo of turn", x.undo(), 2);
        due("the gaps", x.crate(1, 2), 2);
        due("undo of put", x.undo(), 1);
        due("on the ground", x.count(1), 2);
        due("undo of make", x.undo(), 0);
        due("crates", x.count(0), 1);
        due("undo, the oldest one was dropped", x.undo(), NOT_POSSIBLE);
        due("the pad stays", x.count(13), 2);
        due("the snapshot stays", x.restore(), 2);
        due("refused", x.count(12), 1);
        due("undo of restore", x.undo(), 0);
        due("crates", x.count(0), 1);
        due("refused", x.count(12), 0);
        x.clear();
        write(x, "Bs9r8g7[Cs3r0g0]");
        due("load()", x.load(), 3);
        due("undo of load", x.undo(), 0);
        due("the pad stays empty", x.count(13), 0);
        due("the crates", all(x), "As60r59g1");
        due("breakUp(0)", x.breakUp(0), 10);
        due("undo of breakUp", x.undo(), 0);
        due("the crates", all(x), "As60r59g1");
        SlatCrates piles = read("As60r59g0[Bs9r0g0Cs8r0g0Ds7r0g0]");
        piles.ground(3);
        piles.ground(2);
        piles.put(3, 0);
        piles.put(2, 0);
        due("the pile in another order", text(piles, 0), "As60r59g0[Bs9r0g0Ds7r0g0Cs8r0g0]");
        piles.undo();
        piles.undo();
        due("undo", piles.undo(), 1);
        due("undo", piles.undo(), 0);
        due("the pile as it was", text(piles, 0), "As60r59g0[Bs9r0g0Cs8r0g0Ds7r0g0]");
        SlatCrates many = new SlatCrates();
        for (int turn = 0; turn < 9; turn++) {
            many.make(10 + turn, 5, 3, A);
        }
        for (int left = 3; left >= 0; left--) {
            due("undo", many.undo(), left);
            due("crates", many.count(0), 5 + left);
            due("the latest crate", many.crate(4 + left, 0), 14 + left);
        }
        due("undo of a dropped state", many.undo(), NOT_POSSIBLE);
        SlatCrates same = read("As60r59g0[Bs9r0g0]");
        same.put(1, 0);
        same.turn(0);
        due("changes that change nothing", same.count(14), 3);
    }

    private static void promise24Save() {
        SlatCrates x = new SlatCrates();
        due("save()", x.save(), 0);
        x.make(60, 59, 1, A);
        x.ground(0);
        due("save()", x.save(), 1);
        due("states", x.count(14), 2);
        x.turn(0);
        x.make(5, 4, 3, A);
        x.ground(0);
        x.restore();
        due("the latest snapshot", all(x), "As60r59g1");
        due("refused", x.count(12), 1);
    }

    private static void promise25Restore() {
        SlatCrates x = new SlatCrates();
        due("restore()", x.restore(), NOT_POSSIBLE);
        due("states", x.count(14), 0);
        x.save();
        due("restore of an empty ground", x.restore(), 0);
        due("states", x.count(14), 1);
        write(x, "As60r59g1[Bs9r0g0Cs8r0g1]");
        x.load();
        x.save();
        write(x, "Z");
        x.breakUp(2);
        x.breakUp(1);
        x.make(3, 2, 1, A);
        due("restore()", x.restore(), 3);
        due("the crates", all(x), "As60r59g1[Bs9r0g0Cs8r0g1]");
        due("the pad stays", x.count(13), 1);
        due("states", x.count(14), 4);
        x.turn(0);
        due("restore() again", x.restore(), 3);
        due("the gaps", x.crate(0, 2), 1);
        due("undo of restore", x.undo(), 3);
        due("the gaps", x.crate(0, 2), 2);
    }
}
