/** A test for each sentence of the promises 1 to 6 that names a boundary case. */
public final class BoundariesCratesTest extends Asking {
    private BoundariesCratesTest() {
    }

    public static void main(String[] args) {
        Sentences.run(BoundariesCratesTest.class);
    }

    // ---- a new object

    @Sentence("Creates an empty ground.")
    static void promise1CountsAre0() {
        SlatCrates x = new SlatCrates();
        for (int what = 0; what <= 14; what++) {
            due("count(" + what + ")", x.count(what), 0);
        }
        due("full()", x.full(), 0.0);
        due("save()", x.save(), 0);
    }

    @Sentence("Creates an empty ground.")
    static void promise1NothingIsThere() {
        SlatCrates x = new SlatCrates();
        due("crate(0, 0)", x.crate(0, 0), INVALID);
        due("nest(0)", x.nest(0), NONE);
        due("bestTurn()", x.bestTurn(), NONE);
        due("effort(60, 0)", x.effort(60, 0), 0);
        due("effort(60, 1)", x.effort(60, 1), 0);
        due("alike(28, 28, 28, 28)", x.alike(ANY, ANY, ANY, ANY), 0);
        due("fault()", x.fault(), 0);
        due("clear()", x.clear(), 0);
    }

    @Sentence("Creates an empty ground.")
    static void promise1NothingIsKept() {
        SlatCrates x = new SlatCrates();
        due("undo()", x.undo(), NOT_POSSIBLE);
        due("restore()", x.restore(), NOT_POSSIBLE);
        due("load()", x.load(), NOT_POSSIBLE);
        due("count(14)", x.count(14), 0);
    }

    @Sentence("Creates an empty ground.")
    static void promise1ObjectsAreApart() {
        SlatCrates used = row12();
        used.put(0, 0);
        used.save();
        write(used, "As");
        SlatCrates x = new SlatCrates();
        due("crates", x.count(0), 0);
        due("refused", x.count(12), 0);
        due("the pad", x.count(13), 0);
        due("restore()", x.restore(), NOT_POSSIBLE);
        x.make(5, 4, 3, A);
        due("crates of the other one", used.count(0), 12);
        due("its first one", used.crate(0, 0), 60);
    }

    // ---- make

    private static void makeDue(int size, int room, int gaps, int label, int want) {
        String call = "make(" + size + ", " + room + ", " + gaps + ", " + label + ")";
        due(call, new SlatCrates().make(size, room, gaps, label), want);
    }

    private static void labelDue(int label, String want) {
        SlatCrates x = new SlatCrates();
        due("make with the label " + label, x.make(1, 0, 0, label), want.isEmpty() ? INVALID : 0);
        due("the nest with the label " + label, text(x, 0), want.isEmpty() ? "" : want + "s1r0g0");
    }

    @Sentence("Makes a crate, which stands on the ground.")
    static void promise2OnTheGround() {
        SlatCrates x = deep12();
        due("breakUp(11)", x.breakUp(11), 21);
        due("make()", x.make(7, 6, 5, label("HI")), 11);
        int[] want = {7, 6, 5, 2, NONE, 0, 0, 0, 6, 0, 0, 1, 2, 10, 4};
        for (int what = 0; what < want.length; what++) {
            due("crate(11, " + what + ")", x.crate(11, what), want[what]);
        }
        due("it takes no room", x.crate(0, 8), 0);
    }

    @Sentence("`size`: 1 to 60")
    static void promise2SizeTooSmall() {
        makeDue(1, 0, 0, A, 0);
        makeDue(0, 0, 0, A, INVALID);
        makeDue(0, -1, 0, A, INVALID);
        makeDue(-1, 0, 0, A, INVALID);
        makeDue(-1, -2, 0, A, INVALID);
        makeDue(MIN, 0, 0, A, INVALID);
    }

    @Sentence("`size`: 1 to 60")
    static void promise2SizeTooLarge() {
        makeDue(60, 0, 0, A, 0);
        makeDue(61, 0, 0, A, INVALID);
        makeDue(61, 60, 0, A, INVALID);
        makeDue(256, 0, 0, A, INVALID);
        makeDue(MAX, 0, 0, A, INVALID);
    }

    @Sentence("`room`: 0 to the size less 1")
    static void promise2RoomTooSmall() {
        makeDue(5, 0, 0, A, 0);
        makeDue(5, -1, 0, A, INVALID);
        makeDue(1, -1, 0, A, INVALID);
        makeDue(60, MIN, 0, A, INVALID);
    }

    @Sentence("`room`: 0 to the size less 1")
    static void promise2RoomTooLarge() {
        for (int size = 1; size <= 60; size++) {
            makeDue(size, size - 1, 0, A, 0);
            makeDue(size, size, 0, A, INVALID);
            makeDue(size, 60, 0, A, INVALID);
        }
        makeDue(5, MAX, 0, A, INVALID);
    }

    @Sentence("`gaps`: 0 to 15")
    static void promise2GapsTooSmallOrLarge() {
        makeDue(5, 4, 0, A, 0);
        makeDue(5, 4, 15, A, 0);
        makeDue(5, 4, -1, A, INVALID);
        makeDue(5, 4, 16, A, INVALID);
        makeDue(5, 4, MIN, A, INVALID);
        makeDue(5, 4, MAX, A, INVALID);
    }

    @Sentence("`label`: its letters as a number: (first letter and 1) and 27 times (second letter and 1) and 27 * 27 times (third letter and 1) and 27 * 27 * 27 times (fourth letter and 1)")
    static void promise2LabelLeastAndGreatest() {
        labelDue(1, "A");
        labelDue(26, "Z");
        labelDue(26 + 27 * 26 + 27 * 27 * 26 + 27 * 27 * 27 * 26, "ZZZZ");
        labelDue(27 * 27 * 27 * 27 - 1, "ZZZZ");
        labelDue(27 * 27 * 27 * 27, "");
        labelDue(27 * 27 * 27 * 27 + 1, "");
        labelDue(1 + 27 + 27 * 27 + 27 * 27 * 27 + 27 * 27 * 27 * 27, "");
        labelDue(0, "");
        labelDue(-1, "");
        labelDue(MIN, "");
        labelDue(MAX, "");
    }

    @Sentence("where a letter that there is not counts 0")
    static void promise2LabelShorter() {
        labelDue(2 + 27 * 26, "BZ");
        labelDue(1 + 27, "AA");
        labelDue(26 + 27 * 26, "ZZ");
        labelDue(1 + 27 + 27 * 27, "AAA");
        labelDue(26 + 27 * 26 + 27 * 27 * 26, "ZZZ");
        labelDue(1 + 27 + 27 * 27 + 27 * 27 * 27, "AAAA");
        labelDue(4 + 27 * 3 + 27 * 27 * 2 + 27 * 27 * 27, "DCBA");
    }

    @Sentence("none is missing ahead of one that there is")
    static void promise2LabelWithAMissingLetter() {
        labelDue(1 + 27 * 27, "");
        labelDue(1 + 27 * 27 * 27, "");
        labelDue(1 + 27 + 27 * 27 * 27, "");
        labelDue(1 + 27 * 27 + 27 * 27 * 27, "");
        labelDue(26 + 27 * 27 * 26, "");
        labelDue(26 + 27 * 26 + 27 * 27 * 27 * 26, "");
    }

    @Sentence("and the first one is there")
    static void promise2LabelWithoutTheFirstLetter() {
        labelDue(0, "");
        labelDue(27, "");
        labelDue(27 * 26, "");
        labelDue(27 * 27, "");
        labelDue(27 + 27 * 27, "");
        labelDue(27 * 27 * 27, "");
        labelDue(27 + 27 * 27 + 27 * 27 * 27, "");
        labelDue(27 * 26 + 27 * 27 * 26 + 27 * 27 * 27 * 26, "");
    }

    @Sentence("Returns its number; INVALID_ARGUMENT;")
    static void promise2ReturnsNumberOrInvalid() {
        SlatCrates x = new SlatCrates();
        due("make wrong ahead of the first", x.make(61, 61, 16, 0), INVALID);
        due("the first", x.make(5, 4, 0, A), 0);
        due("make wrong", x.make(5, 5, 0, A), INVALID);
        for (int crate = 1; crate <= 10; crate++) {
            x.make(5, 4, 0, A);
        }
        due("the last", x.make(5, 4, 0, A), 11);
    }

    @Sentence("LIMIT_REACHED if there are 12.")
    static void promise2LimitOf12() {
        SlatCrates x = row12();
        due("make a 13th", x.make(5, 4, 0, A), LIMIT);
        due("make a 13th again", x.make(1, 0, 0, A), LIMIT);
        due("breakUp(0)", x.breakUp(0), 21);
        due("make a 12th", x.make(5, 4, 0, A), 11);
        due("make a 13th", x.make(5, 4, 0, A), LIMIT);
        due("those that lie in others count", deep12().make(1, 0, 0, A), LIMIT);
    }

    // ---- put

    @Sentence("Puts a crate into another one.")
    static void promise3PutWithItsLoad() {
        SlatCrates x = read("As60r59g0Bs20r19g0[Cs5r4g0[Ds3r2g0]]");
        due("put(1, 0)", x.put(1, 0), 11);
        due("the nest", text(x, 0), "As60r59g0[Bs20r19g0[Cs5r4g0[Ds3r2g0]]]");
        due("put(2, 0)", x.put(2, 0), 11);
        due("the nest", text(x, 0), "As60r59g0[Bs20r19g0Cs5r4g0[Ds3r2g0]]");
        due("the emptied one", x.crate(1, 6), 0);
    }

    @Sentence("`crate`: its number")
    static void promise3CrateOutOfRange() {
        SlatCrates x = read("As60r59g0Bs20r19g0Cs5r4g0");
        for (int none : noCratesOf(3)) {
            due("put(" + none + ", 0)", x.put(none, 0), INVALID);
        }
        due("put of the first one", x.put(0, 1), 3);
        due("put of the last one", x.put(2, 1), 11);
        due("put on an empty ground", new SlatCrates().put(0, 0), INVALID);
    }

    @Sentence("`into`: another crate (perhaps itself, which is refused)")
    static void promise3IntoOutOfRangeOrItself() {
        SlatCrates x = read("As60r59g0Bs20r19g0Cs5r4g0");
        for (int none : noCratesOf(3)) {
            due("put(1, " + none + ")", x.put(1, none), INVALID);
            due("put(" + none + ", " + none + ")", x.put(none, none), INVALID);
        }
        due("refused so far", x.count(12), 0);
        for (int crate = 0; crate < 3; crate++) {
            due("put into itself", x.put(crate, crate), 2);
        }
        due("refused", x.count(12), 3);
        due("put into the first one", x.put(2, 0), 11);
        due("put into the last one", x.put(0, 2), 2);
    }

    @Sentence("Returns 10 and its depth then")
    static void promise3Returns10AndDepth() {
        SlatCrates x = row12();
        for (int crate = 1; crate < 12; crate++) {
            due("put(" + crate + ", " + (crate - 1) + ")", x.put(crate, crate - 1), 10 + crate);
        }
        SlatCrates y = read("As60r59g0[Bs20r19g0[Cs5r4g0]]");
        due("out to the outermost one", y.put(2, 0), 11);
        due("its own load does not count", read("As60r59g0Bs20r19g0[Cs5r4g0]").put(1, 0), 11);
    }

    @Sentence("the reason, 1 to 3, if it is refused")
    static void promise3RefusedAndNothingMoves() {
        SlatCrates x = read("As60r30g0[Bs20r19g0[Cs5r4g0]Ds9r8g0]");
        String before = all(x);
        due("reason 1", x.put(1, 0), 1);
        due("reason 2", x.put(0, 3), 2);
        due("reason 3", x.put(2, 0), 3);
        due("nothing moves", all(x), before);
        due("refused", x.count(12), 3);
        due("states", x.count(14), 4);
    }

    @Sentence("the reason, 1 to 3, if it is refused; INVALID_ARGUMENT.")
    static void promise3InvalidIsNotRefused() {
        SlatCrates x = read("As60r30g0[Bs20r19g0Cs9r8g0]");
        due("a crate below another into none", x.put(1, 3), INVALID);
        due("none into a crate", x.put(3, 1), INVALID);
        due("refused", x.count(12), 0);
        due("states", x.count(14), 1);
    }

    // ---- ground

    @Sentence("Sets a crate on the ground.")
    static void promise4GroundWithItsLoad() {
        SlatCrates x = read("As60r59g0[Bs20r19g0[Cs5r4g0]]");
        due("ground(1)", x.ground(1), 10);
        due("the crates", all(x), "As60r59g0Bs20r19g0[Cs5r4g0]");
        due("the room that is left", x.crate(0, 8), 59);
        due("its depth", x.crate(1, 5), 0);
        due("its load's depth", x.crate(2, 5), 1);
        due("its place", x.crate(1, 9), 0);
        SlatCrates top = wide12();
        due("ground(11)", top.ground(11), 10);
        due("the place of one that was on top of ten", top.crate(11, 9), 0);
    }

    @Sentence("`crate`: its number")
    static void promise4CrateOutOfRange() {
        SlatCrates x = deep12();
        for (int none : new int[] {MIN, -1, 12, 13, MAX}) {
            due("ground(" + none + ")", x.ground(none), INVALID);
        }
        due("refused", x.count(12), 0);
        due("ground of the first one", x.ground(0), 4);
        due("ground of the last one", x.ground(11), 10);
        due("ground on an empty ground", new SlatCrates().ground(0), INVALID);
    }

    @Sentence("Returns 10")
    static void promise4Returns10FromAnyDepth() {
        SlatCrates x = deep12();
        for (int crate = 11; crate > 0; crate--) {
            due("ground(" + crate + ")", x.ground(crate), 10);
        }
        due("on the ground", x.count(1), 12);
    }

    @Sentence("the reason, 1 or 4, if it is refused; INVALID_ARGUMENT.")
    static void promise4RefusedAndNothingMoves() {
        SlatCrates x = read("As60r30g0[Bs20r19g0Cs9r8g0]");
        String before = all(x);
        due("below another", x.ground(1), 1);
        due("on the ground", x.ground(0), 4);
        due("no such crate", x.ground(3), INVALID);
        due("nothing moves", all(x), before);
        due("refused", x.count(12), 2);
        due("states", x.count(14), 3);
    }

    // ---- turn

    @Sentence("Turns the slats of a crate.")
    static void promise5TurnAnyCrate() {
        SlatCrates x = read("As60r59g1[Bs20r19g2[Cs5r4g4]Ds5r4g8]Es1r0g9");
        int[] turned = {2, 4, 8, 1, 3};
        for (int crate = 0; crate < 5; crate++) {
            due("turn(" + crate + ")", x.turn(crate), turned[crate]);
        }
        due("only the gaps", all(x), "As60r59g2[Bs20r19g4[Cs5r4g8]Ds5r4g1]Es1r0g3");
    }

    @Sentence("`crate`: its number")
    static void promise5CrateOutOfRange() {
        SlatCrates x = row12();
        for (int none : new int[] {MIN, -1, 12, 13, MAX}) {
            due("turn(" + none + ")", x.turn(none), INVALID);
        }
        due("turn of the first one", x.turn(0), 15);
        due("turn of the last one", x.turn(11), 15);
        due("turn on an empty ground", new SlatCrates().turn(0), INVALID);
    }

    @Sentence("Returns its gaps then; INVALID_ARGUMENT.")
    static void promise5ReturnsGapsThatWrapAround() {
        int[] turned = {0, 2, 4, 6, 8, 10, 12, 14, 1, 3, 5, 7, 9, 11, 13, 15};
        for (int gaps = 0; gaps <= 15; gaps++) {
            SlatCrates x = new SlatCrates();
            x.make(5, 4, gaps, A);
            due("turn(1)", x.turn(1), INVALID);
            due("turn(0) of " + gaps, x.turn(0), turned[gaps]);
            due("its gaps", x.crate(0, 2), turned[gaps]);
            x.turn(0);
            x.turn(0);
            due("the fourth turn of " + gaps, x.turn(0), gaps);
        }
    }

    // ---- breakUp

    @Sentence("Breaks a crate up.")
    static void promise6BreakUpLeavesTheOthers() {
        SlatCrates x = read("As60r59g0[Bs20r19g0Cs9r8g0[Ds5r4g0Es3r2g0]]Fs2r1g0");
        due("breakUp(4)", x.breakUp(4), 15);
        due("the others", all(x), "As60r59g0[Bs20r19g0Cs9r8g0[Ds5r4g0]]Fs2r1g0");
        due("breakUp(3)", x.breakUp(3), 14);
        due("breakUp(2)", x.breakUp(2), 13);
        due("the others", all(x), "As60r59g0[Bs20r19g0]Fs2r1g0");
        due("the room that is left", x.crate(0, 8), 39);
        due("breakUp(2), which was 5", x.breakUp(2), 12);
        due("the others", all(x), "As60r59g0[Bs20r19g0]");
    }

    @Sentence("Breaks a crate up.")
    static void promise6BreakUpTheFirst() {
        SlatCrates x = read("Zs1r0g9ABs60r59g1[CDs20r19g2EFs9r8g3[GHs5r4g4]]IJs2r1g5");
        due("breakUp(0)", x.breakUp(0), 15);
        due("all that the others have", all(x), "ABs60r59g1[CDs20r19g2EFs9r8g3[GHs5r4g4]]IJs2r1g5");
        int[] places = {0, 0, 1, 0, 0};
        int[] holders = {NONE, 0, 0, 2, NONE};
        for (int crate = 0; crate < 5; crate++) {
            due("the place of " + crate, x.crate(crate, 9), places[crate]);
            due("the holder of " + crate, x.crate(crate, 4), holders[crate]);
        }
    }

    @Sentence("`crate`: its number")
    static void promise6CrateOutOfRange() {
        SlatCrates x = row12();
        for (int none : new int[] {MIN, -1, 12, 13, MAX}) {
            due("breakUp(" + none + ")", x.breakUp(none), INVALID);
        }
        due("breakUp of the last one", x.breakUp(11), 21);
        due("breakUp of what was the last one", x.breakUp(11), INVALID);
        due("breakUp of the first one", x.breakUp(0), 20);
        due("breakUp on an empty ground", new SlatCrates().breakUp(0), INVALID);
    }

    @Sentence("Returns 10 and how many crates are left")
    static void promise6Returns10AndHowManyAreLeft() {
        SlatCrates x = row12();
        for (int left = 11; left >= 0; left--) {
            due("breakUp(0)", x.breakUp(0), 10 + left);
        }
        due("breakUp of none", x.breakUp(0), INVALID);
        due("crates", x.count(0), 0);
        due("make the first one again", x.make(1, 0, 0, A), 0);
    }

    @Sentence("the reason, 1 or 5, if it is refused; INVALID_ARGUMENT.")
    static void promise6RefusedAndNothingBreaks() {
        SlatCrates x = read("As60r30g0[Bs20r19g0[Cs5r4g0]Ds9r8g0]");
        String before = all(x);
        due("below another, with a pile", x.breakUp(1), 1);
        due("on the ground, with a pile", x.breakUp(0), 5);
        due("no such crate", x.breakUp(4), INVALID);
        due("nothing breaks", all(x), before);
        due("refused", x.count(12), 2);
        due("states", x.count(14), 3);
    }
}
