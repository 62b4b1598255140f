/** A test for each sentence of the promises 7 to 11 that names a boundary case. */
public final class BoundariesTextsTest extends Asking {
    private BoundariesTextsTest() {
    }

    public static void main(String[] args) {
        Sentences.run(BoundariesTextsTest.class);
    }

    // ---- append

    @Sentence("Appends a character to the pad.")
    static void promise7AppendAtTheEnd() {
        SlatCrates x = new SlatCrates();
        write(x, "Bs1r0g");
        due("append the last one", x.append('9'), 7);
        due("load()", x.load(), 1);
        due("the crate", text(x, 0), "Bs1r0g9");
    }

    @Sentence("`code`: the character code, 33 to 126")
    static void promise7CodeTooSmallOrLarge() {
        SlatCrates x = new SlatCrates();
        for (int wrong : new int[] {MIN, -1, 0, 10, 31, 32, 127, 128, 255, 256 + 65, 65536 + 65, MAX}) {
            due("append(" + wrong + ")", x.append(wrong), INVALID);
        }
        due("the pad stays empty", x.count(13), 0);
        due("append(33)", x.append(33), 1);
        due("append(126)", x.append(126), 2);
        due("a code that no text has is no error", x.fault(), 0);
    }

    @Sentence("Returns the length of the pad then; INVALID_ARGUMENT;")
    static void promise7ReturnsLength1To80() {
        SlatCrates x = new SlatCrates();
        for (int length = 1; length <= 80; length++) {
            due("append a wrong one", x.append(32), INVALID);
            due("append", x.append(33), length);
        }
        due("append a wrong one to a full pad", x.append(32), INVALID);
    }

    @Sentence("LIMIT_REACHED if it has 80 characters.")
    static void promise7LimitOf80() {
        SlatCrates x = new SlatCrates();
        write(x, "As1r0g0".repeat(11));
        write(x, "AAA");
        due("append an 81st", x.append('A'), LIMIT);
        due("append an 81st again", x.append('A'), LIMIT);
        due("the length", x.count(13), 80);
        due("the fault, of what is complete but for three letters", x.fault(), 80);
        due("clear()", x.clear(), 80);
        due("append to the emptied pad", x.append('A'), 1);
    }

    // ---- clear

    @Sentence("Empties the pad.")
    static void promise8EmptiesThePad() {
        SlatCrates x = new SlatCrates();
        write(x, "!");
        due("fault()", x.fault(), 0);
        x.clear();
        due("the length", x.count(13), 0);
        write(x, "As1r0g0");
        due("nothing of the old one is left", x.fault(), NONE);
        due("load()", x.load(), 1);
        due("clear() is no change", x.count(14), 1);
    }

    @Sentence("Returns the length that it had.")
    static void promise8ReturnsLength0To80() {
        SlatCrates x = new SlatCrates();
        due("clear() of an empty pad", x.clear(), 0);
        write(x, "A");
        due("clear() of one", x.clear(), 1);
        due("clear() again", x.clear(), 0);
        write(x, "A".repeat(80));
        due("clear() of a full pad", x.clear(), 80);
        due("clear() again", x.clear(), 0);
    }

    // ---- fault

    @Sentence("Returns the fault of the pad.")
    static void promise9FaultChangesNothing() {
        SlatCrates x = new SlatCrates();
        due("of an empty pad", x.fault(), 0);
        write(x, "As1r");
        due("of one that is not complete", x.fault(), 4);
        due("again", x.fault(), 4);
        write(x, "0g0");
        due("of a complete one", x.fault(), NONE);
        due("again", x.fault(), NONE);
        write(x, "]");
        due("of a wrong one", x.fault(), 7);
        due("the pad stays", x.clear(), 8);
        due("no state", x.count(14), 0);
    }

    @Sentence("Returns the fault;")
    static void promise9FaultFrom0To80() {
        faultDue("", 0);
        faultDue("0", 0);
        faultDue("]", 0);
        faultDue("~".repeat(80), 0);
        faultDue("As1r0g0".repeat(11) + "AA~", 79);
        faultDue("As1r0g0".repeat(11) + "AAA", 80);
        faultDue("As1r0g0[".repeat(9) + "As1r0g0~", 79);
    }

    @Sentence("NOT_FOUND if it has none.")
    static void promise9NoFault() {
        faultDue("As1r0g0", NONE);
        faultDue("ZZZZs60r59g15", NONE);
        faultDue("As1r0g0".repeat(11), NONE);
        faultDue("As10r0g0".repeat(10), NONE);
        faultDue("As1r0g0[".repeat(8) + "As1r0g0" + "]".repeat(8), NONE);
        faultDue("As1r0g0[Bs1r0g0[Cs1r0g0]Ds1r0g0]Es1r0g0[Fs1r0g0]", NONE);
    }

    // ---- load

    @Sentence("Adds the crates of the pad, in the order in which their labels stand there, those outside standing on the ground")
    static void promise10OrderBehindThoseThatAreThere() {
        SlatCrates x = read("Xs9r8g0[Ys1r0g0]");
        write(x, "As50r49g0[Bs9r8g0[Cs8r7g0]Ds9r8g0]Es1r0g0");
        due("load()", x.load(), 7);
        due("the crates", all(x), "Xs9r8g0[Ys1r0g0]As50r49g0[Bs9r8g0[Cs8r7g0]Ds9r8g0]Es1r0g0");
        int[] holders = {NONE, 0, NONE, 2, 3, 2, NONE};
        int[] places = {0, 0, 0, 0, 0, 1, 0};
        for (int crate = 0; crate < 7; crate++) {
            due("the holder of " + crate, x.crate(crate, 4), holders[crate]);
            due("the place of " + crate, x.crate(crate, 9), places[crate]);
        }
        due("those that were there stay", x.letter(1, 0), 'Y' - 'A');
        due("the first one added", x.letter(2, 0), 0);
    }

    @Sentence("and empties the pad.")
    static void promise10EmptiesThePad() {
        SlatCrates x = read("As1r0g0");
        due("the pad", x.count(13), 0);
        due("its fault", x.fault(), 0);
        due("load() again", x.load(), NOT_POSSIBLE);
        due("undo() of the load", x.undo(), 0);
        due("the pad is not filled again", x.count(13), 0);
    }

    @Sentence("Returns how many crates there are then")
    static void promise10Returns1To12() {
        loadDue("As1r0g0", 1);
        loadDue("As1r0g0".repeat(11), 11);
        SlatCrates x = new SlatCrates();
        x.make(60, 59, 0, A);
        write(x, "As1r0g0".repeat(11));
        due("load of 11 to 1", x.load(), 12);
        due("crates", x.count(0), 12);
    }

    @Sentence("NOT_POSSIBLE if the pad has a fault")
    static void promise10Fault() {
        loadDue("", NOT_POSSIBLE);
        loadDue("As1r0g", NOT_POSSIBLE);
        loadDue("As1r0g0]", NOT_POSSIBLE);
        loadDue("As1r0g0A", NOT_POSSIBLE);
        loadDue("As9r8g0[As1r0g0", NOT_POSSIBLE);
        loadDue("As9r8g0[As1r0g0]!", NOT_POSSIBLE);
        SlatCrates x = read("As9r8g0");
        write(x, "As9r8g0[As1r0g0");
        due("load()", x.load(), NOT_POSSIBLE);
        due("nothing is added", x.count(0), 1);
        write(x, "]");
        due("load() of the pad that stayed, then complete", x.load(), 3);
    }

    @Sentence("or a room is not less than its size")
    static void promise10RoomNotLessThanItsSize() {
        loadDue("As5r4g0", 1);
        loadDue("As5r5g0", NOT_POSSIBLE);
        loadDue("As5r6g0", NOT_POSSIBLE);
        loadDue("As1r0g0", 1);
        loadDue("As1r1g0", NOT_POSSIBLE);
        loadDue("As60r59g0", 1);
        loadDue("As59r59g0", NOT_POSSIBLE);
        loadDue("As5r4g0Bs5r5g0", NOT_POSSIBLE);
        loadDue("As5r5g0Bs5r4g0", NOT_POSSIBLE);
        loadDue("As60r59g0[Bs5r4g0]", 2);
        loadDue("As60r59g0[Bs5r5g0]", NOT_POSSIBLE);
        loadDue("As60r59g0[Bs9r8g0[Cs5r4g0Ds1r1g0]]", NOT_POSSIBLE);
    }

    @Sentence("or a pile is greater than the room around it")
    static void promise10PileGreaterThanTheRoom() {
        loadDue("As60r5g0[Bs5r0g0]", 2);
        loadDue("As60r5g0[Bs6r0g0]", NOT_POSSIBLE);
        loadDue("As60r5g0[Bs2r0g0Cs3r0g0]", 3);
        loadDue("As60r5g0[Bs2r0g0Cs3r0g0Ds1r0g0]", NOT_POSSIBLE);
        loadDue("As60r5g0[Bs5r4g0[Cs4r0g0]]", 3);
        loadDue("As60r5g0[Bs5r4g0[Cs5r0g0]]", NOT_POSSIBLE);
        loadDue("As60r0g0[Bs1r0g0]", NOT_POSSIBLE);
        loadDue("As60r5g0Bs60r5g0[Cs6r0g0]", NOT_POSSIBLE);
        loadDue("As60r5g0[Bs6r0g0]Cs1r0g0", NOT_POSSIBLE);
        loadDue("As60r59g0[Bs58r57g0Cs1r0g0]", 3);
    }

    @Sentence("LIMIT_REACHED if there would be more than 12 crates.")
    static void promise10LimitOf12() {
        SlatCrates x = row12();
        write(x, "As1r0g0");
        due("load of 1 to 12", x.load(), LIMIT);
        due("the pad stays", x.count(13), 7);
        due("breakUp(11)", x.breakUp(11), 21);
        due("load of 1 to 11", x.load(), 12);
        SlatCrates y = new SlatCrates();
        y.make(1, 0, 0, A);
        y.make(1, 0, 0, A);
        write(y, "As1r0g0".repeat(11));
        due("load of 11 to 2", y.load(), LIMIT);
        due("nothing is added", y.count(0), 2);
        due("no state", y.count(14), 2);
        due("breakUp(1)", y.breakUp(1), 11);
        due("load of 11 to 1", y.load(), 12);
        SlatCrates deep = row12();
        deep.undo();
        write(deep, "As9r8g0[As1r0g0]");
        due("those that lie in others count", deep.load(), LIMIT);
    }

    // ---- sign

    @Sentence("Returns a character of a crate, written as a nest.")
    static void promise11SignsFromLeastToLongest() {
        SlatCrates x = new SlatCrates();
        StringBuilder want = new StringBuilder();
        for (int crate = 0; crate < 12; crate++) {
            x.make(60 - crate, 59 - crate, 15, ZZZZ);
            want.append("ZZZZs").append(60 - crate).append('r').append(59 - crate).append("g15");
            want.append(crate < 11 ? "[" : "]".repeat(11));
        }
        for (int crate = 11; crate > 0; crate--) {
            x.put(crate, crate - 1);
        }
        due("the longest one", text(x, 0), want.toString());
        due("only the innermost one", text(x, 11), "ZZZZs49r48g15");
        due("a wide one", text(wide12(), 0), "As12r11g15[" + "As1r0g0".repeat(11) + "]");
    }

    @Sentence("`crate`: its number")
    static void promise11CrateOutOfRange() {
        SlatCrates x = row12();
        for (int none : new int[] {MIN, -1, 12, 13, MAX}) {
            due("sign(" + none + ", 0)", x.sign(none, 0), INVALID);
        }
        due("sign(0, 0)", x.sign(0, 0), 'A');
        due("sign(11, 2)", x.sign(11, 2), '4');
        due("on an empty ground", new SlatCrates().sign(0, 0), INVALID);
    }

    @Sentence("`place`: from 0")
    static void promise11PlaceFrom0() {
        SlatCrates x = read("Qs1r0g0");
        due("sign(0, 0)", x.sign(0, 0), 'Q');
        due("sign(0, -1)", x.sign(0, -1), INVALID);
    }

    @Sentence("Returns its code;")
    static void promise11ReturnsCodes() {
        SlatCrates x = read("As60r59g15[Zs9r0g0]");
        String want = "As60r59g15[Zs9r0g0]";
        for (int place = 0; place < want.length(); place++) {
            due("sign(0, " + place + ")", x.sign(0, place), want.charAt(place));
        }
    }

    @Sentence("INVALID_ARGUMENT (also if place is below 0)")
    static void promise11PlaceBelow0() {
        SlatCrates x = read("As1r0g0");
        due("sign(0, -1)", x.sign(0, -1), INVALID);
        due("sign(0, MIN)", x.sign(0, MIN), INVALID);
        due("sign(1, -1)", x.sign(1, -1), INVALID);
        due("sign(1, 99)", x.sign(1, 99), INVALID);
    }

    @Sentence("NOT_FOUND if the text is not so long.")
    static void promise11BehindTheText() {
        SlatCrates x = read("As9r8g0[Bs1r0g0]Cs60r59g15");
        due("the last one of a nest", x.sign(0, 15), ']');
        due("behind it", x.sign(0, 16), NONE);
        due("the last one inside", x.sign(1, 6), '0');
        due("behind it, where the bracket stands outside", x.sign(1, 7), NONE);
        due("the last one of two digits", x.sign(2, 9), '5');
        due("behind it", x.sign(2, 10), NONE);
        due("far behind it", x.sign(2, MAX), NONE);
        due("behind the longest one", row12().sign(0, 180), NONE);
    }
}
