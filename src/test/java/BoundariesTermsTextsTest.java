/** A test for each sentence of "Terms" that names a boundary case: ways, nests, texts, changes and errors. */
public final class BoundariesTermsTextsTest extends Asking {
    private BoundariesTermsTextsTest() {
    }

    public static void main(String[] args) {
        Sentences.run(BoundariesTermsTextsTest.class);
    }

    // ---- ways to a crate

    @Sentence("To come to a crate, the crates around it are opened, from the outermost one to the innermost one")
    static void termsWaysOpened() {
        SlatCrates x = deep12();
        due("none for one on the ground", x.crate(0, 10), 0);
        due("one for one in it", x.crate(1, 10), 1);
        due("eleven for the innermost one", x.crate(11, 10), 11);
        due("all of them for all", x.count(11), 66);
    }

    @Sentence("and in each pile the crates above the one on the way (and at last above the crate itself) are moved aside.")
    static void termsWaysMoved() {
        SlatCrates x = wide12();
        due("none above the topmost one", x.crate(11, 10), 1);
        due("one above the next one", x.crate(10, 10), 2);
        due("ten above the lowest one", x.crate(1, 10), 11);
        SlatCrates row = row12();
        due("none on the ground", row.count(11), 0);
        SlatCrates y = read("As60r59g0[Bs20r19g0[Cs9r8g0Ds3r2g0]Es5r4g0Fs5r4g0]");
        due("those above the one on the way, and those above itself", y.crate(2, 10), 2 + 2 + 1);
        due("only those above the one on the way", y.crate(3, 10), 2 + 2);
        due("those below are not moved", y.crate(5, 10), 1);
    }

    @Sentence("The effort is how many crates are opened and how many are moved, together.")
    static void termsWaysEffort() {
        SlatCrates x = read("As60r59g0[Bs20r19g0[Cs9r8g0Ds3r2g0]Es5r4g0Fs5r4g0]");
        int[] efforts = {0, 3, 5, 4, 2, 1};
        for (int crate = 0; crate < 6; crate++) {
            due("the effort to come to " + crate, x.crate(crate, 10), efforts[crate]);
        }
        due("all together", x.count(11), 15);
        due("a crate with a load moves as one", read("As60r59g0[Bs5r4g0Cs20r19g0[Ds3r2g0]]").crate(1, 10), 2);
    }

    // ---- nests of loose crates

    @Sentence("A crate is loose, if it stands on the ground and has an empty pile.")
    static void termsNestsLoose() {
        due("none", new SlatCrates().count(2), 0);
        due("all twelve", row12().count(2), 12);
        due("none of a nest", deep12().count(2), 0);
        SlatCrates x = read("As60r59g0[Bs20r19g0]Cs5r4g0");
        due("only the one that neither holds nor lies", x.count(2), 1);
        x.ground(1);
        due("all, when nothing lies in another one", x.count(2), 3);
    }

    @Sentence("A nest of loose crates is a row of them, in which each next one has at most the size of the room of the one before.")
    static void termsNestsSizeAtMostRoom() {
        due("a size as great as the room", read("As9r5g0Bs5r0g0").count(10), 2);
        due("a size 1 greater", read("As9r5g0Bs6r0g0").count(10), 1);
        due("the least one and no room", read("As9r0g0Bs1r0g0").count(10), 1);
        due("the least one and the least room", read("As2r1g0Bs1r0g0").count(10), 2);
    }

    @Sentence("The longest nest is the one with the most crates")
    static void termsNestsMostCrates() {
        due("no crates", new SlatCrates().count(10), 0);
        due("all twelve", row12().count(10), 12);
        SlatCrates x = read("As60r5g0Bs5r4g0Cs40r30g0Ds30r20g0Es20r4g0");
        due("the three without the greatest one", x.count(10), 3);
        due("its first one", x.nest(0), 2);
        SlatCrates y = read("As60r50g0Bs50r0g0Cs40r30g0Ds20r1g0");
        due("not by the greatest one that fits", y.count(10), 3);
        due("its second one", y.nest(1), 2);
    }

    @Sentence("of several the one whose first crate has the lowest number")
    static void termsNestsLowestFirst() {
        SlatCrates x = read("As1r0g0Bs50r40g0Cs60r59g0");
        due("count(10)", x.count(10), 3);
        due("only one has three", x.nest(0), 2);
        SlatCrates y = read("As1r0g0Bs50r40g0Cs60r40g0");
        due("the lower one of two that have two", y.nest(0), 1);
        due("of single ones the lowest", read("As9r0g0Bs60r0g0").nest(0), 0);
    }

    @Sentence("of these the one whose second one has, and so on.")
    static void termsNestsLowestNext() {
        SlatCrates x = read("As1r0g0Bs2r1g0Cs1r0g0Ds2r1g0Es9r8g0Fs9r8g0");
        int[] nest = {4, 1, 0};
        for (int place = 0; place < 3; place++) {
            due("nest(" + place + ")", x.nest(place), nest[place]);
        }
        SlatCrates y = read("As7r0g0Bs9r8g0Cs5r4g0Ds8r7g0");
        due("one that would end the nest too soon is not taken", y.nest(1), 3);
        due("then the lowest one", y.nest(2), 0);
    }

    @Sentence("A crate, whether it is the topmost one of its pile or not, fits best into that crate")
    static void termsNestsFitsBestFromBelow() {
        SlatCrates x = read("As60r59g0[Bs5r4g0Cs4r3g0]Ds9r8g0");
        due("the lowest one of its pile", x.crate(1, 13), 3);
        due("the topmost one", x.crate(2, 13), 1);
    }

    @Sentence("(not itself, not of its load, not the one in which it lies)")
    static void termsNestsFitsNotIntoThese() {
        due("not itself", read("As9r8g0").crate(0, 13), NONE);
        due("not the one in which it lies", read("As9r8g0[Bs1r0g0]").crate(1, 13), NONE);
        due("not of its load", read("As9r8g0[Bs8r7g0[Cs7r6g0]]").crate(0, 13), NONE);
        due("but one farther around", read("As60r59g0[Bs20r9g0[Cs5r4g0]]").crate(2, 13), 0);
        due("and one beside it", read("As60r59g0[Bs20r9g0Cs5r4g0]").crate(2, 13), 1);
    }

    @Sentence("with enough room left")
    static void termsNestsFitsWithEnoughRoom() {
        due("just enough", read("As9r5g0Bs5r0g0").crate(1, 13), 0);
        due("1 too little", read("As9r4g0Bs5r0g0").crate(1, 13), NONE);
        due("just enough of what is left", read("As60r30g0[Bs20r0g0]Cs10r0g0").crate(2, 13), 0);
        due("1 too little of what is left", read("As60r29g0[Bs20r0g0]Cs10r0g0").crate(2, 13), NONE);
        due("the least one into the greatest one", read("As60r59g0Bs1r0g0").crate(1, 13), 0);
    }

    @Sentence("which would have the least room left then")
    static void termsNestsFitsLeastRoom() {
        SlatCrates x = read("As60r59g0Bs50r6g0Cs50r5g0Ds5r0g0");
        due("the one that it would fill", x.crate(3, 13), 2);
        due("put(3, 2)", x.put(3, 2), 11);
        due("the next one then", x.crate(3, 13), 1);
        SlatCrates y = read("As60r59g0[Bs50r0g0]Cs20r10g0Ds5r0g0");
        due("room that is taken does not count", y.crate(3, 13), 0);
    }

    @Sentence("of several the lowest.")
    static void termsNestsFitsLowest() {
        due("the lowest of three", read("Ks5r0g0As9r6g0Bs9r6g0Cs9r6g0").crate(0, 13), 1);
        due("with greater and lesser numbers", read("As9r6g0Ks5r0g0Bs9r6g0").crate(1, 13), 0);
    }

    // ---- texts

    @Sentence("There is a pad of at most 80 characters, initially empty.")
    static void termsTextsPadOf80() {
        SlatCrates x = new SlatCrates();
        due("initially", x.count(13), 0);
        write(x, "A".repeat(80));
        due("full", x.count(13), 80);
        due("append an 81st", x.append('A'), LIMIT);
        due("still full", x.count(13), 80);
    }

    @Sentence("A nest is written as: the label, \"s\" and the size, \"r\" and the room, \"g\" and the gaps")
    static void termsTextsShortestAndLongest() {
        SlatCrates x = new SlatCrates();
        x.make(1, 0, 0, A);
        x.make(60, 59, 15, ZZZZ);
        due("the shortest nest", text(x, 0), "As1r0g0");
        due("the longest nest of one crate", text(x, 1), "ZZZZs60r59g15");
        loadDue("As1r0g0", 1);
        loadDue("ZZZZs60r59g15", 1);
        faultDue("s1r0g0", 0);
        faultDue("AAAAAs1r0g0", 4);
        faultDue("A1r0g0", 1);
        faultDue("As1g0", 3);
        faultDue("As1r0[", 5);
        faultDue("Asr0g0", 2);
        faultDue("As1rg0", 4);
        faultDue("As1r0g[", 6);
        faultDue("As1r0gA", 6);
        faultDue("as1r0g0", 0);
        faultDue("AS1r0g0", 2);
    }

    @Sentence("(each a number without a needless 0 ahead)")
    static void termsTextsNoNeedless0() {
        faultDue("As01r0g0", 2);
        faultDue("As5r00g0", 5);
        faultDue("As5r04g0", 5);
        faultDue("As5r4g00", 7);
        faultDue("As5r4g01", 7);
        faultDue("As10r0g0", NONE);
        faultDue("As20r10g10", NONE);
        SlatCrates x = read("As9r0g0As10r9g9As11r10g10");
        due("one digit and a needed 0", text(x, 0), "As9r0g0");
        due("the greatest of one digit", text(x, 1), "As10r9g9");
        due("the least of two digits", text(x, 2), "As11r10g10");
    }

    @Sentence("and, if its pile is not empty, \"[\", the nests of its pile from the bottom to the top, one behind the other, and \"]\".")
    static void termsTextsPileInBrackets() {
        due("an empty pile", text(read("As9r8g0"), 0), "As9r8g0");
        due("a pile of one", text(read("As9r8g0[Bs1r0g0]"), 0), "As9r8g0[Bs1r0g0]");
        SlatCrates x = read("As9r8g0Bs1r0g0Cs1r0g0");
        x.put(2, 0);
        x.put(1, 0);
        due("from the bottom to the top, not by number", text(x, 0), "As9r8g0[Cs1r0g0Bs1r0g0]");
        faultDue("As9r8g0[]", 8);
        faultDue("As9r8g0[Bs1r0g0][", 16);
        faultDue("As9r8g0[Bs1r0g0]]", 16);
        faultDue("As9r8g0]", 7);
        faultDue("[As9r8g0]", 0);
    }

    @Sentence("Read as crates, the pad is one or more nests, one behind the other.")
    static void termsTextsOneOrMoreNests() {
        loadDue("", NOT_POSSIBLE);
        loadDue("As1r0g0", 1);
        loadDue("As1r0g0Bs1r0g0", 2);
        loadDue("As9r8g0[Bs1r0g0]Cs1r0g0", 3);
        loadDue("As1r0g0".repeat(11), 11);
    }

    @Sentence("The fault of the pad is the position, from 0, of the first character that is wrong")
    static void termsTextsFirstWrongCharacter() {
        faultDue("!", 0);
        faultDue("!!", 0);
        faultDue("A!!", 1);
        faultDue("As1r0g0!s1r0g0", 7);
        faultDue("ABCs10r10g1".repeat(7) + "AB!", 79);
    }

    @Sentence("no text of nests, of any length, begins with the characters before it and this character")
    static void termsTextsBeginningsOfAnyLength() {
        faultDue("As1r0g0[".repeat(10), 80);
        faultDue("As1r0g0".repeat(11) + "As1", 80);
        faultDue("As1r0g0".repeat(11) + "As0", 79);
        faultDue("As9r8g0[".repeat(9) + "As1r0g0]", 80);
        faultDue("As6", 3);
        faultDue("As6r5", 5);
        faultDue("As6r5g1", NONE);
        faultDue("As6r5g15", NONE);
    }

    @Sentence("(whether sizes fit rooms does not matter;")
    static void termsTextsFitDoesNotMatter() {
        faultDue("As1r59g0", NONE);
        faultDue("As5r5g0", NONE);
        faultDue("As1r0g0[Bs60r0g0]", NONE);
        faultDue("As1r0g0[Bs60r59g0[Cs60r59g0]Ds60r59g0]", NONE);
    }

    @Sentence("a size is 1 to 60")
    static void termsTextsSizeTooSmallOrLarge() {
        faultDue("As0r0g0", 2);
        faultDue("As1r0g0", NONE);
        faultDue("As59r0g0", NONE);
        faultDue("As60r0g0", NONE);
        faultDue("As61r0g0", 3);
        faultDue("As69r0g0", 3);
        faultDue("As70r0g0", 3);
        faultDue("As99r0g0", 3);
        faultDue("As100r0g0", 4);
        faultDue("As600r0g0", 4);
        faultDue("As-1r0g0", 2);
    }

    @Sentence("a room 0 to 59")
    static void termsTextsRoomTooSmallOrLarge() {
        faultDue("As1r0g0", NONE);
        faultDue("As1r1g0", NONE);
        faultDue("As1r58g0", NONE);
        faultDue("As1r59g0", NONE);
        faultDue("As1r60g0", 5);
        faultDue("As1r61g0", 5);
        faultDue("As1r99g0", 5);
        faultDue("As1r100g0", 6);
        faultDue("As1r590g0", 6);
        faultDue("As1r-1g0", 4);
    }

    @Sentence("gaps are 0 to 15)")
    static void termsTextsGapsTooSmallOrLarge() {
        faultDue("As1r0g0", NONE);
        faultDue("As1r0g9", NONE);
        faultDue("As1r0g10", NONE);
        faultDue("As1r0g15", NONE);
        faultDue("As1r0g16", 7);
        faultDue("As1r0g19", 7);
        faultDue("As1r0g20", 7);
        faultDue("As1r0g99", 7);
        faultDue("As1r0g100", 8);
        faultDue("As1r0g150", 8);
        faultDue("As1r0g-1", 6);
    }

    @Sentence("if there is none, and the pad is not complete (also if it is empty), the length of the pad.")
    static void termsTextsNotComplete() {
        String text = "Bs60r59g15[Cs1r0g0]D";
        int[] complete = {9, 10, 19};
        for (int length = 0; length <= text.length(); length++) {
            int want = length;
            for (int end : complete) {
                want = length == end ? NONE : want;
            }
            faultDue(text.substring(0, length), want);
        }
        faultDue("A".repeat(4), 4);
        faultDue("As1r0g0[As1r0g0", 15);
    }

    // ---- changes and errors

    @Sentence("The changes are the calls of make, put, ground, turn, breakUp, load and restore that return no error")
    static void termsChangesEachIsOneState() {
        SlatCrates x = new SlatCrates();
        x.save();
        x.make(9, 8, 0, A);
        due("make", x.count(14), 1);
        x.turn(0);
        due("turn", x.count(14), 2);
        write(x, "As60r59g0");
        x.load();
        due("load", x.count(14), 3);
        x.put(0, 1);
        due("put", x.count(14), 4);
        x.undo();
        x.undo();
        x.undo();
        x.restore();
        due("restore", x.count(14), 2);
        SlatCrates y = read("As60r59g0[Bs1r0g0]");
        y.ground(1);
        due("ground", y.count(14), 2);
        y.breakUp(1);
        due("breakUp", y.count(14), 3);
    }

    @Sentence("The changes are the calls of make, put, ground, turn, breakUp, load and restore that return no error")
    static void termsChangesNoOtherCallIsOne() {
        SlatCrates x = read("As60r59g0[Bs1r0g0]");
        x.append('A');
        x.fault();
        x.clear();
        x.save();
        x.sign(0, 0);
        x.crate(1, 14);
        x.letter(0, 0);
        x.seen(0, 0);
        x.whyNot(0, 1);
        x.effort(1, 1);
        x.alike(ANY, ANY, ANY, ANY);
        x.nest(0);
        x.full();
        x.ifTurned(0, 0);
        x.bestTurn();
        due("states", x.count(14), 1);
    }

    @Sentence("The changes are the calls of make, put, ground, turn, breakUp, load and restore that return no error")
    static void termsChangesNoErrorIsOne() {
        SlatCrates x = new SlatCrates();
        due("make", x.make(0, 0, 0, A), INVALID);
        due("put", x.put(0, 0), INVALID);
        due("ground", x.ground(0), INVALID);
        due("turn", x.turn(0), INVALID);
        due("breakUp", x.breakUp(0), INVALID);
        due("load", x.load(), NOT_POSSIBLE);
        due("restore", x.restore(), NOT_POSSIBLE);
        due("undo", x.undo(), NOT_POSSIBLE);
        due("states", x.count(14), 0);
        due("refused", x.count(12), 0);
        SlatCrates full = row12();
        full.undo();
        full.make(1, 0, 0, A);
        full.undo();
        due("undo()", full.undo(), 2);
        due("make an 11th", full.make(1, 0, 0, A), 10);
        due("make a 12th", full.make(1, 0, 0, A), 11);
        due("make a 13th", full.make(1, 0, 0, A), LIMIT);
        due("states", full.count(14), 4);
        due("undo()", full.undo(), 3);
        due("crates", full.count(0), 11);
    }

    @Sentence("what is refused by a reason is one, too (it is counted).")
    static void termsChangesRefusedIsOne() {
        SlatCrates x = read("As60r5g0[Bs2r1g0Cs3r2g0]");
        due("put, reason 1", x.put(1, 0), 1);
        due("states", x.count(14), 2);
        due("put, reason 2", x.put(0, 0), 2);
        due("states", x.count(14), 3);
        due("ground, reason 4", x.ground(0), 4);
        due("states", x.count(14), 4);
        due("refused", x.count(12), 3);
        due("breakUp, reason 5", x.breakUp(0), 5);
        due("breakUp, reason 1", x.breakUp(1), 1);
        due("ground, reason 1", x.ground(1), 1);
        due("put, reason 3", x.put(2, 1), 3);
        due("refused", x.count(12), 7);
        due("undo of a refusal", x.undo(), 3);
        due("it is not counted any more", x.count(12), 6);
        due("whyNot is not a deed", x.whyNot(1, 0), 1);
        due("nor is crate 14", x.crate(1, 14), 1);
        due("refused", x.count(12), 6);
    }

    @Sentence("A history of at most 4 states is kept")
    static void termsChangesAtMost4States() {
        SlatCrates x = new SlatCrates();
        due("none", x.count(14), 0);
        for (int change = 1; change <= 9; change++) {
            x.make(change, 0, 0, A);
            due("states after " + change, x.count(14), change < 4 ? change : 4);
        }
    }

    @Sentence("each change records everything before it but the pad and the snapshot")
    static void termsChangesRecordEverythingBefore() {
        SlatCrates x = read("As60r59g1[Bs20r9g2Cs5r4g3]");
        x.put(0, 0);
        String before = looks(x);
        write(x, "As");
        x.breakUp(2);
        due("save()", x.save(), 2);
        due("undo()", x.undo(), 2);
        due("the pad is not recorded", x.clear(), 2);
        due("all else is", looks(x), before);
        due("the snapshot is not recorded", x.restore(), 2);
    }

    @Sentence("(also if nothing is different then)")
    static void termsChangesRecordNoDifference() {
        SlatCrates x = read("As60r59g15[Bs20r9g0]");
        due("put again into the same one", x.put(1, 0), 11);
        due("states", x.count(14), 2);
        due("turn of all gaps", x.turn(0), 15);
        due("states", x.count(14), 3);
        due("turn of no gap", x.turn(1), 0);
        due("states", x.count(14), 4);
        SlatCrates y = new SlatCrates();
        y.save();
        due("restore of what is there", y.restore(), 0);
        due("states", y.count(14), 1);
    }

    @Sentence("and if there are 5 states then, the oldest one is dropped.")
    static void termsChangesDropTheOldest() {
        SlatCrates x = new SlatCrates();
        for (int change = 1; change <= 5; change++) {
            x.make(change, 0, 0, A);
        }
        for (int left = 3; left >= 0; left--) {
            due("undo()", x.undo(), left);
            due("crates", x.count(0), 1 + left);
        }
        due("the first state is gone", x.undo(), NOT_POSSIBLE);
        due("crates", x.count(0), 1);
        SlatCrates four = new SlatCrates();
        for (int change = 1; change <= 4; change++) {
            four.make(change, 0, 0, A);
        }
        for (int left = 3; left >= 0; left--) {
            due("undo()", four.undo(), left);
        }
        due("with 4 the first state is kept", four.count(0), 0);
    }

    /** A nest, a refusal, a snapshot that differs from it, and a pad that can be loaded. */
    private static SlatCrates busy() {
        SlatCrates x = read("As60r59g1[Bs20r9g2Cs5r4g8]Ds9r8g3");
        x.save();
        x.turn(0);
        x.put(1, 3);
        write(x, "Es3r2g1");
        return x;
    }

    /** The history, the snapshot and the pad are looked at by using them. */
    private static void untouchedDue(SlatCrates x) {
        SlatCrates twin = busy();
        due("all is as before", looks(x), looks(twin));
        due("undo()", x.undo(), twin.undo());
        due("the state before the last one", looks(x), looks(twin));
        due("load()", x.load(), twin.load());
        due("the crates of the pad", all(x), all(twin));
        due("restore()", x.restore(), twin.restore());
        due("the snapshot", looks(x), looks(twin));
    }

    @Sentence("Ahead of the calls `crate`, `letter`, `seen`, `whyNot`, `effort`, `alike`, `nest`, `count`, `full` the interface says: ---- looks; nothing is changed.")
    static void termsChangesLooksChangeNothing() {
        SlatCrates x = busy();
        for (int crate = 0; crate < 4; crate++) {
            for (int what = 0; what <= 14; what++) {
                x.crate(crate, what);
            }
            for (int place = 0; place < 4; place++) {
                x.letter(crate, place);
                x.seen(crate, place);
                x.whyNot(crate, place);
            }
            x.nest(crate);
            x.effort(20, crate);
        }
        for (int what = 0; what <= 14; what++) {
            x.count(what);
        }
        x.alike(ANY, HIDDEN, BARE, ANY);
        x.full();
        untouchedDue(x);
    }

    @Sentence("Ahead of the calls `ifTurned`, `bestTurn` the interface says: ---- what would be; nothing is changed.")
    static void termsChangesWhatWouldBeChangesNothing() {
        SlatCrates x = busy();
        for (int crate = 0; crate < 4; crate++) {
            x.ifTurned(crate, 0);
            x.ifTurned(crate, 1);
        }
        due("bestTurn()", x.bestTurn(), 0);
        untouchedDue(x);
    }

    @Sentence("If several errors apply to a call, INVALID_ARGUMENT is returned rather than NOT_POSSIBLE, NOT_POSSIBLE rather than LIMIT_REACHED, and LIMIT_REACHED rather than NOT_FOUND.")
    static void termsChangesOrderOfErrors() {
        SlatCrates x = row12();
        due("make: an argument ahead of the limit", x.make(61, 0, 0, A), INVALID);
        write(x, "As5r5g0");
        due("load: not possible ahead of the limit", x.load(), NOT_POSSIBLE);
        x.clear();
        write(x, "A".repeat(80));
        due("load: a fault ahead of the limit", x.load(), NOT_POSSIBLE);
        due("append: an argument ahead of the limit", x.append(127), INVALID);
        due("letter: an argument ahead of what is not found", x.letter(0, 4), INVALID);
        due("sign: an argument ahead of what is not found", x.sign(12, MAX), INVALID);
        due("crate: an argument ahead of what is not found", x.crate(12, 4), INVALID);
    }

    @Sentence("If there is no crate of a certain number, this is INVALID_ARGUMENT.")
    static void termsChangesNoSuchCrate() {
        SlatCrates x = read("As60r59g1[Bs20r9g2]Cs5r4g3");
        for (int none : noCratesOf(3)) {
            due("put(" + none + ", 0)", x.put(none, 0), INVALID);
            due("put(1, " + none + ")", x.put(1, none), INVALID);
            due("ground(" + none + ")", x.ground(none), INVALID);
            due("turn(" + none + ")", x.turn(none), INVALID);
            due("breakUp(" + none + ")", x.breakUp(none), INVALID);
            due("sign(" + none + ", 0)", x.sign(none, 0), INVALID);
            due("crate(" + none + ", 0)", x.crate(none, 0), INVALID);
            due("letter(" + none + ", 0)", x.letter(none, 0), INVALID);
            due("seen(" + none + ", 0)", x.seen(none, 0), INVALID);
            due("whyNot(" + none + ", 0)", x.whyNot(none, 0), INVALID);
            due("whyNot(1, " + none + ")", x.whyNot(1, none), INVALID);
            due("ifTurned(" + none + ", 0)", x.ifTurned(none, 0), INVALID);
        }
        due("turn of the last one", x.turn(2), 6);
    }

    @Sentence("A call that returns an error changes nothing (the pad stays, too).")
    static void termsChangesErrorsChangeNothing() {
        SlatCrates x = read("As60r59g1[Bs20r9g2]Cs5r4g3");
        x.put(0, 0);
        write(x, "As5r5g0");
        String before = looks(x);
        due("make", x.make(5, 5, 0, A), INVALID);
        due("put", x.put(2, 3), INVALID);
        due("put", x.put(3, 2), INVALID);
        due("ground", x.ground(-1), INVALID);
        due("turn", x.turn(3), INVALID);
        due("breakUp", x.breakUp(3), INVALID);
        due("append", x.append(32), INVALID);
        due("load", x.load(), NOT_POSSIBLE);
        due("restore", x.restore(), NOT_POSSIBLE);
        due("all is as before", looks(x), before);
        due("the pad stays", x.clear(), 7);
    }

    @Sentence("A call that returns an error changes nothing (the pad stays, too).")
    static void termsChangesLimitsChangeNothing() {
        SlatCrates x = row12();
        write(x, "Ks9r8g7");
        String before = looks(x);
        due("make", x.make(5, 4, 0, A), LIMIT);
        due("load", x.load(), LIMIT);
        due("all is as before", looks(x), before);
        due("breakUp(11)", x.breakUp(11), 21);
        due("the same pad can be loaded then", x.load(), 12);
        due("its crate", text(x, 11), "Ks9r8g7");
    }

    @Sentence("Letters are told as numbers, 0 to 25 for A to Z.")
    static void termsChangesLettersAsNumbers() {
        for (int letter = 0; letter <= 25; letter++) {
            SlatCrates x = new SlatCrates();
            x.make(1, 0, 0, letter + 1);
            due("letter", x.letter(0, 0), letter);
            due("seen", x.seen(0, 0), letter);
            due("alike", x.alike(letter, ANY, ANY, ANY), 1);
            due("sign", x.sign(0, 0), 'A' + letter);
        }
    }

    @Sentence("`INVALID_ARGUMENT = -1`: An argument is out of its range, or there is no such crate.")
    static void termsChangesInvalidArgument() {
        due("INVALID_ARGUMENT", SlatCrates.INVALID_ARGUMENT, -1);
        due("out of its range", new SlatCrates().count(15), -1);
        due("no such crate", new SlatCrates().turn(0), -1);
    }

    @Sentence("`NOT_POSSIBLE = -2`: The call is not possible in the present state.")
    static void termsChangesNotPossible() {
        due("NOT_POSSIBLE", SlatCrates.NOT_POSSIBLE, -2);
        due("undo() of nothing", new SlatCrates().undo(), -2);
    }

    @Sentence("`LIMIT_REACHED = -3`: A fixed limit has been reached.")
    static void termsChangesLimitReached() {
        due("LIMIT_REACHED", SlatCrates.LIMIT_REACHED, -3);
        due("make a 13th", row12().make(1, 0, 0, A), -3);
    }

    @Sentence("`NOT_FOUND = -4`: There is no such value.")
    static void termsChangesNotFound() {
        due("NOT_FOUND", SlatCrates.NOT_FOUND, -4);
        due("bestTurn() without crates", new SlatCrates().bestTurn(), -4);
    }
}
