/** A test for each sentence of "Terms" (and of "What it is") that names a boundary case: crates, deeds, reading. */
public final class BoundariesTermsTest extends Asking {
    private BoundariesTermsTest() {
    }

    public static void main(String[] args) {
        Sentences.run(BoundariesTermsTest.class);
    }

    @Sentence("An object is used for at most 512 calls after it has been made")
    static void whatItIsCall512() {
        SlatCrates x = new SlatCrates();
        x.make(60, 59, 1, A);
        for (int call = 2; call <= 511; call++) {
            due("call " + call + ": turn(0)", x.turn(0), 1 << (call - 1) % 4);
        }
        due("call 512: undo()", x.undo(), 3);
    }

    // ---- crates

    @Sentence("There are at most 12 crates")
    static void termsCratesAtMost12() {
        SlatCrates x = row12();
        due("make a 13th", x.make(5, 4, 3, A), LIMIT);
        write(x, "As1r0g0");
        due("load a 13th", x.load(), LIMIT);
        due("crates", x.count(0), 12);
        due("the one before the last is there", x.crate(10, 0), 50);
        due("the last one is there", x.crate(11, 0), 49);
        due("none behind it", x.crate(12, 0), INVALID);
    }

    @Sentence("numbered from 0 in the order in which they came")
    static void termsCratesNumberedFrom0() {
        SlatCrates x = new SlatCrates();
        due("the first", x.make(9, 8, 0, A), 0);
        due("the second", x.make(7, 6, 0, A), 1);
        write(x, "As5r4g0[As3r2g0]");
        due("load()", x.load(), 4);
        int[] sizes = {9, 7, 5, 3};
        for (int crate = 0; crate < 4; crate++) {
            due("the size of " + crate, x.crate(crate, 0), sizes[crate]);
        }
    }

    @Sentence("numbered from 0 in the order in which they came")
    static void termsCratesTheFirstInnermost() {
        SlatCrates x = new SlatCrates();
        for (int crate = 0; crate < 12; crate++) {
            due("make", x.make(49 + crate, 48 + crate, 15, A), crate);
        }
        for (int crate = 0; crate < 11; crate++) {
            due("put into the one that came next", x.put(crate, crate + 1), 11);
        }
        int[] want = {49, 48, 15, 1, 1, 11, 0, 0, 48, 0, 11, 1, 1, NONE, 0};
        for (int what = 0; what < want.length; what++) {
            due("crate(0, " + what + ")", x.crate(0, what), want[what]);
        }
        due("the greatest depth", x.count(3), 11);
        due("the pile of 1", x.crate(1, 6), 1);
        due("the load of 11", x.crate(11, 7), 11);
        due("the room left in 1", x.crate(1, 8), 0);
        due("the room left in all", x.count(5), 48);
        due("the efforts", x.count(11), 66);
        due("effort(49, 0)", x.effort(49, 0), 11);
        due("effort(49, 1)", x.effort(49, 1), 11);
        due("full()", x.full(), 594.0 / 642.0);
        due("the nest of 1", text(x, 1), "As50r49g15[As49r48g15]");
        due("breakUp(0)", x.breakUp(0), 21);
        due("the next one is the first then", x.crate(0, 10), 10);
    }

    @Sentence("(when one is broken, those with greater numbers get numbers that are 1 less)")
    static void termsCratesBreakTheFirst() {
        SlatCrates x = row12();
        due("put(11, 10)", x.put(11, 10), 11);
        due("breakUp(0)", x.breakUp(0), 21);
        for (int crate = 0; crate < 11; crate++) {
            due("the size of " + crate, x.crate(crate, 0), 59 - crate);
        }
        due("the holder of the last", x.crate(10, 4), 9);
        due("the number 11", x.crate(11, 0), INVALID);
        due("the next one made", x.make(1, 0, 0, A), 11);
    }

    @Sentence("(when one is broken, those with greater numbers get numbers that are 1 less)")
    static void termsCratesBreakTheLast() {
        SlatCrates x = row12();
        due("put(10, 9)", x.put(10, 9), 11);
        due("breakUp(11)", x.breakUp(11), 21);
        for (int crate = 0; crate < 11; crate++) {
            due("the size of " + crate, x.crate(crate, 0), 60 - crate);
        }
        due("the holder of 10", x.crate(10, 4), 9);
    }

    @Sentence("(when one is broken, those with greater numbers get numbers that are 1 less)")
    static void termsCratesBreakBetweenHolders() {
        SlatCrates x = new SlatCrates();
        x.make(9, 8, 0, A);
        x.make(2, 1, 0, A);
        x.make(10, 9, 0, A);
        x.make(3, 2, 0, A);
        x.make(4, 3, 0, A);
        due("put(3, 0)", x.put(3, 0), 11);
        due("put(4, 2)", x.put(4, 2), 11);
        due("breakUp(1)", x.breakUp(1), 14);
        due("a holder with a lesser number stays", x.crate(2, 4), 0);
        due("a holder with a greater number gets 1 less", x.crate(3, 4), 1);
        due("the size of that holder", x.crate(1, 0), 10);
        SlatCrates first = read("As1r0g0Bs2r1g0Cs9r8g0");
        due("put(0, 2)", first.put(0, 2), 11);
        due("breakUp(1)", first.breakUp(1), 12);
        due("the holder of the first one gets 1 less", first.crate(0, 4), 1);
        due("the nest", all(first), "Cs9r8g0[As1r0g0]");
    }

    @Sentence("A crate has a size, 1 to 60, a room, 0 to its size less 1")
    static void termsCratesLeastAndGreatest() {
        SlatCrates x = new SlatCrates();
        due("the least crate", x.make(1, 0, 0, A), 0);
        due("the greatest crate", x.make(60, 59, 0, A), 1);
        due("a great one without room", x.make(60, 0, 0, A), 2);
        due("the least room of one, which is its greatest", x.make(1, 1, 0, A), INVALID);
        due("put the least one", x.put(0, 1), 11);
        due("put into one without room", x.put(0, 2), 3);
    }

    @Sentence("gaps, a set of the places 0 to 3 told as bits (the place p counts 2 to the power of p; 0 to 15)")
    static void termsCratesGapsAsBits() {
        String[] seen = {"????", "A???", "?B??", "AB??", "??C?", "A?C?", "?BC?", "ABC?",
            "???D", "A??D", "?B?D", "AB?D", "??CD", "A?CD", "?BCD", "ABCD"};
        for (int gaps = 0; gaps <= 15; gaps++) {
            SlatCrates x = read("As9r8g" + gaps + "[ABCDs1r0g0]");
            due("seen through the gaps " + gaps, signs(x, 1), seen[gaps]);
        }
    }

    @Sentence("and a label of 1 to 4 letters A to Z, whose places are 0, 1 and so on from the left")
    static void termsCratesLabelOf1To4Letters() {
        SlatCrates x = read("As1r0g0ZYXWs1r0g0");
        due("letters of the shortest", x.crate(0, 3), 1);
        due("letters of the longest", x.crate(1, 3), 4);
        due("its first letter", x.letter(1, 0), 25);
        due("its second letter", x.letter(1, 1), 24);
        due("its third letter", x.letter(1, 2), 23);
        due("its last letter", x.letter(1, 3), 22);
    }

    @Sentence("A crate stands on the ground, or lies directly in another crate.")
    static void termsCratesLiesDirectly() {
        SlatCrates x = deep12();
        due("the outermost one lies in none", x.crate(0, 4), NONE);
        due("the innermost one lies in the one before, not in the outermost one", x.crate(11, 4), 10);
        due("only one stands on the ground", x.count(1), 1);
    }

    @Sentence("The crates that lie directly in a crate are its pile, from the bottom to the top")
    static void termsCratesPileFromTheBottom() {
        SlatCrates x = wide12();
        due("the pile", x.crate(0, 6), 11);
        for (int crate = 1; crate < 12; crate++) {
            due("the place of " + crate, x.crate(crate, 9), crate - 1);
            due("the empty pile of " + crate, x.crate(crate, 6), 0);
        }
        due("those in the pile of the pile are not in it", deep12().crate(0, 6), 1);
    }

    @Sentence("those on the ground are in no pile")
    static void termsCratesOnTheGroundInNoPile() {
        SlatCrates x = row12();
        for (int crate = 0; crate < 12; crate++) {
            due("the place of " + crate, x.crate(crate, 9), 0);
            due("ground(" + crate + "), which is not below another one", x.crate(crate, 14), 4);
        }
        due("the first one can be put", x.whyNot(1, 0), 0);
        due("the first one can be broken", x.breakUp(0), 21);
    }

    @Sentence("The sizes of the crates of a pile together are at most the room of the crate in which they lie.")
    static void termsCratesFullPile() {
        SlatCrates x = read("As12r11g0[Bs10r9g0]Cs1r0g0Ds1r0g0");
        due("put the one that fills it", x.put(2, 0), 11);
        due("room left", x.crate(0, 8), 0);
        due("put the least one into a full one", x.put(3, 0), 3);
        due("put it into one of the pile, which has room of its own", x.put(3, 1), 12);
        due("its size does not count in the outer one", x.crate(0, 8), 0);
        loadDue("As12r11g0[Bs10r9g0Cs1r0g0]", 3);
        loadDue("As12r11g0[Bs10r9g0Cs2r0g0]", NOT_POSSIBLE);
    }

    @Sentence("The crates around a crate are the one in which it lies, the one in which that lies, and so on.")
    static void termsCratesAroundUpToTheOutermost() {
        due("all eleven around are open", signs(deep12(), 11), "A---");
        SlatCrates x = read("As60r59g14[As50r49g15[As40r39g15[As30r29g15[As1r0g0]]]]");
        due("the outermost one of several hides it", signs(x, 4), "?---");
        due("the outermost one is around the innermost one", x.whyNot(0, 4), 2);
    }

    @Sentence("Its depth is how many there are.")
    static void termsCratesDepth() {
        SlatCrates x = deep12();
        for (int crate = 0; crate < 12; crate++) {
            due("the depth of " + crate, x.crate(crate, 5), crate);
        }
        due("the greatest depth", x.count(3), 11);
        due("the greatest depth on the ground", row12().count(3), 0);
        due("all of a pile are as deep", wide12().crate(11, 5), 1);
    }

    @Sentence("The load of a crate are all crates that it is around.")
    static void termsCratesLoad() {
        SlatCrates x = deep12();
        for (int crate = 0; crate < 12; crate++) {
            due("the load of " + crate, x.crate(crate, 7), 11 - crate);
        }
        due("the load of a pile", wide12().crate(0, 7), 11);
        due("the load of a bare one", row12().crate(0, 7), 0);
    }

    // ---- deeds

    @Sentence("To put a crate into another one: it has to stand on the ground, or to be the topmost one of a pile")
    static void termsDeedsPutFromTheGroundOrATop() {
        SlatCrates x = read("As60r59g0[Bs5r4g0Cs4r3g0Ds3r2g0]Es30r29g0Fs2r1g0");
        due("the bottom one", x.put(1, 4), 1);
        due("the one between", x.put(2, 4), 1);
        due("the topmost one", x.put(3, 4), 11);
        due("the next one, now topmost", x.put(2, 4), 11);
        due("the last one, topmost and lowest at once", x.put(1, 4), 11);
        due("one from the ground", x.put(5, 0), 11);
    }

    @Sentence("it comes on the top of the pile of the other one")
    static void termsDeedsPutOnTheTop() {
        SlatCrates x = read("As60r59g0Bs5r4g0Cs4r3g0");
        x.put(2, 0);
        due("the place in an empty pile", x.crate(2, 9), 0);
        x.put(1, 0);
        due("the place on a pile of one, whatever its number", x.crate(1, 9), 1);
        x.put(1, 0);
        due("the place of a topmost one that is put again", x.crate(1, 9), 1);
        due("the place of the lowest one then", x.crate(2, 9), 0);
        due("the nest", text(x, 0), "As60r59g0[Cs4r3g0Bs5r4g0]");
    }

    @Sentence("It is refused for the first of these reasons that is so: 1: it is not the topmost one of its pile")
    static void termsDeedsPutReason1First() {
        SlatCrates x = read("As60r59g0[Bs20r9g0[Cs3r2g0]Ds9r8g0]Es5r0g0");
        due("only 1", x.put(1, 0), 1);
        due("1 and 2, itself (and 3)", x.put(1, 1), 1);
        due("1 and 2, of its load", x.put(1, 2), 1);
        due("1 and 3", x.put(1, 4), 1);
    }

    @Sentence("2: the other one is itself, or of its load")
    static void termsDeedsPutReason2() {
        SlatCrates x = deep12();
        due("itself, where 3 is so too", x.put(11, 11), 2);
        due("itself, from the ground", x.put(0, 0), 2);
        due("the crate of its pile", x.put(0, 1), 2);
        due("the innermost one of its load", x.put(0, 11), 2);
        due("one that is around it is not of its load", x.put(11, 0), 3);
    }

    @Sentence("3: the room that is left in the other one is less than its size")
    static void termsDeedsPutReason3() {
        SlatCrates x = read("As60r30g0[Bs20r0g0]Cs10r0g0Ds11r0g0Es1r0g0");
        due("1 too large", x.put(3, 0), 3);
        due("the least one into one without room", x.put(4, 1), 3);
        due("just as large as the room left", x.put(2, 0), 11);
        due("the least one into a full one", x.put(4, 0), 3);
    }

    @Sentence("(a crate that lies in it already leaves room as it goes)")
    static void termsDeedsPutIntoTheSameLeavesRoom() {
        SlatCrates x = read("As10r9g0[Bs6r5g0[Cs5r4g0]Ds3r2g0]");
        due("the topmost one of a full pile", x.put(3, 0), 11);
        due("a single one that fills it", x.put(2, 1), 1 + 11);
        due("whyNot of the topmost one", x.whyNot(3, 0), 0);
        due("one that lies deeper leaves no room in the outer one", x.whyNot(2, 0), 3);
        due("the pile stays", text(x, 0), "As10r9g0[Bs6r5g0[Cs5r4g0]Ds3r2g0]");
    }

    @Sentence("To set it on the ground: reason 1, or 4: it stands there already.")
    static void termsDeedsGroundReasons1And4() {
        SlatCrates x = read("As60r59g0[Bs20r9g0[Cs3r2g0]Ds9r8g0]Es5r0g0");
        due("one below another", x.ground(1), 1);
        due("one on the ground with a load", x.ground(0), 4);
        due("one on the ground, bare", x.ground(4), 4);
        due("the topmost one", x.ground(3), 10);
        due("the same one again", x.ground(3), 4);
        due("the lowest one of two, now topmost", x.ground(1), 10);
    }

    @Sentence("To turn the slats of a crate: each gap moves by one place up, the one at the place 3 to the place 0.")
    static void termsDeedsTurnWrapsAround() {
        SlatCrates x = read("As9r8g8Bs9r8g9Cs9r8g15Ds9r8g0Es9r8g1Fs9r8g7");
        int[] turned = {1, 3, 15, 0, 2, 14};
        for (int crate = 0; crate < 6; crate++) {
            due("turn(" + crate + ")", x.turn(crate), turned[crate]);
        }
        int[] round = {2, 4, 8, 1, 2};
        for (int gaps : round) {
            due("turn(0) once more", x.turn(0), gaps);
        }
    }

    @Sentence("To break a crate: it has to stand on the ground or to be the topmost one of its pile (reason 1 otherwise)")
    static void termsDeedsBreakReason1() {
        SlatCrates x = read("As60r59g0[Bs5r4g0Cs4r3g0Ds3r2g0]Es1r0g0");
        due("the bottom one", x.breakUp(1), 1);
        due("the one between", x.breakUp(2), 1);
        due("one on the ground", x.breakUp(4), 14);
        due("the topmost one", x.breakUp(3), 13);
        due("the next one, now topmost", x.breakUp(2), 12);
        due("the last one, topmost and lowest at once", x.breakUp(1), 11);
    }

    @Sentence("and to have an empty pile (reason 5 otherwise).")
    static void termsDeedsBreakReason5() {
        SlatCrates x = read("As60r59g0[Bs20r9g0[Cs3r2g0]Ds9r8g0]");
        due("neither topmost nor with an empty pile", x.breakUp(1), 1);
        due("one on the ground with a pile", x.breakUp(0), 5);
        due("breakUp(3)", x.breakUp(3), 13);
        due("the topmost one with a pile of one", x.breakUp(1), 5);
        due("breakUp(2)", x.breakUp(2), 12);
        due("the one whose pile is empty now", x.breakUp(1), 11);
        due("the last one, whose pile is empty now", x.breakUp(0), 10);
    }

    // ---- reading

    @Sentence("From outside, the letter of a label at the place p is seen, if all crates around have a gap at the place p.")
    static void termsReadingThroughAllAround() {
        due("no crate around, and no gap of its own", signs(read("ABCDs9r8g0"), 0), "ABCD");
        due("all eleven around have all gaps", signs(deep12(), 11), "A---");
        SlatCrates x = read("As60r59g14[As50r49g13[As40r39g11[As30r29g7[ABCDs1r0g15]]]]");
        due("one around without the gap 0", signs(x, 1), "?---");
        due("each place is closed by another one", signs(x, 4), "????");
        due("each of the places but one", signs(x, 3), "???-");
    }

    @Sentence("What is seen of a crate is a row of four signs: for each place 0 to 3 the letter that is seen there")
    static void termsReadingLetters() {
        due("A and Z at the first and the last place", signs(read("AZZAs9r8g0"), 0), "AZZA");
        due("in an open one", signs(read("Ks9r8g15[ZAAZs1r0g0]"), 1), "ZAAZ");
    }

    @Sentence("or \"?\" if the label has a letter there that is not seen")
    static void termsReadingHiddenLetter() {
        due("the first place", signs(read("Ks9r8g14[ABCDs1r0g15]"), 1), "?BCD");
        due("the last place", signs(read("Ks9r8g7[ABCDs1r0g15]"), 1), "ABC?");
    }

    @Sentence("or \"-\" if the label has no letter there and all crates around have a gap there")
    static void termsReadingBare() {
        due("no crate around", signs(read("Ks9r8g0"), 0), "K---");
        due("the last place through the gap 3", signs(read("Ks9r8g8[ABCs1r0g0]"), 1), "???-");
    }

    @Sentence("or \"?\" if it has none and they have not.")
    static void termsReadingBareAndHidden() {
        due("the last place without the gap 3", signs(read("Ks9r8g7[ABCs1r0g15]"), 1), "ABC?");
        due("nothing is open", signs(read("Ks9r8g0[As1r0g15]"), 1), "????");
        due("one of two around has no gap", signs(read("Ks9r8g15[Ks8r7g7[As1r0g15]]"), 2), "A--?");
    }

    @Sentence("A crate can be told, if no other crate has the same size, the same depth, and the same signs seen of it.")
    static void termsReadingCanBeTold() {
        due("a single one", read("As9r8g0").crate(0, 11), 1);
        due("twins", read("As9r8g0As9r7g1").count(6), 0);
        due("twins, told by the size alone", read("As9r8g0As8r7g0").count(6), 2);
        due("twins, told by the last sign alone", read("AAAAs9r8g0AAABs9r8g0").count(6), 2);
        due("twins, told by the first sign alone", read("AAAAs9r8g0BAAAs9r8g0").count(6), 2);
        due("twins, told by the depth alone", read("As60r59g15[Ks9r8g0]Ks9r8g0").count(6), 3);
        due("labels whose difference is not seen", read("As60r59g1[KAs9r8g0KBs9r8g0]").count(6), 1);
        due("no letter and a hidden one look the same", read("As60r59g1[Ks9r8g0KBs9r8g0]").count(6), 1);
        due("three alike", read("As9r8g0As9r8g0As9r8g0").count(6), 0);
        due("alike in different crates", read("As60r59g0[Bs9r8g0]Cs60r59g0[Ds9r8g0]").count(6), 2);
    }
}
