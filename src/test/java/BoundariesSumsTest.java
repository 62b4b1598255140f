/** A test for each sentence of the promises 18 to 22 that names a boundary case. */
public final class BoundariesSumsTest extends Asking {
    private BoundariesSumsTest() {
    }

    public static void main(String[] args) {
        Sentences.run(BoundariesSumsTest.class);
    }

    // ---- nest

    @Sentence("Returns a crate of the longest nest of loose crates.")
    static void promise18OnlyLooseOnes() {
        SlatCrates x = row12();
        x.put(1, 0);
        due("neither the holder nor the one that lies in it", x.count(10), 10);
        due("the outermost one", x.nest(0), 2);
        due("the innermost one", x.nest(9), 11);
        SlatCrates y = deep12();
        due("none is loose", y.nest(0), NONE);
        y.ground(11);
        due("one is loose", y.nest(0), 11);
        due("no second one", y.nest(1), NONE);
        SlatCrates z = read("As9r8g0Bs8r7g0Cs7r6g0");
        due("all are loose", z.count(10), 3);
        z.put(2, 1);
        due("one is loose", z.count(10), 1);
        due("the outermost one", z.nest(0), 0);
        due("no second one any more", z.nest(1), NONE);
        z.put(1, 0);
        due("none is loose any more", z.nest(0), NONE);
        due("the longest nest", z.count(10), 0);
    }

    @Sentence("`place`: 0 for the outermost one, and so on")
    static void promise18PlacesFromTheOutermost() {
        SlatCrates x = row12();
        for (int place = 0; place < 12; place++) {
            due("nest(" + place + ")", x.nest(place), place);
        }
        SlatCrates y = read("As1r0g0Bs2r1g0Cs3r2g0");
        due("the outermost one comes first, not the lowest", y.nest(0), 2);
        due("the innermost one comes last", y.nest(2), 0);
    }

    @Sentence("Returns the crate; INVALID_ARGUMENT if place is below 0;")
    static void promise18PlaceBelow0() {
        SlatCrates x = row12();
        due("nest(0)", x.nest(0), 0);
        due("nest(-1)", x.nest(-1), INVALID);
        due("nest(MIN)", x.nest(MIN), INVALID);
        due("nest(-1) without crates", new SlatCrates().nest(-1), INVALID);
    }

    @Sentence("NOT_FOUND if it has not so many.")
    static void promise18BehindTheNest() {
        SlatCrates x = row12();
        due("the last one", x.nest(11), 11);
        due("nest(12)", x.nest(12), NONE);
        due("nest(MAX)", x.nest(MAX), NONE);
        due("nest(0) without crates", new SlatCrates().nest(0), NONE);
        SlatCrates shorter = read("As2r1g0Bs1r0g0");
        due("the last one of two", shorter.nest(1), 1);
        shorter.breakUp(1);
        due("it is shorter then", shorter.nest(1), NONE);
    }

    // ---- count

    private static void countDue(SlatCrates x, int what, int want) {
        due("count(" + what + ")", x.count(what), want);
    }

    @Sentence("Returns a number.")
    static void promise19CountsChangeNothing() {
        SlatCrates x = read("As60r59g1[Bs20r19g2]");
        x.ground(0);
        write(x, "As");
        String before = looks(x);
        for (int what = -1; what <= 15; what++) {
            x.count(what);
        }
        due("all is as before", looks(x), before);
    }

    @Sentence("`what`: 0: crates;")
    static void promise19Crates0To12() {
        countDue(new SlatCrates(), 0, 0);
        countDue(row12(), 0, 12);
        countDue(deep12(), 0, 12);
    }

    @Sentence("1: those on the ground;")
    static void promise19OnTheGround0To12() {
        countDue(new SlatCrates(), 1, 0);
        countDue(row12(), 1, 12);
        countDue(deep12(), 1, 1);
        countDue(wide12(), 1, 1);
    }

    @Sentence("2: loose ones;")
    static void promise19Loose0To12() {
        countDue(new SlatCrates(), 2, 0);
        countDue(row12(), 2, 12);
        countDue(deep12(), 2, 0);
        countDue(read("As60r59g0[Bs5r4g0]Cs5r4g0"), 2, 1);
    }

    @Sentence("3: the greatest depth;")
    static void promise19GreatestDepth0To11() {
        countDue(new SlatCrates(), 3, 0);
        countDue(row12(), 3, 0);
        countDue(wide12(), 3, 1);
        countDue(deep12(), 3, 11);
        countDue(read("As60r59g0[Bs9r8g0[Cs8r7g0]]Ds60r59g0[Es9r8g0]"), 3, 2);
    }

    @Sentence("4: the sum of all sizes;")
    static void promise19Sizes() {
        countDue(new SlatCrates(), 4, 0);
        countDue(read("As1r0g0"), 4, 1);
        countDue(deep12(), 4, 60 * 12 - 66);
        SlatCrates most = new SlatCrates();
        for (int crate = 0; crate < 12; crate++) {
            most.make(60, 59, 0, A);
        }
        countDue(most, 4, 720);
        countDue(most, 5, 708);
    }

    @Sentence("5: the room that is left in all crates together;")
    static void promise19RoomLeft() {
        countDue(new SlatCrates(), 5, 0);
        countDue(read("As60r0g0"), 5, 0);
        countDue(wide12(), 5, 0);
        countDue(deep12(), 5, 48);
        countDue(row12(), 5, 59 * 12 - 66);
        countDue(read("As60r59g0[Bs20r19g0[Cs5r4g0]]"), 5, 39 + 14 + 4);
    }

    @Sentence("6: crates that can be told;")
    static void promise19Told0To12() {
        countDue(new SlatCrates(), 6, 0);
        countDue(row12(), 6, 12);
        countDue(deep12(), 6, 12);
        countDue(wide12(), 6, 1);
        countDue(read("As9r8g0As9r8g0"), 6, 0);
    }

    @Sentence("7: letters of all labels;")
    static void promise19LettersUpTo48() {
        countDue(new SlatCrates(), 7, 0);
        countDue(row12(), 7, 12);
        SlatCrates most = new SlatCrates();
        for (int crate = 0; crate < 12; crate++) {
            most.make(1, 0, 0, ZZZZ);
        }
        countDue(most, 7, 48);
        countDue(most, 8, 48);
        countDue(read("As9r8g0[ABCDs1r0g0]"), 7, 5);
    }

    @Sentence("8: letters that are seen;")
    static void promise19LettersSeen() {
        countDue(new SlatCrates(), 8, 0);
        countDue(deep12(), 8, 12);
        countDue(read("As9r8g0[ABCDs1r0g0]"), 8, 1);
        countDue(read("As9r8g15[ABCDs1r0g0]"), 8, 5);
        countDue(read("As9r8g8[ABCs1r0g0]"), 8, 1);
    }

    @Sentence("9: how many different rows of signs are seen;")
    static void promise19DifferentRows() {
        countDue(new SlatCrates(), 9, 0);
        countDue(read("As1r0g0"), 9, 1);
        countDue(row12(), 9, 1);
        SlatCrates most = new SlatCrates();
        for (int crate = 0; crate < 12; crate++) {
            most.make(1, 0, 0, crate + 1);
        }
        countDue(most, 9, 12);
        countDue(read("As9r8g0[As1r0g0]"), 9, 2);
        countDue(read("As9r8g15[As1r0g0]"), 9, 1);
        countDue(read("AAAAs1r0g0AAABs1r0g0BAAAs1r0g0AAAAs1r0g0"), 9, 3);
    }

    @Sentence("10: crates of the longest nest;")
    static void promise19LongestNest0To12() {
        countDue(new SlatCrates(), 10, 0);
        countDue(row12(), 10, 12);
        countDue(deep12(), 10, 0);
        countDue(read("As1r0g0Bs1r0g0"), 10, 1);
    }

    @Sentence("11: the sum of all efforts;")
    static void promise19Efforts() {
        countDue(new SlatCrates(), 11, 0);
        countDue(row12(), 11, 0);
        countDue(deep12(), 11, 66);
        countDue(wide12(), 11, 66);
    }

    @Sentence("12: deeds that were refused so far;")
    static void promise19RefusedSoFar() {
        SlatCrates x = read("As60r59g0[Bs20r19g0]");
        countDue(x, 12, 0);
        for (int refused = 1; refused <= 100; refused++) {
            x.ground(0);
            countDue(x, 12, refused);
        }
        x.put(2, 0);
        x.make(0, 0, 0, A);
        x.load();
        countDue(x, 12, 100);
        due("undo()", x.undo(), 3);
        countDue(x, 12, 99);
    }

    @Sentence("13: the length of the pad;")
    static void promise19Pad0To80() {
        SlatCrates x = new SlatCrates();
        countDue(x, 13, 0);
        write(x, "A".repeat(79));
        countDue(x, 13, 79);
        x.append('A');
        countDue(x, 13, 80);
        x.append('A');
        countDue(x, 13, 80);
        x.clear();
        countDue(x, 13, 0);
    }

    @Sentence("14: states in the history")
    static void promise19States0To4() {
        SlatCrates x = new SlatCrates();
        for (int states = 0; states <= 4; states++) {
            countDue(x, 14, states);
            x.make(1, 0, 0, A);
        }
        countDue(x, 14, 4);
        x.undo();
        countDue(x, 14, 3);
        x.undo();
        x.undo();
        x.undo();
        countDue(x, 14, 0);
    }

    @Sentence("Returns the number; INVALID_ARGUMENT.")
    static void promise19WhatOutOfRange() {
        for (int what : new int[] {MIN, -2, -1, 15, 16, MAX}) {
            countDue(new SlatCrates(), what, INVALID);
            countDue(row12(), what, INVALID);
        }
    }

    // ---- full

    @Sentence("Returns how full the crates are.")
    static void promise20EmptyAndFull() {
        due("empty ones", row12().full(), 0.0);
        due("full ones", wide12().full(), 1.0);
        due("one of two is full", read("As2r1g0[Bs1r0g0]Cs2r1g0").full(), 0.5);
        due("the least room is full", read("As2r1g0[Bs1r0g0]").full(), 1.0);
        due("the least room is empty", read("As2r1g0Bs1r0g0").full(), 0.0);
    }

    @Sentence("Returns the sizes of all crates that lie in others, as a double, divided by all rooms together")
    static void promise20SizesThatLieByRooms() {
        due("those of the pile of a pile, too", deep12().full(), 594.0 / 642.0);
        due("a number without an end", read("As9r2g0[Bs1r0g0]Cs60r1g0").full(), 1.0 / 3.0);
        due("the least part", read("As60r59g0[Bs1r0g0]Cs60r59g0Ds60r59g0").full(), 1.0 / 177.0);
        due("rooms of those that lie count", read("As60r59g0[Bs20r19g0]").full(), 20.0 / 78.0);
    }

    @Sentence("0.0 if these are 0.")
    static void promise20NoRooms() {
        due("no crates", new SlatCrates().full(), 0.0);
        due("crates without room", read("As1r0g0Bs60r0g0").full(), 0.0);
    }

    // ---- ifTurned

    @Sentence("Tells what turning the slats of a crate once would bring.")
    static void promise21ChangesNothing() {
        SlatCrates x = read("As60r59g8[Bs20r19g1[Cs5r4g0]]");
        x.save();
        write(x, "As1r0g0");
        String before = looks(x);
        due("once: the gap 3 comes to the place 0", x.ifTurned(0, 0), 3);
        due("the gap 0 goes", x.ifTurned(1, 0), 1);
        for (int crate = 0; crate < 3; crate++) {
            x.ifTurned(crate, 0);
            x.ifTurned(crate, 1);
        }
        due("all is as before", looks(x), before);
        due("the same once more", x.ifTurned(0, 0), 3);
    }

    @Sentence("`crate`: its number")
    static void promise21CrateOutOfRange() {
        SlatCrates x = row12();
        for (int none : new int[] {MIN, -1, 12, 13, MAX}) {
            due("ifTurned(" + none + ", 0)", x.ifTurned(none, 0), INVALID);
            due("ifTurned(" + none + ", 1)", x.ifTurned(none, 1), INVALID);
        }
        due("ifTurned(0, 0)", x.ifTurned(0, 0), 12);
        due("ifTurned(11, 1)", x.ifTurned(11, 1), 12);
        due("on an empty ground", new SlatCrates().ifTurned(0, 0), INVALID);
    }

    @Sentence("`what`: 0: how many letters would be seen;")
    static void promise21Letters() {
        SlatCrates x = read("Zs60r59g4[ABs9r8g8[ABCDs1r0g0]]");
        due("now", x.count(8), 1);
        due("the outermost one turned", x.ifTurned(0, 0), 1 + 0 + 1);
        due("the one inside turned", x.ifTurned(1, 0), 1);
        due("the innermost one turned", x.ifTurned(2, 0), 1);
        due("what -1", x.ifTurned(0, -1), INVALID);
        due("what MIN", x.ifTurned(0, MIN), INVALID);
    }

    @Sentence("1: how many crates could be told")
    static void promise21Told() {
        SlatCrates x = read("Zs60r59g1[ABs9r8g0ACs9r8g0]");
        due("now", x.count(6), 1);
        due("the outermost one turned", x.ifTurned(0, 1), 3);
        due("one inside turned", x.ifTurned(1, 1), 1);
        due("what 2", x.ifTurned(0, 2), INVALID);
        due("what MAX", x.ifTurned(0, MAX), INVALID);
    }

    @Sentence("Returns the number; INVALID_ARGUMENT.")
    static void promise21FromNoneToAll() {
        due("none could be told", read("As9r8g1As9r8g2").ifTurned(0, 1), 0);
        due("all twelve could be told", deep12().ifTurned(0, 1), 12);
        due("all letters would be seen", deep12().ifTurned(0, 0), 12);
        due("the least number of letters", read("As1r0g0").ifTurned(0, 0), 1);
        due("no such crate and no such number", row12().ifTurned(12, 2), INVALID);
    }

    // ---- bestTurn

    @Sentence("Finds the best crate to turn.")
    static void promise22ChangesNothing() {
        SlatCrates x = read("As60r59g8[Bs20r19g1[Cs5r4g0]]");
        write(x, "As");
        String before = looks(x);
        due("bestTurn()", x.bestTurn(), 0);
        due("bestTurn() again", x.bestTurn(), 0);
        due("all is as before", looks(x), before);
    }

    @Sentence("Returns the crate whose slats, turned once, would show most letters")
    static void promise22MostLetters() {
        due("the last one", read("As60r59g1[Bs1r0g0]Cs60r59g1[Ds1r0g0]Es60r59g8[Fs1r0g0]").bestTurn(), 4);
        due("the first one", read("As60r59g8[Bs1r0g0]Cs60r59g1[Ds1r0g0]").bestTurn(), 0);
        due("the one that loses least", read("Ks9r8g1[As1r0g0]").bestTurn(), 1);
        due("once, not twice", read("Ks9r8g4[As1r0g0]Ks9r8g8[As1r0g0]").bestTurn(), 2);
        due("the one that shows two more", read("Ks9r8g8[As1r0g0]Ks9r8g8[As1r0g0As1r0g0]").bestTurn(), 2);
    }

    @Sentence("of several the lowest")
    static void promise22LowestOfSeveral() {
        due("all the same", row12().bestTurn(), 0);
        due("two that show one more", read("Es1r0g0Ks9r8g8[As1r0g0]Ks9r8g8[As1r0g0]").bestTurn(), 1);
        due("nothing is ever seen inside", read("Ks9r8g0[As1r0g0]Ks9r8g0[As1r0g0]").bestTurn(), 0);
    }

    @Sentence("NOT_FOUND without crates.")
    static void promise22WithoutCrates() {
        SlatCrates x = new SlatCrates();
        due("bestTurn()", x.bestTurn(), NONE);
        x.make(1, 0, 0, A);
        due("bestTurn() with one", x.bestTurn(), 0);
        x.breakUp(0);
        due("bestTurn() without it", x.bestTurn(), NONE);
    }
}
