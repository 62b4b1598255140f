/** A test for each sentence of the promises 12 to 17 that names a boundary case. */
public final class BoundariesLooksTest extends Asking {
    private BoundariesLooksTest() {
    }

    public static void main(String[] args) {
        Sentences.run(BoundariesLooksTest.class);
    }

    // ---- crate

    private static void crateDue(SlatCrates x, int crate, int what, int want) {
        due("crate(" + crate + ", " + what + ")", x.crate(crate, what), want);
    }

    @Sentence("Returns a property of a crate.")
    static void promise12LooksChangeNothing() {
        SlatCrates x = read("As60r59g1[Bs20r19g2Cs5r4g3]");
        x.save();
        write(x, "As1r0g0");
        String before = looks(x);
        for (int what = -1; what <= 15; what++) {
            for (int crate = -1; crate <= 3; crate++) {
                x.crate(crate, what);
            }
        }
        due("all is as before", looks(x), before);
    }

    @Sentence("`crate`: its number")
    static void promise12CrateOutOfRange() {
        SlatCrates x = row12();
        for (int what = 0; what <= 14; what++) {
            for (int none : new int[] {MIN, -1, 12, 13, MAX}) {
                crateDue(x, none, what, INVALID);
            }
        }
        crateDue(x, 0, 0, 60);
        crateDue(x, 11, 0, 49);
        crateDue(new SlatCrates(), 0, 0, INVALID);
    }

    @Sentence("`what`: 0: its size;")
    static void promise12Size1And60() {
        SlatCrates x = read("As1r0g0Bs60r0g0");
        crateDue(x, 0, 0, 1);
        crateDue(x, 1, 0, 60);
    }

    @Sentence("1: its room;")
    static void promise12Room0And59() {
        SlatCrates x = read("As60r0g0Bs60r59g0[Cs59r58g0]");
        crateDue(x, 0, 1, 0);
        crateDue(x, 1, 1, 59);
        crateDue(x, 2, 1, 58);
    }

    @Sentence("2: its gaps;")
    static void promise12Gaps0And15() {
        SlatCrates x = read("As9r8g0Bs9r8g15");
        crateDue(x, 0, 2, 0);
        crateDue(x, 1, 2, 15);
        x.turn(1);
        crateDue(x, 1, 2, 15);
    }

    @Sentence("3: how many letters its label has;")
    static void promise12Letters1To4() {
        SlatCrates x = read("Zs1r0g0ZZs1r0g0ZZZs1r0g0ZZZZs1r0g0");
        for (int crate = 0; crate < 4; crate++) {
            crateDue(x, crate, 3, crate + 1);
        }
    }

    @Sentence("4: the crate in which it lies directly, NOT_FOUND on the ground;")
    static void promise12HolderOrNone() {
        SlatCrates x = read("As60r59g0[Bs20r19g0[Cs5r4g0]]");
        crateDue(x, 0, 4, NONE);
        crateDue(x, 1, 4, 0);
        crateDue(x, 2, 4, 1);
        x.ground(2);
        crateDue(x, 2, 4, NONE);
        SlatCrates last = row12();
        last.turn(11);
        due("breakUp(0)", last.breakUp(0), 21);
        due("make()", last.make(60, 59, 0, A), 11);
        due("put(0, 11)", last.put(0, 11), 11);
        crateDue(last, 0, 4, 11);
    }

    @Sentence("5: its depth;")
    static void promise12Depth0To11() {
        SlatCrates x = deep12();
        for (int crate = 0; crate < 12; crate++) {
            crateDue(x, crate, 5, crate);
        }
    }

    @Sentence("6: crates of its pile;")
    static void promise12Pile0To11() {
        SlatCrates x = wide12();
        crateDue(x, 0, 6, 11);
        crateDue(x, 1, 6, 0);
        crateDue(deep12(), 0, 6, 1);
    }

    @Sentence("7: crates of its load;")
    static void promise12Load0To11() {
        SlatCrates x = deep12();
        crateDue(x, 0, 7, 11);
        crateDue(x, 10, 7, 1);
        crateDue(x, 11, 7, 0);
        crateDue(wide12(), 0, 7, 11);
        crateDue(read("As60r59g0[Bs20r19g0[Cs5r4g0Ds5r4g0]Es20r19g0[Fs5r4g0]]"), 0, 7, 5);
    }

    @Sentence("8: the room that is left;")
    static void promise12RoomLeft0ToAll() {
        SlatCrates x = read("As60r59g0Bs20r0g0Cs9r8g0[Ds8r0g0]");
        crateDue(x, 0, 8, 59);
        crateDue(x, 1, 8, 0);
        crateDue(x, 2, 8, 0);
        x.ground(3);
        crateDue(x, 2, 8, 8);
        crateDue(read("As60r59g0[Bs20r19g0[Cs5r4g0]]"), 0, 8, 39);
    }

    @Sentence("9: its place in its pile from the bottom, 0 on the ground;")
    static void promise12Place0To10() {
        SlatCrates x = wide12();
        crateDue(x, 0, 9, 0);
        crateDue(x, 1, 9, 0);
        crateDue(x, 11, 9, 10);
        x.ground(11);
        crateDue(x, 11, 9, 0);
    }

    @Sentence("10: the effort to come to it;")
    static void promise12EffortFrom0() {
        SlatCrates x = wide12();
        crateDue(x, 0, 10, 0);
        crateDue(x, 11, 10, 1);
        crateDue(x, 1, 10, 11);
        crateDue(deep12(), 11, 10, 11);
    }

    @Sentence("11: 1 if it can be told, otherwise 0;")
    static void promise12Told0Or1() {
        crateDue(read("As9r8g0"), 0, 11, 1);
        SlatCrates x = read("As9r8g0As9r7g15Bs9r8g0");
        crateDue(x, 0, 11, 0);
        crateDue(x, 1, 11, 0);
        crateDue(x, 2, 11, 1);
    }

    @Sentence("12: how many letters of its label are seen;")
    static void promise12LettersSeen0To4() {
        String[] gaps = {"0", "1", "3", "7", "15"};
        for (int seen = 0; seen <= 4; seen++) {
            crateDue(read("Ks9r8g" + gaps[seen] + "[ABYZs1r0g0]"), 1, 12, seen);
        }
        crateDue(read("Ks9r8g15[As1r0g0]"), 1, 12, 1);
        crateDue(read("Ks9r8g14[As1r0g0]"), 1, 12, 0);
    }

    @Sentence("13: the crate into which it fits best, NOT_FOUND if there is none;")
    static void promise12BestOrNone() {
        crateDue(read("As1r0g0"), 0, 13, NONE);
        crateDue(read("As1r0g0Bs60r0g0"), 0, 13, NONE);
        SlatCrates x = read("As60r59g0Bs60r58g0Cs59r0g0Ds58r0g0");
        crateDue(x, 0, 13, NONE);
        crateDue(x, 2, 13, 0);
        crateDue(x, 3, 13, 1);
        crateDue(row12(), 11, 13, 10);
    }

    @Sentence("14: the reason why it could not be set on the ground, 0 if it could")
    static void promise12ReasonNotToGround() {
        SlatCrates x = read("As60r59g0[Bs20r19g0[Cs5r4g0]Ds5r4g0]");
        crateDue(x, 0, 14, 4);
        crateDue(x, 1, 14, 1);
        crateDue(x, 2, 14, 0);
        crateDue(x, 3, 14, 0);
        due("nothing was refused", x.count(12), 0);
        due("nothing was changed", x.count(14), 1);
    }

    @Sentence("Returns the number; INVALID_ARGUMENT.")
    static void promise12WhatOutOfRange() {
        SlatCrates x = read("As60r59g0[Bs20r19g0]");
        for (int what : new int[] {MIN, -2, -1, 15, 16, MAX}) {
            crateDue(x, 0, what, INVALID);
            crateDue(x, 1, what, INVALID);
            crateDue(x, 2, what, INVALID);
        }
    }

    // ---- letter

    @Sentence("Returns a letter of a label.")
    static void promise13HiddenLettersToo() {
        SlatCrates x = read("Ks9r8g0[AZs1r0g0]");
        due("letter(1, 0)", x.letter(1, 0), 0);
        due("letter(1, 1)", x.letter(1, 1), 25);
    }

    @Sentence("`crate`: its number")
    static void promise13CrateOutOfRange() {
        SlatCrates x = row12();
        for (int none : new int[] {MIN, -1, 12, 13, MAX}) {
            due("letter(" + none + ", 0)", x.letter(none, 0), INVALID);
            due("letter(" + none + ", 3)", x.letter(none, 3), INVALID);
        }
        due("letter(11, 0)", x.letter(11, 0), 0);
    }

    @Sentence("`place`: 0 to 3")
    static void promise13PlaceOutOfRange() {
        SlatCrates x = read("ABCDs1r0g0Zs1r0g0");
        for (int place : new int[] {MIN, -1, 4, 5, MAX}) {
            due("letter(0, " + place + ")", x.letter(0, place), INVALID);
            due("letter(1, " + place + ")", x.letter(1, place), INVALID);
        }
        due("letter(0, 0)", x.letter(0, 0), 0);
        due("letter(0, 3)", x.letter(0, 3), 3);
    }

    @Sentence("Returns the letter; INVALID_ARGUMENT;")
    static void promise13LettersAToZ() {
        SlatCrates x = read("AZAZs1r0g0");
        int[] letters = {0, 25, 0, 25};
        for (int place = 0; place < 4; place++) {
            due("letter(0, " + place + ")", x.letter(0, place), letters[place]);
            due("letter(1, " + place + ")", x.letter(1, place), INVALID);
        }
    }

    @Sentence("NOT_FOUND if the label is not so long.")
    static void promise13BehindTheLabel() {
        SlatCrates x = read("Zs1r0g0ZZs1r0g0ZZZs1r0g0ZZZZs1r0g0");
        for (int crate = 0; crate < 4; crate++) {
            for (int place = 0; place < 4; place++) {
                due("letter(" + crate + ", " + place + ")", x.letter(crate, place), place <= crate ? 25 : NONE);
            }
        }
    }

    // ---- seen

    @Sentence("Returns a sign that is seen of a crate.")
    static void promise14SignsOfOneOnTheGround() {
        due("of one without gaps", signs(read("ABs9r8g0"), 0), "AB--");
        due("of one in one without gaps", signs(read("Ks9r8g0[ABs1r0g15]"), 1), "????");
        due("of one in eleven", signs(deep12(), 11), "A---");
    }

    @Sentence("`crate`: its number")
    static void promise14CrateOutOfRange() {
        SlatCrates x = row12();
        for (int none : new int[] {MIN, -1, 12, 13, MAX}) {
            due("seen(" + none + ", 0)", x.seen(none, 0), INVALID);
            due("seen(" + none + ", 3)", x.seen(none, 3), INVALID);
        }
        due("seen(0, 0)", x.seen(0, 0), 0);
        due("seen(11, 3)", x.seen(11, 3), BARE);
    }

    @Sentence("`place`: 0 to 3")
    static void promise14PlaceOutOfRange() {
        SlatCrates x = read("ABCDs9r8g0[Zs1r0g0]");
        for (int place : new int[] {MIN, -1, 4, 5, MAX}) {
            due("seen(0, " + place + ")", x.seen(0, place), INVALID);
            due("seen(1, " + place + ")", x.seen(1, place), INVALID);
        }
        due("seen(0, 0)", x.seen(0, 0), 0);
        due("seen(0, 3)", x.seen(0, 3), 3);
    }

    @Sentence("Returns the letter;")
    static void promise14LettersAToZ() {
        SlatCrates x = read("Ks9r8g15[AZAZs1r0g0]");
        int[] letters = {0, 25, 0, 25};
        for (int place = 0; place < 4; place++) {
            due("seen(1, " + place + ")", x.seen(1, place), letters[place]);
        }
    }

    @Sentence("26 for \"?\"")
    static void promise14HiddenIs26() {
        SlatCrates x = read("Ks9r8g7[AZAZs1r0g15Zs1r0g15]");
        due("a letter that is not seen", x.seen(1, 3), 26);
        due("no letter, and no gap", x.seen(2, 3), 26);
        due("beside the gap", x.seen(1, 2), 0);
    }

    @Sentence("27 for \"-\"; INVALID_ARGUMENT.")
    static void promise14BareIs27() {
        SlatCrates x = read("Ks9r8g8[ZZZs1r0g0]");
        due("no letter, and a gap", x.seen(1, 3), 27);
        due("no letter on the ground", x.seen(0, 1), 27);
        due("no such crate", x.seen(2, 3), INVALID);
        due("no such place", x.seen(1, 4), INVALID);
    }

    // ---- whyNot

    @Sentence("Tells why a crate could not be put into another one.")
    static void promise15TellsAndChangesNothing() {
        SlatCrates x = read("As60r30g0[Bs20r19g0[Cs5r4g0]Ds9r8g0]Es1r0g0");
        x.ground(4);
        String before = looks(x);
        for (int crate = 0; crate < 5; crate++) {
            for (int into = 0; into < 5; into++) {
                int told = x.whyNot(crate, into);
                due("whyNot tells a reason or 0", told >= 0 && told <= 3 ? 1 : 0, 1);
            }
        }
        due("all is as before", looks(x), before);
    }

    @Sentence("`crate`: its number")
    static void promise15CrateOutOfRange() {
        SlatCrates x = row12();
        for (int none : new int[] {MIN, -1, 12, 13, MAX}) {
            due("whyNot(" + none + ", 0)", x.whyNot(none, 0), INVALID);
        }
        due("whyNot(11, 0)", x.whyNot(11, 0), 0);
        due("whyNot(0, 11)", x.whyNot(0, 11), 3);
    }

    @Sentence("`into`: another crate, perhaps itself")
    static void promise15IntoOutOfRangeOrItself() {
        SlatCrates x = row12();
        for (int none : new int[] {MIN, -1, 12, 13, MAX}) {
            due("whyNot(0, " + none + ")", x.whyNot(0, none), INVALID);
            due("whyNot(" + none + ", " + none + ")", x.whyNot(none, none), INVALID);
        }
        due("whyNot(0, 0)", x.whyNot(0, 0), 2);
        due("whyNot(11, 11)", x.whyNot(11, 11), 2);
    }

    @Sentence("Returns the reason, 1 to 3;")
    static void promise15ReturnsTheFirstReason() {
        SlatCrates x = read("As60r30g0[Bs20r9g0[Cs3r2g0]Ds9r8g0]Es5r0g0Fs2r0g0");
        due("1", x.whyNot(1, 0), 1);
        due("1, where 2 is so too", x.whyNot(1, 1), 1);
        due("1, where 2 is so too", x.whyNot(1, 2), 1);
        due("1, where 3 is so too", x.whyNot(1, 4), 1);
        due("2", x.whyNot(3, 3), 2);
        due("2, where 3 is so too", x.whyNot(0, 1), 2);
        due("3, 1 too large", x.whyNot(0, 4), 3);
        due("3, 1 too large", x.whyNot(2, 0), 3);
        due("0, just small enough for what is left", x.whyNot(5, 3), 0);
    }

    @Sentence("0 if it could; INVALID_ARGUMENT.")
    static void promise15CouldBePut() {
        SlatCrates x = read("As60r59g0Bs59r58g0Cs58r57g0Ds59r0g0");
        due("just small enough", x.whyNot(1, 0), 0);
        due("no such crate", x.whyNot(1, 4), INVALID);
        x.put(1, 0);
        due("once more into the same, full one", x.whyNot(1, 0), 0);
        due("another one into the full one", x.whyNot(3, 0), 3);
    }

    // ---- effort

    private static void effortDue(SlatCrates x, int size, int want) {
        due("effort(" + size + ", 0)", x.effort(size, 0), want);
        due("effort(" + size + ", 1)", x.effort(size, 1), want);
    }

    @Sentence("Returns the effort to come to all crates of a size.")
    static void promise16NoneOfTheSize() {
        effortDue(new SlatCrates(), 1, 0);
        effortDue(deep12(), 48, 0);
        effortDue(wide12(), 12, 0);
    }

    @Sentence("`size`: 1 to 60")
    static void promise16SizeOutOfRange() {
        SlatCrates x = wide12();
        effortDue(x, 1, 66);
        effortDue(x, 60, 0);
        for (int size : new int[] {MIN, -1, 0, 61, MAX}) {
            effortDue(x, size, INVALID);
        }
        effortDue(new SlatCrates(), 61, INVALID);
    }

    @Sentence("`way`: 0: told by going up from each of them to the ground;")
    static void promise16WayUp() {
        due("from one on the ground", row12().effort(60, 0), 0);
        due("from the innermost one", deep12().effort(49, 0), 11);
        due("way -1", deep12().effort(49, -1), INVALID);
        due("way MIN", deep12().effort(49, MIN), INVALID);
    }

    @Sentence("1: told by going down from the ground through all piles")
    static void promise16WayDown() {
        due("to one on the ground", row12().effort(60, 1), 0);
        due("to the innermost one", deep12().effort(49, 1), 11);
        due("way 2", deep12().effort(49, 2), INVALID);
        due("way MAX", deep12().effort(49, MAX), INVALID);
    }

    @Sentence("Returns the sum of the efforts to come to each of them (the same for both); INVALID_ARGUMENT.")
    static void promise16SumsAreTheSame() {
        SlatCrates deep = deep12();
        for (int crate = 0; crate < 12; crate++) {
            effortDue(deep, 60 - crate, crate);
        }
        SlatCrates x = read("As60r59g0[Bs20r19g0[Cs5r4g0[Ds3r0g0]Es5r0g0]Fs5r0g0Gs3r0g0]Hs5r0g0");
        effortDue(x, 20, 3);
        effortDue(x, 5, 5 + 4 + 2 + 0);
        effortDue(x, 3, 6 + 1);
        effortDue(x, 0, INVALID);
    }

    // ---- alike

    private static void alikeDue(SlatCrates x, int[] pattern, int want) {
        String call = "alike(" + pattern[0] + ", " + pattern[1] + ", " + pattern[2] + ", " + pattern[3] + ")";
        due(call, x.alike(pattern[0], pattern[1], pattern[2], pattern[3]), want);
    }

    /** At one place each sign counts the crates that show it there; beyond the signs lies no argument. */
    private static void alikeAtPlace(int place) {
        SlatCrates x = read("AAAAs9r8g15ZZZZs9r8g0[AAAAs1r0g0]BBBBs9r8g0BBBBs9r8g0");
        int[] pattern = {ANY, ANY, ANY, ANY};
        int[] signs = {0, 1, 2, 25, 26, 27, 28, 29, 30, -1, MIN, MAX};
        int[] want = {1, 2, 0, 1, 1, 0, 5, INVALID, INVALID, INVALID, INVALID, INVALID};
        for (int i = 0; i < signs.length; i++) {
            pattern[place] = signs[i];
            alikeDue(x, pattern, want[i]);
        }
        SlatCrates bare = new SlatCrates();
        bare.make(1, 0, 0, label("ABC".substring(0, Math.max(1, place))));
        pattern[place] = 27;
        alikeDue(bare, pattern, place == 0 ? 0 : 1);
    }

    @Sentence("Returns how many crates are seen as a pattern tells.")
    static void promise17AllPlacesHaveToBeAsThePattern() {
        SlatCrates x = read("ABCDs9r8g0ABCEs9r8g0ABs9r8g0");
        alikeDue(x, new int[] {0, 1, 2, 3}, 1);
        alikeDue(x, new int[] {0, 1, 2, ANY}, 2);
        alikeDue(x, new int[] {0, 1, ANY, ANY}, 3);
        alikeDue(x, new int[] {0, 1, BARE, BARE}, 1);
        alikeDue(x, new int[] {0, 1, 2, BARE}, 0);
        alikeDue(x, new int[] {1, 1, 2, 3}, 0);
        alikeDue(x, new int[] {HIDDEN, HIDDEN, HIDDEN, HIDDEN}, 0);
    }

    @Sentence("`first`: what is seen at the place 0: 0 to 25 a letter, 26 \"?\", 27 \"-\", or 28: whatever")
    static void promise17First() {
        alikeAtPlace(0);
    }

    @Sentence("`second`: at the place 1, likewise")
    static void promise17Second() {
        alikeAtPlace(1);
    }

    @Sentence("`third`: at the place 2")
    static void promise17Third() {
        alikeAtPlace(2);
    }

    @Sentence("`fourth`: at the place 3")
    static void promise17Fourth() {
        alikeAtPlace(3);
    }

    @Sentence("Returns how many; INVALID_ARGUMENT.")
    static void promise17HowMany0To12() {
        int[] any = {ANY, ANY, ANY, ANY};
        alikeDue(new SlatCrates(), any, 0);
        alikeDue(new SlatCrates(), new int[] {29, ANY, ANY, ANY}, INVALID);
        alikeDue(new SlatCrates(), new int[] {ANY, ANY, ANY, -1}, INVALID);
        alikeDue(row12(), any, 12);
        alikeDue(deep12(), new int[] {0, BARE, BARE, BARE}, 12);
        alikeDue(wide12(), new int[] {0, ANY, ANY, HIDDEN}, 0);
    }
}
