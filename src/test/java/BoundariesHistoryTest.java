/** A test for each sentence of the promises 23 to 25 that names a boundary case. */
public final class BoundariesHistoryTest extends Asking {
    private BoundariesHistoryTest() {
    }

    public static void main(String[] args) {
        Sentences.run(BoundariesHistoryTest.class);
    }

    // ---- undo

    /** A nest with a pile of two and a crate beside it, with nothing in the history but its load. */
    private static SlatCrates nest() {
        return read("As60r59g1[Bs20r19g2Cs5r4g8]Ds3r2g3");
    }

    private static void undoneDue(SlatCrates x, String before, int states) {
        due("undo()", x.undo(), states);
        due("all is as before", looks(x), before);
    }

    @Sentence("Undoes the latest change: everything but the pad and the snapshot is as it was before it.")
    static void promise23UndoesMakeAndLoad() {
        SlatCrates x = nest();
        String before = looks(x);
        x.make(5, 4, 3, A);
        undoneDue(x, before, 1);
        write(x, "Es9r8g0[Fs1r0g0]");
        x.load();
        undoneDue(x, before, 1);
    }

    @Sentence("Undoes the latest change: everything but the pad and the snapshot is as it was before it.")
    static void promise23UndoesPutAndGround() {
        SlatCrates x = nest();
        String before = looks(x);
        due("put(3, 0)", x.put(3, 0), 11);
        undoneDue(x, before, 1);
        due("put(2, 1)", x.put(2, 1), 12);
        undoneDue(x, before, 1);
        due("ground(2)", x.ground(2), 10);
        undoneDue(x, before, 1);
    }

    @Sentence("Undoes the latest change: everything but the pad and the snapshot is as it was before it.")
    static void promise23UndoesTurnAndBreakUp() {
        SlatCrates x = nest();
        String before = looks(x);
        due("turn(2), which wraps around", x.turn(2), 1);
        undoneDue(x, before, 1);
        due("breakUp(2), whose number 3 gets", x.breakUp(2), 13);
        undoneDue(x, before, 1);
        due("breakUp(3), the last one", x.breakUp(3), 13);
        undoneDue(x, before, 1);
    }

    @Sentence("Undoes the latest change: everything but the pad and the snapshot is as it was before it.")
    static void promise23UndoesRefusals() {
        SlatCrates x = nest();
        String before = looks(x);
        due("put(1, 3), refused", x.put(1, 3), 1);
        undoneDue(x, before, 1);
        due("ground(0), refused", x.ground(0), 4);
        undoneDue(x, before, 1);
        due("breakUp(0), refused", x.breakUp(0), 5);
        undoneDue(x, before, 1);
    }

    @Sentence("Undoes the latest change: everything but the pad and the snapshot is as it was before it.")
    static void promise23UndoesRestore() {
        SlatCrates x = nest();
        x.ground(0);
        x.save();
        x.undo();
        x.breakUp(3);
        String before = looks(x);
        due("restore()", x.restore(), 4);
        due("refused, as the snapshot tells", x.count(12), 1);
        undoneDue(x, before, 2);
    }

    @Sentence("Undoes the latest change: everything but the pad and the snapshot is as it was before it.")
    static void promise23PadAndSnapshotStay() {
        SlatCrates x = nest();
        write(x, "As1");
        x.turn(0);
        write(x, "r0g0");
        due("save()", x.save(), 4);
        x.breakUp(3);
        due("undo of breakUp", x.undo(), 2);
        due("undo of turn", x.undo(), 1);
        due("the pad stays", x.count(13), 7);
        due("the pad has no fault", x.fault(), NONE);
        due("restore()", x.restore(), 4);
        due("the snapshot stays, with the gaps that were turned", x.crate(0, 2), 2);
    }

    @Sentence("Returns how many states the history has then")
    static void promise23Returns3To0() {
        SlatCrates x = row12();
        for (int left = 3; left >= 0; left--) {
            due("undo()", x.undo(), left);
            due("count(14)", x.count(14), left);
            due("crates", x.count(0), 8 + left);
        }
        x.turn(0);
        due("undo of a single change", x.undo(), 0);
    }

    @Sentence("NOT_POSSIBLE if it has none.")
    static void promise23NothingToUndo() {
        SlatCrates x = new SlatCrates();
        due("undo() of a new one", x.undo(), NOT_POSSIBLE);
        x.make(1, 0, 0, A);
        due("undo()", x.undo(), 0);
        due("undo() again: there is no way forth", x.undo(), NOT_POSSIBLE);
        due("crates", x.count(0), 0);
        SlatCrates five = new SlatCrates();
        for (int change = 1; change <= 5; change++) {
            five.make(change, 0, 0, A);
        }
        for (int left = 3; left >= 0; left--) {
            due("undo()", five.undo(), left);
        }
        due("undo() of a state that was dropped", five.undo(), NOT_POSSIBLE);
        due("the first crate stays", five.count(0), 1);
    }

    // ---- save

    @Sentence("Takes a snapshot of everything but the pad and the history")
    static void promise24NeitherPadNorHistory() {
        SlatCrates x = nest();
        x.ground(0);
        write(x, "As");
        String before = looks(x);
        due("save()", x.save(), 4);
        due("save() changes nothing", looks(x), before);
        write(x, "1");
        x.breakUp(3);
        x.ground(0);
        x.ground(0);
        due("restore()", x.restore(), 4);
        due("refused", x.count(12), 1);
        due("the pad stays", x.count(13), 3);
        due("the history goes on", x.count(14), 4);
        due("undo of restore", x.undo(), 3);
        due("refused", x.count(12), 3);
    }

    @Sentence("in place of the one that was.")
    static void promise24InPlaceOfTheOldOne() {
        SlatCrates x = nest();
        due("save()", x.save(), 4);
        x.breakUp(3);
        due("save()", x.save(), 3);
        x.breakUp(2);
        due("restore()", x.restore(), 3);
        due("restore() once more", x.restore(), 3);
        SlatCrates y = nest();
        y.save();
        y.undo();
        due("save() of an empty ground", y.save(), 0);
        y.make(1, 0, 0, A);
        due("restore()", y.restore(), 0);
    }

    @Sentence("Returns how many crates there are.")
    static void promise24Returns0To12() {
        due("save() of none", new SlatCrates().save(), 0);
        due("save() of twelve", row12().save(), 12);
        due("save() of twelve in one another", deep12().save(), 12);
    }

    // ---- restore

    @Sentence("Restores the snapshot, which stays.")
    static void promise25TheSnapshotStays() {
        SlatCrates x = nest();
        x.save();
        String saved = all(x);
        x.turn(0);
        x.breakUp(2);
        due("restore()", x.restore(), 4);
        due("the crates", all(x), saved);
        x.turn(1);
        x.put(3, 2);
        due("restore() of what was not touched", x.restore(), 4);
        due("the crates", all(x), saved);
        due("undo of restore", x.undo(), 3);
        due("restore() after undo", x.restore(), 4);
        due("the crates", all(x), saved);
    }

    @Sentence("Restores the snapshot, which stays.")
    static void promise25IsAChange() {
        SlatCrates x = new SlatCrates();
        x.save();
        for (int states = 1; states <= 6; states++) {
            due("restore()", x.restore(), 0);
            due("states", x.count(14), states < 4 ? states : 4);
        }
    }

    @Sentence("Returns how many crates there are then")
    static void promise25Returns0To12() {
        SlatCrates x = new SlatCrates();
        x.save();
        x.make(1, 0, 0, A);
        due("restore() of an empty ground", x.restore(), 0);
        SlatCrates y = deep12();
        y.save();
        y.breakUp(11);
        y.breakUp(10);
        due("restore() of twelve", y.restore(), 12);
        due("the innermost one", y.crate(11, 4), 10);
        due("make a 13th", y.make(1, 0, 0, A), LIMIT);
    }

    @Sentence("NOT_POSSIBLE if there is none.")
    static void promise25NoSnapshot() {
        SlatCrates x = nest();
        String before = looks(x);
        due("restore()", x.restore(), NOT_POSSIBLE);
        due("nothing is changed", looks(x), before);
        due("a snapshot of nothing is one", new SlatCrates().save(), 0);
        due("save()", x.save(), 4);
        due("restore()", x.restore(), 4);
    }
}
