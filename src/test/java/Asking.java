/** What the tests that are written by hand ask with. */
abstract class Asking {
    static final int INVALID = -1;
    static final int NOT_POSSIBLE = -2;
    static final int LIMIT = -3;
    static final int NONE = -4;
    static final int MIN = Integer.MIN_VALUE;
    static final int MAX = Integer.MAX_VALUE;
    /** The labels "A" and "ZZZZ", the least one and the greatest one. */
    static final int A = 1;
    static final int ZZZZ = 531440;
    static final int HIDDEN = 26;
    static final int BARE = 27;
    static final int ANY = 28;

    static void due(String call, long got, long want) {
        Due.due(call, got, want);
    }

    static void due(String call, double got, double want) {
        Due.due(call, got, want);
    }

    static void due(String call, String got, String want) {
        Due.due(call, got, want);
    }

    static int label(String letters) {
        int label = 0;
        for (int place = letters.length() - 1; place >= 0; place--) {
            label = label * 27 + letters.charAt(place) - 'A' + 1;
        }
        return label;
    }

    static void write(SlatCrates x, String text) {
        for (int place = 0; place < text.length(); place++) {
            due("append of " + text, x.append(text.charAt(place)) > 0 ? 1 : 0, 1);
        }
    }

    static SlatCrates read(String text) {
        SlatCrates x = new SlatCrates();
        write(x, text);
        due("load " + text, x.load() >= 0 ? 1 : 0, 1);
        return x;
    }

    static int faultOf(String text) {
        SlatCrates x = new SlatCrates();
        write(x, text);
        return x.fault();
    }

    static void faultDue(String text, int want) {
        due("the fault of \"" + text + "\"", faultOf(text), want);
    }

    /** What load() answers to a text on an empty ground. */
    static void loadDue(String text, int want) {
        SlatCrates x = new SlatCrates();
        write(x, text);
        due("load " + text, x.load(), want);
    }

    static String text(SlatCrates x, int crate) {
        StringBuilder text = new StringBuilder();
        for (int sign = x.sign(crate, 0); sign > 0; sign = x.sign(crate, text.length())) {
            text.append((char) sign);
        }
        return text.toString();
    }

    /** The nests of all crates that stand on the ground, the lowest first. */
    static String all(SlatCrates x) {
        StringBuilder text = new StringBuilder();
        for (int crate = 0; crate < x.count(0); crate++) {
            if (x.crate(crate, 4) == NONE) {
                text.append(text(x, crate));
            }
        }
        return text.toString();
    }

    static String signs(SlatCrates x, int crate) {
        StringBuilder signs = new StringBuilder();
        for (int place = 0; place < 4; place++) {
            int sign = x.seen(crate, place);
            signs.append(sign == HIDDEN ? '?' : sign == BARE ? '-' : (char) ('A' + sign));
        }
        return signs.toString();
    }

    /** What can be looked at, in some 16 calls and 9 more for each crate; what stays leaves this text as it is. */
    static String looks(SlatCrates x) {
        StringBuilder looks = new StringBuilder();
        for (int what = 0; what <= 14; what++) {
            looks.append(x.count(what)).append(' ');
        }
        looks.append("fault ").append(x.fault());
        for (int crate = 0; crate < x.count(0); crate++) {
            looks.append(" crate ").append(signs(x, crate));
            for (int what : new int[] {0, 1, 2, 4, 9}) {
                looks.append(' ').append(x.crate(crate, what));
            }
        }
        return looks.toString();
    }

    /** Twelve crates on the ground, each of which just has room for the next one. */
    static SlatCrates row12() {
        SlatCrates x = new SlatCrates();
        for (int crate = 0; crate < 12; crate++) {
            due("make", x.make(60 - crate, 59 - crate, 15, A), crate);
        }
        return x;
    }

    /** Twelve crates, each in the one before. */
    static SlatCrates deep12() {
        SlatCrates x = row12();
        for (int crate = 11; crate > 0; crate--) {
            due("put", x.put(crate, crate - 1), 11);
        }
        return x;
    }

    /** Twelve crates, eleven of which make the pile of the first one, which they fill. */
    static SlatCrates wide12() {
        SlatCrates x = new SlatCrates();
        x.make(12, 11, 15, A);
        for (int crate = 1; crate < 12; crate++) {
            x.make(1, 0, 0, A);
            due("put", x.put(crate, 0), 11);
        }
        return x;
    }

    /** Numbers that no crate bears if there are so many. */
    static int[] noCratesOf(int crates) {
        return new int[] {MIN, -2, -1, crates, crates + 1, 12, 13, MAX};
    }
}
