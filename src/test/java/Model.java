import java.util.ArrayList;
import java.util.HashSet;
import java.util.List;
import java.util.Set;
import java.util.regex.Matcher;
import java.util.regex.Pattern;

/** The document once more, in the plainest objects, lists and texts, to compare answers with. */
final class Model {
    private static final int INVALID = -1;
    private static final int NOT_POSSIBLE = -2;
    private static final int LIMIT = -3;
    private static final int NONE = -4;
    private static final int DEEPEST_TEXT = 12;
    private static final Pattern NESTS = Pattern.compile("(?:" + nestOf(DEEPEST_TEXT) + ")+");

    /** One crate; its pile is a list from the bottom to the top. */
    private static final class Box {
        private int size;
        private int room;
        private int gaps;
        private String label;
        private Box holder;
        private final List<Box> pile = new ArrayList<>();

        private List<Box> around() {
            List<Box> around = new ArrayList<>();
            for (Box box = holder; box != null; box = box.holder) {
                around.add(box);
            }
            return around;
        }

        private int left() {
            int left = room;
            for (Box box : pile) {
                left -= box.size;
            }
            return left;
        }

        private void leave() {
            if (holder != null) {
                holder.pile.remove(this);
                holder = null;
            }
        }

        private void enter(Box into) {
            leave();
            holder = into;
            into.pile.add(this);
        }

        private String text() {
            StringBuilder text = new StringBuilder(label + "s" + size + "r" + room + "g" + gaps);
            if (!pile.isEmpty()) {
                text.append('[');
                for (Box box : pile) {
                    text.append(box.text());
                }
                text.append(']');
            }
            return text.toString();
        }

        private String signs() {
            StringBuilder signs = new StringBuilder();
            for (int place = 0; place < 4; place++) {
                boolean open = true;
                for (Box box : around()) {
                    open = open && (box.gaps / (1 << place)) % 2 == 1;
                }
                boolean has = place < label.length();
                signs.append(!open ? '?' : has ? label.charAt(place) : '-');
            }
            return signs.toString();
        }

        private int lettersSeen() {
            return signs().replace("?", "").replace("-", "").length();
        }

        private int effort() {
            int effort = 0;
            Box inner = this;
            for (Box outer : around()) {
                effort += 1 + outer.pile.size() - 1 - outer.pile.indexOf(inner);
                inner = outer;
            }
            return effort;
        }

        private void turnSlats() {
            gaps = gaps * 2 > 15 ? gaps * 2 - 16 + 1 : gaps * 2;
        }
    }

    /** The crates in the order of their numbers, and how many deeds were refused. */
    private static final class Yard {
        private final List<Box> boxes = new ArrayList<>();
        private int refused;

        private Yard copy() {
            Yard copy = new Yard();
            copy.refused = refused;
            for (Box box : boxes) {
                Box twin = new Box();
                twin.size = box.size;
                twin.room = box.room;
                twin.gaps = box.gaps;
                twin.label = box.label;
                copy.boxes.add(twin);
            }
            for (int i = 0; i < boxes.size(); i++) {
                for (Box inner : boxes.get(i).pile) {
                    copy.boxes.get(boxes.indexOf(inner)).enter(copy.boxes.get(i));
                }
            }
            return copy;
        }

        private boolean canTell(Box box) {
            for (Box other : boxes) {
                if (other != box && other.size == box.size && other.signs().equals(box.signs())
                        && other.around().size() == box.around().size()) {
                    return false;
                }
            }
            return true;
        }

        private int lettersSeen() {
            int seen = 0;
            for (Box box : boxes) {
                seen += box.lettersSeen();
            }
            return seen;
        }

        private int told() {
            int told = 0;
            for (Box box : boxes) {
                told += canTell(box) ? 1 : 0;
            }
            return told;
        }
    }

    private Yard yard = new Yard();
    private Yard snapshot;
    private final List<Yard> history = new ArrayList<>();
    private String pad = "";

    private static String nestOf(int depth) {
        String bare = "[A-Z]{1,4}s(?:[1-9]|[1-5][0-9]|60)r(?:[0-9]|[1-5][0-9])g(?:[0-9]|1[0-5])";
        return depth == 0 ? bare : bare + "(?:\\[(?:" + nestOf(depth - 1) + ")+\\])?";
    }

    private boolean has(int crate) {
        return crate >= 0 && crate < yard.boxes.size();
    }

    private Box box(int crate) {
        return yard.boxes.get(crate);
    }

    private int numberOf(Box box) {
        return box == null ? NONE : yard.boxes.indexOf(box);
    }

    private void keep() {
        history.add(yard.copy());
        if (history.size() > 4) {
            history.remove(0);
        }
    }

    private static String labelOf(int number) {
        String label = "";
        long rest = number;
        for (int place = 0; place < 4; place++) {
            label += rest % 27 == 0 ? " " : "" + (char) ('A' + rest % 27 - 1);
            rest /= 27;
        }
        return number > 0 && rest == 0 && label.matches("[A-Z]+ *") ? label.trim() : "";
    }

    int make(int size, int room, int gaps, int number) {
        String label = labelOf(number);
        if (size < 1 || size > 60 || room < 0 || room > size - 1 || gaps < 0 || gaps > 15 || label.isEmpty()) {
            return INVALID;
        }
        if (yard.boxes.size() == 12) {
            return LIMIT;
        }
        keep();
        Box box = new Box();
        box.size = size;
        box.room = room;
        box.gaps = gaps;
        box.label = label;
        yard.boxes.add(box);
        return yard.boxes.size() - 1;
    }

    private static boolean buried(Box box) {
        return box.holder != null && box.holder.pile.get(box.holder.pile.size() - 1) != box;
    }

    int whyNot(int crate, int into) {
        if (!has(crate) || !has(into)) {
            return INVALID;
        }
        Box box = box(crate);
        Box other = box(into);
        if (buried(box)) {
            return 1;
        }
        if (other == box || other.around().contains(box)) {
            return 2;
        }
        return other.left() + (box.holder == other ? box.size : 0) < box.size ? 3 : 0;
    }

    private int whyNotGround(Box box) {
        return buried(box) ? 1 : box.holder == null ? 4 : 0;
    }

    private int refuse(int reason) {
        keep();
        yard.refused++;
        return reason;
    }

    int put(int crate, int into) {
        int reason = whyNot(crate, into);
        if (reason != 0) {
            return reason < 0 ? reason : refuse(reason);
        }
        keep();
        box(crate).enter(box(into));
        return 10 + box(crate).around().size();
    }

    int ground(int crate) {
        if (!has(crate)) {
            return INVALID;
        }
        if (whyNotGround(box(crate)) != 0) {
            return refuse(whyNotGround(box(crate)));
        }
        keep();
        box(crate).leave();
        return 10;
    }

    int turn(int crate) {
        if (!has(crate)) {
            return INVALID;
        }
        keep();
        box(crate).turnSlats();
        return box(crate).gaps;
    }

    int breakUp(int crate) {
        if (!has(crate)) {
            return INVALID;
        }
        if (buried(box(crate)) || !box(crate).pile.isEmpty()) {
            return refuse(buried(box(crate)) ? 1 : 5);
        }
        keep();
        box(crate).leave();
        yard.boxes.remove(crate);
        return 10 + yard.boxes.size();
    }

    int append(int code) {
        if (code < 33 || code > 126) {
            return INVALID;
        }
        if (pad.length() == 80) {
            return LIMIT;
        }
        pad += (char) code;
        return pad.length();
    }

    int clear() {
        int length = pad.length();
        pad = "";
        return length;
    }

    int fault() {
        for (int end = 1; end <= pad.length(); end++) {
            Matcher matcher = NESTS.matcher(pad.substring(0, end));
            if (!matcher.matches() && !matcher.hitEnd()) {
                return end - 1;
            }
        }
        return NESTS.matcher(pad).matches() ? NONE : pad.length();
    }

    int load() {
        if (fault() != NONE) {
            return NOT_POSSIBLE;
        }
        List<Box> read = new ArrayList<>();
        int end = 0;
        while (end < pad.length()) {
            end = readNest(end, null, read);
        }
        for (Box box : read) {
            if (box.room >= box.size || box.left() < 0) {
                return NOT_POSSIBLE;
            }
        }
        if (yard.boxes.size() + read.size() > 12) {
            return LIMIT;
        }
        keep();
        yard.boxes.addAll(read);
        pad = "";
        return yard.boxes.size();
    }

    private int readNest(int start, Box holder, List<Box> read) {
        Matcher matcher = Pattern.compile("([A-Z]+)s(\\d+)r(\\d+)g(\\d+)").matcher(pad);
        if (!matcher.find(start)) {
            throw new IllegalStateException("no nest where one was found");
        }
        Box box = new Box();
        box.label = matcher.group(1);
        box.size = Integer.parseInt(matcher.group(2));
        box.room = Integer.parseInt(matcher.group(3));
        box.gaps = Integer.parseInt(matcher.group(4));
        read.add(box);
        if (holder != null) {
            box.enter(holder);
        }
        int end = matcher.end();
        if (end < pad.length() && pad.charAt(end) == '[') {
            end++;
            while (pad.charAt(end) != ']') {
                end = readNest(end, box, read);
            }
            end++;
        }
        return end;
    }

    int sign(int crate, int place) {
        if (!has(crate) || place < 0) {
            return INVALID;
        }
        String text = box(crate).text();
        return place < text.length() ? text.charAt(place) : NONE;
    }

    int crate(int crate, int what) {
        if (!has(crate) || what < 0 || what > 14) {
            return INVALID;
        }
        Box box = box(crate);
        int load = 0;
        for (Box other : yard.boxes) {
            load += other.around().contains(box) ? 1 : 0;
        }
        int[] all = {box.size, box.room, box.gaps, box.label.length(), numberOf(box.holder), box.around().size(),
            box.pile.size(), load, box.left(), box.holder == null ? 0 : box.holder.pile.indexOf(box), box.effort(),
            yard.canTell(box) ? 1 : 0, box.lettersSeen(), bestFor(box), whyNotGround(box)};
        return all[what];
    }

    private int bestFor(Box box) {
        for (int left = 0; left <= 60; left++) {
            for (Box other : yard.boxes) {
                boolean allowed = other != box && !other.around().contains(box) && other != box.holder;
                if (allowed && other.left() - box.size == left) {
                    return numberOf(other);
                }
            }
        }
        return NONE;
    }

    int letter(int crate, int place) {
        if (!has(crate) || place < 0 || place > 3) {
            return INVALID;
        }
        String label = box(crate).label;
        return place < label.length() ? label.charAt(place) - 'A' : NONE;
    }

    private static int signNumber(char sign) {
        return sign == '?' ? 26 : sign == '-' ? 27 : sign - 'A';
    }

    int seen(int crate, int place) {
        return !has(crate) || place < 0 || place > 3 ? INVALID : signNumber(box(crate).signs().charAt(place));
    }

    int effort(int size, int way) {
        if (size < 1 || size > 60 || way < 0 || way > 1) {
            return INVALID;
        }
        int sum = 0;
        for (Box box : yard.boxes) {
            sum += box.size == size ? box.effort() : 0;
        }
        return sum;
    }

    int alike(int first, int second, int third, int fourth) {
        int[] pattern = {first, second, third, fourth};
        int alike = 0;
        for (int sign : pattern) {
            if (sign < 0 || sign > 28) {
                return INVALID;
            }
        }
        for (Box box : yard.boxes) {
            boolean same = true;
            for (int place = 0; place < 4; place++) {
                same = same && (pattern[place] == 28 || pattern[place] == signNumber(box.signs().charAt(place)));
            }
            alike += same ? 1 : 0;
        }
        return alike;
    }

    /** All nests in the order of their numbers, so that the first of the longest ones stays. */
    private List<Box> longest(List<Box> start) {
        List<Box> best = new ArrayList<>(start);
        for (Box box : yard.boxes) {
            boolean loose = box.holder == null && box.pile.isEmpty();
            if (loose && (start.isEmpty() || box.size <= start.get(start.size() - 1).room)) {
                List<Box> longer = new ArrayList<>(start);
                longer.add(box);
                List<Box> found = longest(longer);
                best = found.size() > best.size() ? found : best;
            }
        }
        return best;
    }

    int nest(int place) {
        List<Box> nest = longest(new ArrayList<>());
        return place < 0 ? INVALID : place < nest.size() ? numberOf(nest.get(place)) : NONE;
    }

    int count(int what) {
        int[] all = new int[15];
        Set<String> rows = new HashSet<>();
        for (Box box : yard.boxes) {
            all[0]++;
            all[1] += box.holder == null ? 1 : 0;
            all[2] += box.holder == null && box.pile.isEmpty() ? 1 : 0;
            all[3] = Math.max(all[3], box.around().size());
            all[4] += box.size;
            all[5] += box.left();
            all[7] += box.label.length();
            all[11] += box.effort();
            rows.add(box.signs());
        }
        all[6] = yard.told();
        all[8] = yard.lettersSeen();
        all[9] = rows.size();
        all[10] = what == 10 ? longest(new ArrayList<>()).size() : 0;
        all[12] = yard.refused;
        all[13] = pad.length();
        all[14] = history.size();
        return what >= 0 && what < all.length ? all[what] : INVALID;
    }

    double full() {
        double lying = 0;
        int rooms = 0;
        for (Box box : yard.boxes) {
            rooms += box.room;
            lying += box.holder == null ? 0 : box.size;
        }
        return rooms == 0 ? 0.0 : lying / rooms;
    }

    int ifTurned(int crate, int what) {
        if (!has(crate) || what < 0 || what > 1) {
            return INVALID;
        }
        Yard other = yard.copy();
        other.boxes.get(crate).turnSlats();
        return what == 0 ? other.lettersSeen() : other.told();
    }

    int bestTurn() {
        int best = NONE;
        for (int crate = 0; crate < yard.boxes.size(); crate++) {
            if (best == NONE || ifTurned(crate, 0) > ifTurned(best, 0)) {
                best = crate;
            }
        }
        return best;
    }

    int undo() {
        if (history.isEmpty()) {
            return NOT_POSSIBLE;
        }
        yard = history.remove(history.size() - 1);
        return history.size();
    }

    int save() {
        snapshot = yard.copy();
        return yard.boxes.size();
    }

    int restore() {
        if (snapshot == null) {
            return NOT_POSSIBLE;
        }
        keep();
        yard = snapshot.copy();
        return yard.boxes.size();
    }
}
