/**
 * Nested crates whose labels show through the slats.
 *
 * Every row is made in a constructor and used again, so that no call makes an object.
 */
public final class SlatCrates {
    public static final int INVALID_ARGUMENT = -1;
    public static final int NOT_POSSIBLE = -2;
    public static final int LIMIT_REACHED = -3;
    public static final int NOT_FOUND = -4;

    private static final int MOST_CRATES = 12;
    private static final int MOST_SIZE = 60;
    private static final int MOST_STATES = 4;
    private static final int MOST_SIGNS = 80;
    private static final int FIRST_CODE = 33;
    private static final int LAST_CODE = 126;

    private static final int PLACES = 4;
    private static final int ALL_GAPS = 15;
    private static final int LETTERS = 26;
    private static final int LABEL_BASE = 27;
    private static final int MOST_LABEL = 27 * 27 * 27 * 27 - 1;
    private static final int NO_LETTER = -1;

    private static final int HIDDEN = 26;
    private static final int BARE = 27;
    private static final int WHATEVER = 28;

    private static final int DONE = 10;
    private static final int NO_REASON = 0;
    private static final int NOT_TOPMOST = 1;
    private static final int INTO_ITSELF = 2;
    private static final int TOO_LITTLE_ROOM = 3;
    private static final int ON_GROUND_ALREADY = 4;
    private static final int PILE_NOT_EMPTY = 5;

    /** The holder of a crate that stands on the ground. */
    private static final int NOWHERE = -1;

    private final Stock now = new Stock();
    private final Stock tried = new Stock();
    private final Stock snapshot = new Stock();
    private boolean snapshotTaken = false;
    private final History history = new History();
    private final Pad pad = new Pad();
    private final NestReader reader = new NestReader();
    private final NestWriter writer = new NestWriter();
    private final View view = new View();
    private final LooseNest looseNest = new LooseNest();

    public SlatCrates() {
    }

    // ---- crates

    public int make(int size, int room, int gaps, int label) {
        if (size < 1 || size > MOST_SIZE || room < 0 || room >= size) {
            return INVALID_ARGUMENT;
        }
        if (gaps < 0 || gaps > ALL_GAPS || !isLabel(label)) {
            return INVALID_ARGUMENT;
        }
        if (now.crates() >= MOST_CRATES) {
            return LIMIT_REACHED;
        }
        history.keep(now);
        return now.add(size, room, gaps, label);
    }

    public int put(int crate, int into) {
        if (!now.isCrate(crate) || !now.isCrate(into)) {
            return INVALID_ARGUMENT;
        }
        int reason = now.reasonNotToPut(crate, into);
        if (reason != NO_REASON) {
            return refuse(reason);
        }
        history.keep(now);
        now.lay(crate, into);
        return DONE + now.depthOf(crate);
    }

    public int ground(int crate) {
        if (!now.isCrate(crate)) {
            return INVALID_ARGUMENT;
        }
        int reason = now.reasonNotToGround(crate);
        if (reason != NO_REASON) {
            return refuse(reason);
        }
        history.keep(now);
        now.lift(crate);
        return DONE;
    }

    public int turn(int crate) {
        if (!now.isCrate(crate)) {
            return INVALID_ARGUMENT;
        }
        history.keep(now);
        now.turnSlats(crate);
        return now.gapsOf(crate);
    }

    public int breakUp(int crate) {
        if (!now.isCrate(crate)) {
            return INVALID_ARGUMENT;
        }
        int reason = now.reasonNotToBreak(crate);
        if (reason != NO_REASON) {
            return refuse(reason);
        }
        history.keep(now);
        now.remove(crate);
        return DONE + now.crates();
    }

    // ---- texts

    public int append(int code) {
        if (code < FIRST_CODE || code > LAST_CODE) {
            return INVALID_ARGUMENT;
        }
        if (pad.length() >= MOST_SIGNS) {
            return LIMIT_REACHED;
        }
        pad.add(code);
        return pad.length();
    }

    public int clear() {
        int length = pad.length();
        pad.empty();
        return length;
    }

    public int fault() {
        return reader.read(pad);
    }

    public int load() {
        if (reader.read(pad) != NOT_FOUND || !reader.found().isSound()) {
            return NOT_POSSIBLE;
        }
        if (now.crates() + reader.found().crates() > MOST_CRATES) {
            return LIMIT_REACHED;
        }
        history.keep(now);
        now.addAll(reader.found());
        pad.empty();
        return now.crates();
    }

    public int sign(int crate, int place) {
        if (!now.isCrate(crate) || place < 0) {
            return INVALID_ARGUMENT;
        }
        writer.write(now, crate);
        return writer.signAt(place);
    }

    // ---- looks; nothing is changed

    public int crate(int crate, int what) {
        if (!now.isCrate(crate)) {
            return INVALID_ARGUMENT;
        }
        switch (what) {
            case 0: return now.sizeOf(crate);
            case 1: return now.roomOf(crate);
            case 2: return now.gapsOf(crate);
            case 3: return now.lettersOf(crate);
            case 4: return now.isOnGround(crate) ? NOT_FOUND : now.holderOf(crate);
            case 5: return now.depthOf(crate);
            case 6: return now.pileOf(crate);
            case 7: return now.loadOf(crate);
            case 8: return now.roomLeftIn(crate);
            case 9: return now.placeOf(crate);
            case 10: return Ways.effortFromBelow(now, crate);
            case 11: return viewNow().canTell(crate) ? 1 : 0;
            case 12: return viewNow().lettersSeenOf(crate);
            case 13: return now.bestHolderFor(crate);
            case 14: return now.reasonNotToGround(crate);
            default: return INVALID_ARGUMENT;
        }
    }

    public int letter(int crate, int place) {
        if (!now.isCrate(crate) || !isPlace(place)) {
            return INVALID_ARGUMENT;
        }
        int letter = now.letterAt(crate, place);
        return letter == NO_LETTER ? NOT_FOUND : letter;
    }

    public int seen(int crate, int place) {
        if (!now.isCrate(crate) || !isPlace(place)) {
            return INVALID_ARGUMENT;
        }
        return viewNow().signAt(crate, place);
    }

    public int whyNot(int crate, int into) {
        if (!now.isCrate(crate) || !now.isCrate(into)) {
            return INVALID_ARGUMENT;
        }
        return now.reasonNotToPut(crate, into);
    }

    public int effort(int size, int way) {
        if (size < 1 || size > MOST_SIZE) {
            return INVALID_ARGUMENT;
        }
        switch (way) {
            case 0: return Ways.sumGoingUp(now, size);
            case 1: return Ways.sumGoingDown(now, size);
            default: return INVALID_ARGUMENT;
        }
    }

    public int alike(int first, int second, int third, int fourth) {
        if (!isWanted(first) || !isWanted(second) || !isWanted(third) || !isWanted(fourth)) {
            return INVALID_ARGUMENT;
        }
        viewNow();
        int alike = 0;
        for (int crate = 0; crate < now.crates(); crate++) {
            if (view.shows(crate, 0, first) && view.shows(crate, 1, second)
                    && view.shows(crate, 2, third) && view.shows(crate, 3, fourth)) {
                alike++;
            }
        }
        return alike;
    }

    public int nest(int place) {
        if (place < 0) {
            return INVALID_ARGUMENT;
        }
        looseNest.find(now);
        return looseNest.crateAt(place);
    }

    public int count(int what) {
        switch (what) {
            case 0: return now.crates();
            case 1: return now.onGround();
            case 2: return now.loose();
            case 3: return now.greatestDepth();
            case 4: return now.sizes();
            case 5: return now.rooms() - now.sizesLying();
            case 6: return viewNow().tellable();
            case 7: return now.letters();
            case 8: return viewNow().lettersSeen();
            case 9: return viewNow().differentRows();
            case 10: return looseNest.find(now);
            case 11: return Ways.sumOfAll(now);
            case 12: return now.refused();
            case 13: return pad.length();
            case 14: return history.length();
            default: return INVALID_ARGUMENT;
        }
    }

    public double full() {
        int rooms = now.rooms();
        if (rooms <= 0) {
            return 0.0;
        }
        return (double) now.sizesLying() / rooms;
    }

    // ---- what would be; nothing is changed

    public int ifTurned(int crate, int what) {
        if (!now.isCrate(crate)) {
            return INVALID_ARGUMENT;
        }
        switch (what) {
            case 0: return viewTurned(crate).lettersSeen();
            case 1: return viewTurned(crate).tellable();
            default: return INVALID_ARGUMENT;
        }
    }

    public int bestTurn() {
        int best = NOT_FOUND;
        int most = -1;
        for (int crate = 0; crate < now.crates(); crate++) {
            int letters = viewTurned(crate).lettersSeen();
            if (letters > most) {
                most = letters;
                best = crate;
            }
        }
        return best;
    }

    // ---- history, snapshot

    public int undo() {
        if (history.length() <= 0) {
            return NOT_POSSIBLE;
        }
        history.takeBack(now);
        return history.length();
    }

    public int save() {
        snapshot.copyFrom(now);
        snapshotTaken = true;
        return now.crates();
    }

    public int restore() {
        if (!snapshotTaken) {
            return NOT_POSSIBLE;
        }
        history.keep(now);
        now.copyFrom(snapshot);
        return now.crates();
    }

    // ---- what the calls share

    /** A refusal is a change too: it is kept in the history before it is counted. */
    private int refuse(int reason) {
        history.keep(now);
        now.countRefusal();
        return reason;
    }

    private View viewNow() {
        view.look(now);
        return view;
    }

    private View viewTurned(int crate) {
        tried.copyFrom(now);
        tried.turnSlats(crate);
        view.look(tried);
        return view;
    }

    private static boolean isPlace(int place) {
        return place >= 0 && place < PLACES;
    }

    private static boolean isWanted(int sign) {
        return sign >= 0 && sign <= WHATEVER;
    }

    /** A digit 0 below the highest one would be a letter that is missing ahead of another. */
    private static boolean isLabel(int label) {
        if (label < 1 || label > MOST_LABEL) {
            return false;
        }
        int rest = label;
        for (int place = 0; place < PLACES && rest > 0; place++) {
            if (rest % LABEL_BASE == 0) {
                return false;
            }
            rest /= LABEL_BASE;
        }
        return true;
    }

    /** The crates and the count of refusals: all that the history and the snapshot keep. */
    private static final class Stock {
        private final int[] sizeRow = new int[MOST_CRATES];
        private final int[] roomRow = new int[MOST_CRATES];
        private final int[] gapsRow = new int[MOST_CRATES];
        private final int[] labelRow = new int[MOST_CRATES];
        private final int[] holderRow = new int[MOST_CRATES];
        private final int[] placeRow = new int[MOST_CRATES];
        private int crates = 0;
        private int refused = 0;

        boolean isCrate(int crate) {
            return crate >= 0 && crate < crates;
        }

        int crates() {
            return crates;
        }

        int refused() {
            return refused;
        }

        int sizeOf(int crate) {
            return isCrate(crate) ? sizeRow[crate] : 0;
        }

        int roomOf(int crate) {
            return isCrate(crate) ? roomRow[crate] : 0;
        }

        int gapsOf(int crate) {
            return isCrate(crate) ? gapsRow[crate] : 0;
        }

        int holderOf(int crate) {
            return isCrate(crate) ? holderRow[crate] : NOWHERE;
        }

        int placeOf(int crate) {
            return isCrate(crate) ? placeRow[crate] : 0;
        }

        int letterAt(int crate, int place) {
            int rest = isCrate(crate) ? labelRow[crate] : 0;
            for (int ahead = 0; ahead < place && ahead < PLACES; ahead++) {
                rest /= LABEL_BASE;
            }
            int digit = rest % LABEL_BASE;
            return digit == 0 ? NO_LETTER : digit - 1;
        }

        int lettersOf(int crate) {
            int letters = 0;
            for (int place = 0; place < PLACES; place++) {
                if (letterAt(crate, place) != NO_LETTER) {
                    letters++;
                }
            }
            return letters;
        }

        boolean isOnGround(int crate) {
            return holderOf(crate) == NOWHERE;
        }

        int depthOf(int crate) {
            int depth = 0;
            int around = holderOf(crate);
            while (around != NOWHERE && depth < MOST_CRATES) {
                depth++;
                around = holderOf(around);
            }
            return depth;
        }

        boolean isAround(int outer, int inner) {
            int around = holderOf(inner);
            for (int step = 0; step < MOST_CRATES && around != NOWHERE; step++) {
                if (around == outer) {
                    return true;
                }
                around = holderOf(around);
            }
            return false;
        }

        int pileOf(int crate) {
            int pile = 0;
            for (int other = 0; other < crates; other++) {
                if (crate != NOWHERE && holderRow[other] == crate) {
                    pile++;
                }
            }
            return pile;
        }

        int crateInPile(int holder, int place) {
            for (int crate = 0; crate < crates; crate++) {
                if (holderRow[crate] == holder && placeRow[crate] == place) {
                    return crate;
                }
            }
            return NOWHERE;
        }

        int loadOf(int crate) {
            int load = 0;
            for (int other = 0; other < crates; other++) {
                if (isAround(crate, other)) {
                    load++;
                }
            }
            return load;
        }

        int roomLeftIn(int crate) {
            int left = roomOf(crate);
            for (int other = 0; other < crates; other++) {
                if (holderRow[other] == crate) {
                    left -= sizeRow[other];
                }
            }
            return left;
        }

        /** How many crates of its pile lie above a crate. */
        int above(int crate) {
            return isOnGround(crate) ? 0 : pileOf(holderOf(crate)) - 1 - placeOf(crate);
        }

        boolean isLoose(int crate) {
            return isOnGround(crate) && pileOf(crate) == 0;
        }

        int reasonNotToPut(int crate, int into) {
            if (above(crate) > 0) {
                return NOT_TOPMOST;
            }
            if (into == crate || isAround(crate, into)) {
                return INTO_ITSELF;
            }
            boolean staysIn = holderOf(crate) == into;
            if (!staysIn && roomLeftIn(into) < sizeOf(crate)) {
                return TOO_LITTLE_ROOM;
            }
            return NO_REASON;
        }

        int reasonNotToGround(int crate) {
            if (above(crate) > 0) {
                return NOT_TOPMOST;
            }
            return isOnGround(crate) ? ON_GROUND_ALREADY : NO_REASON;
        }

        int reasonNotToBreak(int crate) {
            if (above(crate) > 0) {
                return NOT_TOPMOST;
            }
            return pileOf(crate) > 0 ? PILE_NOT_EMPTY : NO_REASON;
        }

        int bestHolderFor(int crate) {
            int best = NOT_FOUND;
            int least = MOST_SIZE;
            for (int into = 0; into < crates; into++) {
                boolean allowed = into != crate && into != holderOf(crate) && !isAround(crate, into);
                int left = roomLeftIn(into) - sizeOf(crate);
                if (allowed && left >= 0 && left < least) {
                    least = left;
                    best = into;
                }
            }
            return best;
        }

        int onGround() {
            int standing = 0;
            for (int crate = 0; crate < crates; crate++) {
                if (isOnGround(crate)) {
                    standing++;
                }
            }
            return standing;
        }

        int loose() {
            int loose = 0;
            for (int crate = 0; crate < crates; crate++) {
                if (isLoose(crate)) {
                    loose++;
                }
            }
            return loose;
        }

        int greatestDepth() {
            int greatest = 0;
            for (int crate = 0; crate < crates; crate++) {
                greatest = Math.max(greatest, depthOf(crate));
            }
            return greatest;
        }

        int sizes() {
            int sum = 0;
            for (int crate = 0; crate < crates; crate++) {
                sum += sizeRow[crate];
            }
            return sum;
        }

        int sizesLying() {
            int sum = 0;
            for (int crate = 0; crate < crates; crate++) {
                sum += isOnGround(crate) ? 0 : sizeRow[crate];
            }
            return sum;
        }

        int rooms() {
            int sum = 0;
            for (int crate = 0; crate < crates; crate++) {
                sum += roomRow[crate];
            }
            return sum;
        }

        int letters() {
            int sum = 0;
            for (int crate = 0; crate < crates; crate++) {
                sum += lettersOf(crate);
            }
            return sum;
        }

        /** A text tells neither that a room is less than its size nor that a pile fits. */
        boolean isSound() {
            for (int crate = 0; crate < crates; crate++) {
                if (roomRow[crate] >= sizeRow[crate] || roomLeftIn(crate) < 0) {
                    return false;
                }
            }
            return true;
        }

        int add(int size, int room, int gaps, int label) {
            if (crates >= MOST_CRATES) {
                return LIMIT_REACHED;
            }
            int crate = crates;
            crates++;
            sizeRow[crate] = size;
            roomRow[crate] = room;
            gapsRow[crate] = gaps;
            labelRow[crate] = label;
            lift(crate);
            return crate;
        }

        void lift(int crate) {
            if (isCrate(crate)) {
                holderRow[crate] = NOWHERE;
                placeRow[crate] = 0;
            }
        }

        void lay(int crate, int into) {
            if (isCrate(crate) && isCrate(into)) {
                lift(crate);
                placeRow[crate] = pileOf(into);
                holderRow[crate] = into;
            }
        }

        void turnSlats(int crate) {
            if (isCrate(crate)) {
                int gaps = gapsRow[crate];
                gapsRow[crate] = (gaps << 1 | gaps >> PLACES - 1) & ALL_GAPS;
            }
        }

        void remove(int crate) {
            if (!isCrate(crate)) {
                return;
            }
            for (int to = crate; to + 1 < crates; to++) {
                sizeRow[to] = sizeRow[to + 1];
                roomRow[to] = roomRow[to + 1];
                gapsRow[to] = gapsRow[to + 1];
                labelRow[to] = labelRow[to + 1];
                holderRow[to] = holderRow[to + 1];
                placeRow[to] = placeRow[to + 1];
            }
            crates--;
            for (int other = 0; other < crates; other++) {
                if (holderRow[other] > crate) {
                    holderRow[other]--;
                }
            }
        }

        void addAll(Stock others) {
            int first = crates;
            for (int other = 0; other < others.crates; other++) {
                int crate = add(others.sizeRow[other], others.roomRow[other],
                        others.gapsRow[other], others.labelRow[other]);
                if (isCrate(crate) && !others.isOnGround(other)) {
                    holderRow[crate] = first + others.holderRow[other];
                    placeRow[crate] = others.placeRow[other];
                }
            }
        }

        void countRefusal() {
            refused++;
        }

        void empty() {
            crates = 0;
        }

        void setLabel(int crate, int label) {
            if (isCrate(crate)) {
                labelRow[crate] = label;
            }
        }

        void setSize(int crate, int size) {
            if (isCrate(crate)) {
                sizeRow[crate] = size;
            }
        }

        void setRoom(int crate, int room) {
            if (isCrate(crate)) {
                roomRow[crate] = room;
            }
        }

        void setGaps(int crate, int gaps) {
            if (isCrate(crate)) {
                gapsRow[crate] = gaps;
            }
        }

        void copyFrom(Stock other) {
            System.arraycopy(other.sizeRow, 0, sizeRow, 0, MOST_CRATES);
            System.arraycopy(other.roomRow, 0, roomRow, 0, MOST_CRATES);
            System.arraycopy(other.gapsRow, 0, gapsRow, 0, MOST_CRATES);
            System.arraycopy(other.labelRow, 0, labelRow, 0, MOST_CRATES);
            System.arraycopy(other.holderRow, 0, holderRow, 0, MOST_CRATES);
            System.arraycopy(other.placeRow, 0, placeRow, 0, MOST_CRATES);
            crates = other.crates;
            refused = other.refused;
        }
    }

    /** What is seen of all crates from outside, looked up once for all comparisons of a call. */
    private static final class View {
        private static final int SIGN_BITS = 5;
        private static final int SIGN_MASK = 31;

        private final int[] sizeRow = new int[MOST_CRATES];
        private final int[] depthRow = new int[MOST_CRATES];
        /** The four signs of each crate in one number, so that rows compare at once. */
        private final int[] signsRow = new int[MOST_CRATES];
        private int crates = 0;

        void look(Stock stock) {
            crates = Math.min(stock.crates(), MOST_CRATES);
            for (int crate = 0; crate < crates; crate++) {
                sizeRow[crate] = stock.sizeOf(crate);
                depthRow[crate] = stock.depthOf(crate);
                signsRow[crate] = signsOf(stock, crate);
            }
        }

        private static int signsOf(Stock stock, int crate) {
            int open = openAround(stock, crate);
            int signs = 0;
            for (int place = 0; place < PLACES; place++) {
                int sign = HIDDEN;
                if ((open >> place & 1) == 1) {
                    int letter = stock.letterAt(crate, place);
                    sign = letter == NO_LETTER ? BARE : letter;
                }
                signs |= sign << place * SIGN_BITS;
            }
            return signs;
        }

        private static int openAround(Stock stock, int crate) {
            int open = ALL_GAPS;
            int around = stock.holderOf(crate);
            for (int step = 0; step < MOST_CRATES && around != NOWHERE; step++) {
                open &= stock.gapsOf(around);
                around = stock.holderOf(around);
            }
            return open;
        }

        int signAt(int crate, int place) {
            boolean known = crate >= 0 && crate < crates && isPlace(place);
            return known ? signsRow[crate] >> place * SIGN_BITS & SIGN_MASK : HIDDEN;
        }

        boolean shows(int crate, int place, int wanted) {
            return wanted == WHATEVER || signAt(crate, place) == wanted;
        }

        int lettersSeenOf(int crate) {
            int letters = 0;
            for (int place = 0; place < PLACES; place++) {
                if (signAt(crate, place) < LETTERS) {
                    letters++;
                }
            }
            return letters;
        }

        int lettersSeen() {
            int letters = 0;
            for (int crate = 0; crate < crates; crate++) {
                letters += lettersSeenOf(crate);
            }
            return letters;
        }

        boolean canTell(int crate) {
            if (crate < 0 || crate >= crates) {
                return false;
            }
            for (int other = 0; other < crates; other++) {
                if (other != crate && sizeRow[other] == sizeRow[crate]
                        && depthRow[other] == depthRow[crate]
                        && signsRow[other] == signsRow[crate]) {
                    return false;
                }
            }
            return true;
        }

        int tellable() {
            int tellable = 0;
            for (int crate = 0; crate < crates; crate++) {
                if (canTell(crate)) {
                    tellable++;
                }
            }
            return tellable;
        }

        int differentRows() {
            int different = 0;
            for (int crate = 0; crate < crates; crate++) {
                boolean first = true;
                for (int earlier = 0; earlier < crate; earlier++) {
                    if (signsRow[earlier] == signsRow[crate]) {
                        first = false;
                    }
                }
                different += first ? 1 : 0;
            }
            return different;
        }
    }

    /** The ways to crates, told from below and from above. */
    private static final class Ways {
        private Ways() {
        }

        static int effortFromBelow(Stock stock, int crate) {
            int effort = 0;
            int inner = crate;
            for (int step = 0; step < MOST_CRATES && !stock.isOnGround(inner); step++) {
                effort += 1 + stock.above(inner);
                inner = stock.holderOf(inner);
            }
            return effort;
        }

        static int sumGoingUp(Stock stock, int size) {
            int sum = 0;
            for (int crate = 0; crate < stock.crates(); crate++) {
                if (stock.sizeOf(crate) == size) {
                    sum += effortFromBelow(stock, crate);
                }
            }
            return sum;
        }

        static int sumOfAll(Stock stock) {
            int sum = 0;
            for (int crate = 0; crate < stock.crates(); crate++) {
                sum += effortFromBelow(stock, crate);
            }
            return sum;
        }

        /** A crate on the ground itself is come to without effort, so only its load counts. */
        static int sumGoingDown(Stock stock, int size) {
            int sum = 0;
            for (int crate = 0; crate < stock.crates(); crate++) {
                if (stock.isOnGround(crate)) {
                    sum += sumInPile(stock, crate, size, 0, 0);
                }
            }
            return sum;
        }

        private static int sumInPile(Stock stock, int holder, int size, int effort, int depth) {
            if (depth >= MOST_CRATES) {
                return 0;
            }
            int sum = 0;
            int pile = stock.pileOf(holder);
            for (int place = 0; place < pile; place++) {
                int crate = stock.crateInPile(holder, place);
                int effortToIt = effort + 1 + (pile - 1 - place);
                if (stock.sizeOf(crate) == size) {
                    sum += effortToIt;
                }
                sum += sumInPile(stock, crate, size, effortToIt, depth + 1);
            }
            return sum;
        }
    }

    /** The longest nest that the loose crates could make. */
    private static final class LooseNest {
        /** How long a nest each loose crate could be the outermost one of; 0 for the others. */
        private final int[] lengthRow = new int[MOST_CRATES];
        private final int[] nestRow = new int[MOST_CRATES];
        private int length = 0;

        int find(Stock stock) {
            int crates = Math.min(stock.crates(), MOST_CRATES);
            measure(stock, crates);
            length = 0;
            int room = MOST_SIZE;
            int next = firstOfLongest(stock, crates, room);
            for (int step = 0; step < MOST_CRATES && next != NOWHERE; step++) {
                nestRow[step] = next;
                length = step + 1;
                next = firstOfLongest(stock, crates, stock.roomOf(next));
            }
            return length;
        }

        /** The smaller crates come first, as only smaller ones can follow in a nest. */
        private void measure(Stock stock, int crates) {
            for (int crate = 0; crate < crates; crate++) {
                lengthRow[crate] = 0;
            }
            for (int size = 1; size <= MOST_SIZE; size++) {
                for (int crate = 0; crate < crates; crate++) {
                    if (stock.sizeOf(crate) == size && stock.isLoose(crate)) {
                        lengthRow[crate] = 1 + longestIn(stock, crates, stock.roomOf(crate));
                    }
                }
            }
        }

        private int longestIn(Stock stock, int crates, int room) {
            int longest = 0;
            for (int crate = 0; crate < crates; crate++) {
                if (stock.sizeOf(crate) <= room && lengthRow[crate] > longest) {
                    longest = lengthRow[crate];
                }
            }
            return longest;
        }

        private int firstOfLongest(Stock stock, int crates, int room) {
            int longest = longestIn(stock, crates, room);
            for (int crate = 0; crate < crates; crate++) {
                if (longest > 0 && lengthRow[crate] == longest && stock.sizeOf(crate) <= room) {
                    return crate;
                }
            }
            return NOWHERE;
        }

        int crateAt(int place) {
            return place >= 0 && place < length ? nestRow[place] : NOT_FOUND;
        }
    }

    /** The characters that were appended. */
    private static final class Pad {
        private final char[] signs = new char[MOST_SIGNS];
        private int length = 0;

        int length() {
            return length;
        }

        void add(int code) {
            if (length < MOST_SIGNS) {
                signs[length] = (char) code;
                length++;
            }
        }

        void empty() {
            length = 0;
        }

        char signAt(int place) {
            return place >= 0 && place < length ? signs[place] : ' ';
        }
    }

    /** Reads the pad sign by sign, which finds its fault and its crates at once. */
    private static final class NestReader {
        private static final int LABEL = 0;
        private static final int SIZE = 1;
        private static final int ROOM = 2;
        private static final int GAPS = 3;
        private static final int BEHIND_PILE = 4;

        private final Stock found = new Stock();
        private int part = LABEL;
        /** How many signs of the part have been read. */
        private int signs = 0;
        /** What the signs of the part tell so far. */
        private int value = 0;
        /** The crate whose label was read last. */
        private int latest = NOWHERE;
        /** The crate whose pile is being read. */
        private int inside = NOWHERE;

        Stock found() {
            return found;
        }

        int read(Pad pad) {
            found.empty();
            latest = NOWHERE;
            inside = NOWHERE;
            begin(LABEL);
            for (int place = 0; place < pad.length(); place++) {
                if (!take(pad.signAt(place))) {
                    return place;
                }
            }
            return isComplete() ? NOT_FOUND : pad.length();
        }

        private boolean isComplete() {
            boolean nestEnded = part == BEHIND_PILE || part == GAPS && signs > 0;
            return nestEnded && inside == NOWHERE;
        }

        private void begin(int nextPart) {
            part = nextPart;
            signs = 0;
            value = 0;
        }

        private boolean take(char sign) {
            switch (part) {
                case LABEL: return takeLetter(sign) || takeMark(sign, 's', SIZE);
                case SIZE: return takeDigit(sign, 1, MOST_SIZE) || takeMark(sign, 'r', ROOM);
                case ROOM: return takeDigit(sign, 0, MOST_SIZE - 1) || takeMark(sign, 'g', GAPS);
                case GAPS: return takeDigit(sign, 0, ALL_GAPS) || takeOpening(sign)
                        || signs > 0 && takeBehindNest(sign);
                default: return takeBehindNest(sign);
            }
        }

        private boolean takeLetter(char sign) {
            if (sign < 'A' || sign > 'Z' || signs >= PLACES) {
                return false;
            }
            if (signs == 0) {
                latest = found.add(0, 0, 0, 0);
                found.lay(latest, inside);
            }
            value += (sign - 'A' + 1) * weightOf(signs);
            signs++;
            found.setLabel(latest, value);
            return true;
        }

        private static int weightOf(int place) {
            int weight = 1;
            for (int ahead = 0; ahead < place && ahead < PLACES; ahead++) {
                weight *= LABEL_BASE;
            }
            return weight;
        }

        private boolean takeMark(char sign, char mark, int nextPart) {
            if (sign != mark || signs == 0) {
                return false;
            }
            begin(nextPart);
            return true;
        }

        /** A digit is right if a number from the least to the most begins so: all have one digit or two. */
        private boolean takeDigit(char sign, int least, int most) {
            if (sign < '0' || sign > '9') {
                return false;
            }
            int longer = value * 10 + (sign - '0');
            boolean right = signs == 0 ? longer >= least : value > 0 && longer <= most;
            if (right) {
                value = longer;
                signs++;
                setNumber();
            }
            return right;
        }

        private void setNumber() {
            switch (part) {
                case SIZE: found.setSize(latest, value); break;
                case ROOM: found.setRoom(latest, value); break;
                default: found.setGaps(latest, value); break;
            }
        }

        private boolean takeOpening(char sign) {
            if (sign != '[' || signs == 0) {
                return false;
            }
            inside = latest;
            begin(LABEL);
            return true;
        }

        private boolean takeBehindNest(char sign) {
            if (sign == ']' && inside != NOWHERE) {
                inside = found.holderOf(inside);
                begin(BEHIND_PILE);
                return true;
            }
            begin(LABEL);
            return takeLetter(sign);
        }
    }

    /** Writes a crate and its load as a nest. */
    private static final class NestWriter {
        /** Four letters, three marks with two digits each, and two brackets. */
        private static final int MOST_SIGNS_OF_CRATE = 15;

        private final char[] signs = new char[MOST_CRATES * MOST_SIGNS_OF_CRATE];
        private int length = 0;

        void write(Stock stock, int crate) {
            length = 0;
            writeNest(stock, crate, 0);
        }

        int signAt(int place) {
            return place >= 0 && place < length ? signs[place] : NOT_FOUND;
        }

        private void writeNest(Stock stock, int crate, int depth) {
            if (depth >= MOST_CRATES) {
                return;
            }
            writeLabel(stock, crate);
            writeNumber('s', stock.sizeOf(crate));
            writeNumber('r', stock.roomOf(crate));
            writeNumber('g', stock.gapsOf(crate));
            int pile = stock.pileOf(crate);
            if (pile == 0) {
                return;
            }
            writeSign('[');
            for (int place = 0; place < pile; place++) {
                writeNest(stock, stock.crateInPile(crate, place), depth + 1);
            }
            writeSign(']');
        }

        private void writeLabel(Stock stock, int crate) {
            int letters = stock.lettersOf(crate);
            for (int place = 0; place < letters; place++) {
                writeSign((char) ('A' + stock.letterAt(crate, place)));
            }
        }

        private void writeNumber(char mark, int number) {
            writeSign(mark);
            if (number >= 10) {
                writeSign((char) ('0' + number / 10));
            }
            writeSign((char) ('0' + number % 10));
        }

        private void writeSign(char sign) {
            if (length < signs.length) {
                signs[length] = sign;
                length++;
            }
        }
    }

    /** The states before the latest changes, the oldest one first. */
    private static final class History {
        private final Stock[] states = new Stock[MOST_STATES];
        private int length = 0;

        History() {
            for (int state = 0; state < states.length; state++) {
                states[state] = new Stock();
            }
        }

        int length() {
            return length;
        }

        void keep(Stock stock) {
            if (length >= MOST_STATES) {
                dropOldest();
            }
            states[length].copyFrom(stock);
            length++;
        }

        /** The stock of the oldest state is used again at the end, so that none is made anew. */
        private void dropOldest() {
            Stock oldest = states[0];
            for (int state = 0; state + 1 < states.length; state++) {
                states[state] = states[state + 1];
            }
            states[states.length - 1] = oldest;
            length--;
        }

        void takeBack(Stock stock) {
            if (length > 0) {
                length--;
                stock.copyFrom(states[length]);
            }
        }
    }
}
