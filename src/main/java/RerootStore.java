/**
 * Rows in versions that all stay, with links between them that reading turns, follows or cuts, and a
 * ledger of every step. The document's numbered promises say what each public method answers.
 */
public final class RerootStore {
    public static final int NONE = -1;

    private static final int ABSENT = -2;
    private static final int FAULTY = -4;
    private static final int REFUSED = -5;
    private static final int BLANK = -6;

    private static final int MOST_BYTES = 500;
    private static final int MOST_CELLS = 12;
    private static final int MOST_CUT = 20;
    private static final int MOST_PAIRS = 16;
    private static final int MOST_TOLD = 30;
    private static final int MOST_ACTS = 30;
    private static final int MOST_TOLD_VERSIONS = 20;
    private static final int MOST_VERSIONS = 40;
    private static final int MOST_TRIED_VERSIONS = 200;
    private static final int MOST_COLOURS = 4;
    private static final int IMAGES = 3;

    private static final int TURNING = 0;
    private static final int FOLLOWING = 1;
    private static final int CUTTING = 2;

    private static final int READ = 1;
    private static final int SET = 2;
    private static final int JOIN = 3;
    private static final int FIND = 4;
    private static final int SNAP = 5;
    private static final int MERGE = 6;
    private static final int PATCH = 7;
    private static final int STORE = 8;
    private static final int PAIR = 9;

    private final Tape tape = new Tape();
    private final Story[] images = new Story[IMAGES];
    private final Shelf trial = new Shelf(MOST_VERSIONS);
    private final Painter painter = new Painter();
    private Story now = new Story();
    private Story spare = new Story();

    public RerootStore() {
        for (int k = 0; k < images.length; k++) {
            images[k] = new Story();
        }
    }

    // The tape, and what it tells.

    public int feed(int a, int b, int c, int d, int e) {
        if (tape.bytes + 20 > MOST_BYTES) {
            return NONE;
        }
        tape.put(a);
        tape.put(b);
        tape.put(c);
        tape.put(d);
        tape.put(e);
        return tape.bytes;
    }

    public int end(int n) {
        if (n < 0 || n > tape.bytes) {
            return NONE;
        }
        tape.bytes = n;
        return n;
    }

    public int store() {
        tape.begin();
        spare.forget();
        // A line has a byte at least, so the tape's bytes bound the lines.
        for (int line = 0; line < MOST_BYTES && tape.takesLine(spare); line++) {
            spare.tell(tape.kind, tape.one, tape.two, tape.three);
        }
        tape.bytes = 0;
        if (tape.fault != 0) {
            return FAULTY;
        }
        Story told = spare;
        spare = now;
        now = told;
        return now.lines;
    }

    public int fault(int what) {
        if (what == 0) {
            return tape.fault;
        }
        return what == 1 ? tape.faultPlace : NONE;
    }

    public int count(int what) {
        switch (what) {
            case 0: return now.shelf.size;
            case 1: return now.shelf.law;
            case 2: return now.shelf.limit;
            case 3: return now.shelf.made;
            case 4: return now.pairs;
            case 5: return now.deeds;
            case 6: return now.acts();
            case 7: return now.lines;
            case 8: return tape.bytes;
            default: return NONE;
        }
    }

    // What versions have: known, nothing is read.

    private boolean isThere() {
        return now.shelf.size > 0;
    }

    private boolean hasVersion(int version) {
        return now.shelf.has(version);
    }

    private boolean hasVersions(int version, int other) {
        return now.shelf.has(version) && now.shelf.has(other);
    }

    private boolean hasSpot(int version, int cell) {
        return now.shelf.has(version) && now.shelf.hasCell(cell);
    }

    public int cell(int version, int cell) {
        return hasSpot(version, cell) ? now.shelf.numberAt(version, cell) : ABSENT;
    }

    public int version(int version, int what) {
        if (!hasVersion(version) || what < 0 || what > 2) {
            return ABSENT;
        }
        return now.shelf.makingOf(version, what);
    }

    public int unlike(int version, int other) {
        if (!hasVersions(version, other)) {
            return ABSENT;
        }
        return now.shelf.unlikeCells(now.shelf.rowOf(version), now.shelf.rowOf(other));
    }

    public int first(int version) {
        return hasVersion(version) ? now.shelf.firstLike(version) : ABSENT;
    }

    public int meet(int version, int other) {
        return hasVersions(version, other) ? now.shelf.meeting(version, other) : ABSENT;
    }

    public int apart(int version, int other) {
        if (!hasVersions(version, other)) {
            return ABSENT;
        }
        int middle = now.shelf.meeting(version, other);
        return now.shelf.depthOf(version) + now.shelf.depthOf(other) - 2 * now.shelf.depthOf(middle);
    }

    public int root(int version, int cell) {
        return hasSpot(version, cell) ? now.shelf.rootOf(version, cell) : ABSENT;
    }

    public int roots(int version) {
        return hasVersion(version) ? Integer.bitCount(now.shelf.rootBits(version)) : ABSENT;
    }

    public int together(int version, int cell) {
        return hasSpot(version, cell) ? now.shelf.cellsRootedAs(version, cell) : ABSENT;
    }

    public int blame(int version, int cell) {
        return hasSpot(version, cell) ? now.shelf.lastSetter(version, cell) : ABSENT;
    }

    public int often(int version, int cell) {
        return hasSpot(version, cell) ? now.shelf.timesSet(version, cell) : ABSENT;
    }

    // Links and ways.

    public int state(int version, int what) {
        if (!hasVersion(version) || what < 0 || what > 3) {
            return ABSENT;
        }
        return now.shelf.linkOf(version, what);
    }

    public int length(int version) {
        return hasVersion(version) ? now.shelf.wayFrom(version) : ABSENT;
    }

    public int longest() {
        return isThere() ? now.shelf.longestWay() : ABSENT;
    }

    public int direct() {
        return isThere() ? now.shelf.directOnes() : ABSENT;
    }

    public int ways() {
        return isThere() ? now.shelf.allWays() : ABSENT;
    }

    public int snapping(int version) {
        return hasVersion(version) ? now.shelf.allWaysIfSnapped(version) : ABSENT;
    }

    public int snap() {
        if (!isThere()) {
            return ABSENT;
        }
        int best = NONE;
        int least = now.shelf.allWays();
        for (int version = 0; version < now.shelf.made; version++) {
            int links = now.shelf.allWaysIfSnapped(version);
            if (links < least) {
                least = links;
                best = version;
            }
        }
        return best;
    }

    public int busiest() {
        return isThere() ? now.shelf.mostPassed() : ABSENT;
    }

    private boolean hasAllOf(long set) {
        // Versions number 1 to 40 here, so the shift leaves just the bits that stand for none.
        return isThere() && set >>> now.shelf.made == 0L;
    }

    public long keeps(long set) {
        return hasAllOf(set) ? now.shelf.withWays(set) : ABSENT;
    }

    public int room(long set) {
        return hasAllOf(set) ? now.shelf.numbersIn(now.shelf.withWays(set)) : ABSENT;
    }

    // The ledger, and what it would be otherwise.

    public int ledger() {
        return isThere() ? now.shelf.steps : ABSENT;
    }

    public int spent(int deed) {
        return now.hasDeed(deed) ? now.costs[deed] : ABSENT;
    }

    public int dearest() {
        return isThere() ? now.dearestDeed() : ABSENT;
    }

    public int cost(int version, int cell) {
        return hasSpot(version, cell) ? now.shelf.readingCost(version, cell) : ABSENT;
    }

    public int by(int law) {
        if (!isThere() || law < TURNING || law > CUTTING) {
            return ABSENT;
        }
        return now.stepsOn(trial, law, now.shelf.limit, NONE);
    }

    public int cutting(int k) {
        if (!isThere() || k < 0 || k > MOST_CUT) {
            return ABSENT;
        }
        return now.stepsOn(trial, CUTTING, k, NONE);
    }

    public int cut() {
        if (!isThere()) {
            return ABSENT;
        }
        int best = 0;
        int fewest = now.stepsOn(trial, CUTTING, 0, NONE);
        for (int k = 1; k <= MOST_CUT; k++) {
            int steps = now.stepsOn(trial, CUTTING, k, NONE);
            if (steps < fewest) {
                fewest = steps;
                best = k;
            }
        }
        return best;
    }

    public int without(int deed) {
        if (!now.hasDeed(deed) || !now.makesNone(deed)) {
            return ABSENT;
        }
        return now.stepsOn(trial, now.shelf.law, now.shelf.limit, deed);
    }

    // Acts.

    private boolean hasActLeft() {
        return now.acts() < MOST_ACTS;
    }

    private boolean hasRoomFor(int versions) {
        return now.shelf.made + versions <= MOST_VERSIONS;
    }

    public int reads(int version, int cell) {
        if (!hasSpot(version, cell)) {
            return ABSENT;
        }
        return hasActLeft() ? now.perform(READ, version, cell, 0) : REFUSED;
    }

    public int sets(int version, int cell, int number) {
        if (!hasSpot(version, cell) || !now.shelf.hasCell(number)) {
            return ABSENT;
        }
        if (!hasActLeft() || !hasRoomFor(1)) {
            return REFUSED;
        }
        return now.perform(SET, version, cell, number);
    }

    public int joins(int version, int cell, int other) {
        if (!hasSpot(version, cell) || !now.shelf.hasCell(other)) {
            return ABSENT;
        }
        if (!hasActLeft() || !hasRoomFor(1) || now.shelf.areJoined(version, cell, other)) {
            return REFUSED;
        }
        return now.perform(JOIN, version, cell, other);
    }

    public int finds(int version, int cell) {
        if (!hasSpot(version, cell)) {
            return ABSENT;
        }
        return hasActLeft() ? now.perform(FIND, version, cell, 0) : REFUSED;
    }

    public int snaps(int version) {
        if (!hasVersion(version)) {
            return ABSENT;
        }
        if (!hasActLeft() || now.shelf.isDirect(version)) {
            return REFUSED;
        }
        return now.perform(SNAP, version, 0, 0);
    }

    // Versions merged, patches laid on others.

    public int merging(int version, int other, int what) {
        if (!hasVersions(version, other) || what < 0 || what > 1) {
            return ABSENT;
        }
        if (what == 1) {
            return now.shelf.conflicts(version, other);
        }
        return now.shelf.unlikeCells(now.shelf.rowOf(version), now.shelf.mergedRow(version, other));
    }

    public int merged(int version, int other, int cell) {
        if (!hasVersions(version, other) || !now.shelf.hasCell(cell)) {
            return ABSENT;
        }
        return Shelf.numberIn(now.shelf.mergedRow(version, other), cell);
    }

    public int merges(int version, int other) {
        if (!hasVersions(version, other)) {
            return ABSENT;
        }
        if (!hasActLeft() || !hasRoomFor(merging(version, other, 0))) {
            return REFUSED;
        }
        return now.perform(MERGE, version, other, 0);
    }

    public int patching(int from, int to, int on) {
        if (!hasVersions(from, to) || !hasVersion(on)) {
            return ABSENT;
        }
        return now.shelf.unlikeCells(now.shelf.rowOf(on), now.shelf.patchedRow(from, to, on));
    }

    public int patches(int from, int to, int on) {
        if (!hasVersions(from, to) || !hasVersion(on)) {
            return ABSENT;
        }
        if (!hasActLeft() || !hasRoomFor(patching(from, to, on))) {
            return REFUSED;
        }
        return now.perform(PATCH, from, to, on);
    }

    // Searches by colours.

    private boolean mayColour(int law, int colours) {
        return isThere() && law >= TURNING && law <= CUTTING && colours >= 1 && colours <= MOST_COLOURS;
    }

    public int search(int colours, int what) {
        if (!mayColour(now.shelf.law, colours) || what < 0 || what > 3) {
            return ABSENT;
        }
        painter.seek(now, now.shelf.law, colours);
        return painter.answer(what);
    }

    public int searchBy(int law, int colours) {
        if (!mayColour(law, colours)) {
            return ABSENT;
        }
        painter.seek(now, law, colours);
        return painter.answer(2);
    }

    public int colour(int colours, int cell) {
        if (!mayColour(now.shelf.law, colours) || !now.shelf.hasCell(cell)) {
            return ABSENT;
        }
        painter.seek(now, now.shelf.law, colours);
        return painter.foundAt(cell);
    }

    public int colours() {
        if (!isThere()) {
            return ABSENT;
        }
        for (int few = 1; few <= MOST_COLOURS; few++) {
            painter.seek(now, now.shelf.law, few);
            if (painter.answer(0) == Painter.FOUND) {
                return few;
            }
        }
        return NONE;
    }

    public int forward(int colours, int what) {
        if (!mayColour(now.shelf.law, colours) || what < 0 || what > 3) {
            return ABSENT;
        }
        painter.seekAhead(now, now.shelf.law, colours);
        return painter.answer(what);
    }

    public int forwardBy(int law, int colours) {
        if (!mayColour(law, colours)) {
            return ABSENT;
        }
        painter.seekAhead(now, law, colours);
        return painter.answer(2);
    }

    public int hue(int colours, int cell) {
        if (!mayColour(now.shelf.law, colours) || !now.shelf.hasCell(cell)) {
            return ABSENT;
        }
        painter.seekAhead(now, now.shelf.law, colours);
        int alone = painter.foundAt(cell);
        // A set of one colour has one bit; without any, the colour is 0.
        return alone == 0 ? 0 : Integer.numberOfTrailingZeros(alone) + 1;
    }

    // Images, and acts taken back.

    /** Null where there is no such image. */
    private Story imageAt(int k) {
        return k >= 0 && k < images.length ? images[k] : null;
    }

    public int image(int k) {
        Story kept = imageAt(k);
        if (kept == null || !isThere()) {
            return ABSENT;
        }
        kept.become(now);
        return 0;
    }

    public int back(int k) {
        Story kept = imageAt(k);
        if (kept == null) {
            return ABSENT;
        }
        if (kept.shelf.size == 0) {
            return BLANK;
        }
        now.become(kept);
        return 0;
    }

    public int undo() {
        if (!isThere()) {
            return ABSENT;
        }
        if (now.acts() == 0) {
            return REFUSED;
        }
        now.goBackTo(now.deeds - 1);
        return now.acts();
    }

    public int anew() {
        if (!isThere()) {
            return ABSENT;
        }
        int were = now.acts();
        now.goBackTo(now.told);
        return were;
    }

    /**
     * Versions of one row, and the links between them. What every version has is kept as a packed row,
     * DIRECT or not, since it never changes; so links tell only where reading goes and what it costs,
     * and the number of a link is what its version has in the link's cell.
     */
    private static final class Shelf {
        final long[] rows;
        final int[] linkTo;
        final int[] linkCell;
        final int[] madeOf;
        final int[] madeCell;
        int size = 0;
        int law = 0;
        int limit = 0;
        int made = 0;
        int steps = 0;

        Shelf(int most) {
            int places = Math.max(most, 1);
            rows = new long[places];
            linkTo = new int[places];
            linkCell = new int[places];
            madeOf = new int[places];
            madeCell = new int[places];
        }

        void forget() {
            size = 0;
            law = 0;
            limit = 0;
            made = 0;
            steps = 0;
        }

        void begin(int cells, int byLaw, int cutAt, long row) {
            size = cells;
            law = byLaw;
            limit = cutAt;
            steps = 0;
            made = 1;
            rows[0] = row;
            linkTo[0] = NONE;
            linkCell[0] = NONE;
            madeOf[0] = NONE;
            madeCell[0] = NONE;
        }

        void become(Shelf other) {
            int many = Math.min(other.made, rows.length);
            System.arraycopy(other.rows, 0, rows, 0, many);
            System.arraycopy(other.linkTo, 0, linkTo, 0, many);
            System.arraycopy(other.linkCell, 0, linkCell, 0, many);
            System.arraycopy(other.madeOf, 0, madeOf, 0, many);
            System.arraycopy(other.madeCell, 0, madeCell, 0, many);
            size = other.size;
            law = other.law;
            limit = other.limit;
            made = many;
            steps = other.steps;
        }

        boolean has(int version) {
            return version >= 0 && version < made;
        }

        boolean hasCell(int cell) {
            return cell >= 0 && cell < size;
        }

        // A number is 0 to 15 (a cell, a colour, a set of four colours): four bits each of a long hold
        // twelve of them.
        static int numberIn(long row, int cell) {
            return (int) (row >>> (4 * cell)) & 15;
        }

        static long withNumber(long row, int cell, int number) {
            long cleared = row & ~(15L << (4 * cell));
            return cleared | ((long) (number & 15) << (4 * cell));
        }

        long rowOf(int version) {
            return has(version) ? rows[version] : 0L;
        }

        int numberAt(int version, int cell) {
            return has(version) ? numberIn(rows[version], cell) : NONE;
        }

        int unlikeCells(long row, long other) {
            int many = 0;
            for (int cell = 0; cell < size; cell++) {
                if (numberIn(row, cell) != numberIn(other, cell)) {
                    many++;
                }
            }
            return many;
        }

        int firstLike(int version) {
            long row = rowOf(version);
            for (int elder = 0; elder < version && elder < made; elder++) {
                if (rows[elder] == row) {
                    return elder;
                }
            }
            return version;
        }

        // What versions were made of.

        int makingOf(int version, int what) {
            if (!has(version) || madeOf[version] == NONE) {
                return NONE;
            }
            if (what == 0) {
                return madeOf[version];
            }
            return what == 1 ? madeCell[version] : numberAt(version, madeCell[version]);
        }

        int parentOf(int version) {
            return has(version) ? madeOf[version] : NONE;
        }

        int depthOf(int version) {
            int depth = 0;
            int at = parentOf(version);
            while (at != NONE && depth < made) {
                depth++;
                at = parentOf(at);
            }
            return depth;
        }

        int meeting(int version, int other) {
            int one = version;
            int two = other;
            // A version is younger than what it was made of, so the younger one goes back.
            for (int gone = 0; gone < 2 * made && one != two; gone++) {
                if (one > two) {
                    one = parentOf(one);
                } else {
                    two = parentOf(two);
                }
            }
            return one;
        }

        int lastSetter(int version, int cell) {
            int at = version;
            for (int gone = 0; gone < made && has(at); gone++) {
                if (madeCell[at] == cell) {
                    return at;
                }
                at = madeOf[at];
            }
            return 0;
        }

        int timesSet(int version, int cell) {
            int times = 0;
            int at = version;
            for (int gone = 0; gone < made && has(at); gone++) {
                if (madeCell[at] == cell) {
                    times++;
                }
                at = madeOf[at];
            }
            return times;
        }

        // Roots.

        int rootOf(int version, int cell) {
            long row = rowOf(version);
            int at = cell;
            for (int gone = 0; gone < size; gone++) {
                int next = numberIn(row, at);
                if (next == at) {
                    return at;
                }
                at = next;
            }
            return at;
        }

        boolean areJoined(int version, int cell, int other) {
            return rootOf(version, cell) == rootOf(version, other);
        }

        int rootBits(int version) {
            int bits = 0;
            for (int cell = 0; cell < size; cell++) {
                bits |= 1 << rootOf(version, cell);
            }
            return bits;
        }

        int cellsRootedAs(int version, int cell) {
            int root = rootOf(version, cell);
            int bits = 0;
            for (int other = 0; other < size; other++) {
                if (rootOf(version, other) == root) {
                    bits |= 1 << other;
                }
            }
            return bits;
        }

        // Ways along the links.

        boolean isDirect(int version) {
            return has(version) && linkTo[version] == NONE;
        }

        int linkOf(int version, int what) {
            if (what == 0) {
                return isDirect(version) ? 1 : 0;
            }
            if (!has(version) || isDirect(version)) {
                return NONE;
            }
            if (what == 1) {
                return linkTo[version];
            }
            return what == 2 ? linkCell[version] : numberAt(version, linkCell[version]);
        }

        int wayFrom(int version) {
            int links = 0;
            int at = version;
            while (links < made && at >= 0 && at < made && linkTo[at] != NONE) {
                at = linkTo[at];
                links++;
            }
            return links;
        }

        int longestWay() {
            int most = 0;
            for (int version = 0; version < made; version++) {
                most = Math.max(most, wayFrom(version));
            }
            return most;
        }

        int directOnes() {
            int many = 0;
            for (int version = 0; version < made; version++) {
                if (isDirect(version)) {
                    many++;
                }
            }
            return many;
        }

        int allWays() {
            int links = 0;
            for (int version = 0; version < made; version++) {
                links += wayFrom(version);
            }
            return links;
        }

        int allWaysIfSnapped(int version) {
            if (!has(version)) {
                return allWays();
            }
            int kept = linkTo[version];
            linkTo[version] = NONE;
            int links = allWays();
            linkTo[version] = kept;
            return links;
        }

        long withWays(long set) {
            long kept = set;
            for (int version = 0; version < made; version++) {
                if ((set >>> version & 1L) != 0L) {
                    kept |= wayBits(version);
                }
            }
            return kept;
        }

        private long wayBits(int version) {
            long bits = 0L;
            int at = version;
            for (int gone = 0; gone < made && has(at); gone++) {
                bits |= 1L << at;
                at = linkTo[at];
            }
            return bits;
        }

        int numbersIn(long set) {
            int numbers = 0;
            for (int version = 0; version < made; version++) {
                if ((set >>> version & 1L) != 0L) {
                    numbers += isDirect(version) ? size : 3;
                }
            }
            return numbers;
        }

        int mostPassed() {
            int best = NONE;
            int most = 0;
            for (int version = 0; version < made; version++) {
                int passing = isDirect(version) ? 0 : waysThrough(version);
                if (passing > most) {
                    most = passing;
                    best = version;
                }
            }
            return best;
        }

        private int waysThrough(int version) {
            int many = 0;
            for (int other = 0; other < made; other++) {
                if (other != version && (wayBits(other) >>> version & 1L) != 0L) {
                    many++;
                }
            }
            return many;
        }

        // Steps: reading and setting by the law.

        private boolean isTooLong(int way) {
            return law == CUTTING && way > limit;
        }

        int readingCost(int version, int cell) {
            if (law == FOLLOWING) {
                return linksBefore(version, cell);
            }
            int way = wayFrom(version);
            return isTooLong(way) ? way + size : way;
        }

        private int linksBefore(int version, int cell) {
            int links = 0;
            int at = version;
            while (links < made && at >= 0 && at < made && linkTo[at] != NONE && linkCell[at] != cell) {
                at = linkTo[at];
                links++;
            }
            return links;
        }

        int readCell(int version, int cell) {
            if (law == FOLLOWING) {
                steps += linksBefore(version, cell);
            } else {
                reach(version);
            }
            return numberAt(version, cell);
        }

        private void reach(int version) {
            int way = wayFrom(version);
            if (isTooLong(way)) {
                giveRow(version, way);
            } else {
                turnWay(version);
                steps += way;
            }
        }

        private void giveRow(int version, int way) {
            if (version >= 0 && version < made) {
                linkTo[version] = NONE;
                linkCell[version] = NONE;
                steps += way + size;
            }
        }

        // Turning the last link first or the first one first leaves the same links; from the first on, the
        // way needs not be kept anywhere.
        private void turnWay(int version) {
            int at = version;
            int behind = NONE;
            int behindCell = NONE;
            for (int gone = 0; gone < made && at >= 0 && at < made; gone++) {
                int ahead = linkTo[at];
                int aheadCell = linkCell[at];
                linkTo[at] = behind;
                linkCell[at] = behindCell;
                behind = at;
                behindCell = aheadCell;
                at = ahead;
            }
        }

        /** NONE, and nothing happens, if no more versions may be made. */
        int setCell(int version, int cell, int number) {
            if (!has(version) || made >= rows.length) {
                return NONE;
            }
            if (law != FOLLOWING) {
                reach(version);
            }
            int fresh = made;
            made++;
            rows[fresh] = withNumber(rows[version], cell, number);
            madeOf[fresh] = version;
            madeCell[fresh] = cell;
            int from = law == FOLLOWING ? fresh : version;
            int to = law == FOLLOWING ? version : fresh;
            linkTo[fresh] = NONE;
            linkCell[fresh] = NONE;
            linkTo[from] = to;
            linkCell[from] = cell;
            steps++;
            return fresh;
        }

        /** Steps of it: none where the version is DIRECT, as it may be by another law than the told one. */
        int snapRow(int version) {
            if (!has(version) || isDirect(version)) {
                return 0;
            }
            int before = steps;
            giveRow(version, wayFrom(version));
            return steps - before;
        }

        int findRoot(int version, int cell) {
            int at = cell;
            for (int gone = 0; gone < size; gone++) {
                int next = readCell(version, at);
                if (next == at) {
                    return at;
                }
                at = next;
            }
            return at;
        }

        private int joinRoots(int version, int one, int two) {
            return setCell(version, Math.max(one, two), Math.min(one, two));
        }

        // Merging and patching.

        private boolean inConflict(int base, int one, int two) {
            return one != base && two != base && two != one;
        }

        long mergedRow(int version, int other) {
            long base = rowOf(meeting(version, other));
            long row = rowOf(version);
            long otherRow = rowOf(other);
            long result = row;
            for (int cell = 0; cell < size; cell++) {
                int one = numberIn(row, cell);
                int two = numberIn(otherRow, cell);
                if (one == numberIn(base, cell)) {
                    result = withNumber(result, cell, two);
                } else if (inConflict(numberIn(base, cell), one, two)) {
                    result = withNumber(result, cell, Math.min(one, two));
                }
            }
            return result;
        }

        int conflicts(int version, int other) {
            long base = rowOf(meeting(version, other));
            int many = 0;
            for (int cell = 0; cell < size; cell++) {
                if (inConflict(numberIn(base, cell), numberAt(version, cell), numberAt(other, cell))) {
                    many++;
                }
            }
            return many;
        }

        long patchedRow(int from, int to, int on) {
            long result = rowOf(on);
            for (int cell = 0; cell < size; cell++) {
                int target = numberAt(to, cell);
                if (numberAt(from, cell) != target) {
                    result = withNumber(result, cell, target);
                }
            }
            return result;
        }

        private int layOn(int version, long row) {
            long from = rowOf(version);
            int newest = version;
            for (int cell = 0; cell < size; cell++) {
                if (numberIn(from, cell) != numberIn(row, cell)) {
                    newest = setCell(newest, cell, numberIn(row, cell));
                }
            }
            return newest;
        }

        int carryOut(int kind, int one, int two, int three) {
            switch (kind) {
                case READ: return readCell(one, two);
                case SET: return setCell(one, two, three);
                case JOIN: return joinRoots(one, findRoot(one, two), findRoot(one, three));
                case FIND: return findRoot(one, two);
                case SNAP: return snapRow(one);
                case MERGE: return layOn(one, mergedRow(one, two));
                case PATCH: return layOn(three, patchedRow(one, two, three));
                default: return NONE;
            }
        }
    }

    /** A STORE with its pairs and all its deeds, those told first and acts behind them. */
    private static final class Story {
        final Shelf shelf = new Shelf(MOST_VERSIONS);
        final int[] partners = new int[MOST_CELLS];
        final int[] kinds = new int[MOST_TOLD + MOST_ACTS];
        final int[] ones = new int[MOST_TOLD + MOST_ACTS];
        final int[] twos = new int[MOST_TOLD + MOST_ACTS];
        final int[] threes = new int[MOST_TOLD + MOST_ACTS];
        final int[] costs = new int[MOST_TOLD + MOST_ACTS];
        int pairs = 0;
        int lines = 0;
        int told = 0;
        int deeds = 0;

        void forget() {
            shelf.forget();
            for (int cell = 0; cell < partners.length; cell++) {
                partners[cell] = 0;
            }
            pairs = 0;
            lines = 0;
            told = 0;
            deeds = 0;
        }

        void become(Story other) {
            shelf.become(other.shelf);
            System.arraycopy(other.partners, 0, partners, 0, partners.length);
            System.arraycopy(other.kinds, 0, kinds, 0, kinds.length);
            System.arraycopy(other.ones, 0, ones, 0, ones.length);
            System.arraycopy(other.twos, 0, twos, 0, twos.length);
            System.arraycopy(other.threes, 0, threes, 0, threes.length);
            System.arraycopy(other.costs, 0, costs, 0, costs.length);
            pairs = other.pairs;
            lines = other.lines;
            told = other.told;
            deeds = other.deeds;
        }

        int acts() {
            return deeds - told;
        }

        boolean hasDeed(int deed) {
            return deed >= 0 && deed < deeds;
        }

        boolean makesNone(int deed) {
            if (!hasDeed(deed)) {
                return false;
            }
            return kinds[deed] == READ || kinds[deed] == FIND || kinds[deed] == SNAP;
        }

        int partnersOf(int cell) {
            return cell >= 0 && cell < partners.length ? partners[cell] : 0;
        }

        boolean arePaired(int cell, int other) {
            return (partnersOf(cell) >>> other & 1) != 0;
        }

        private void pairUp(int cell, int other) {
            if (shelf.hasCell(cell) && shelf.hasCell(other)) {
                partners[cell] |= 1 << other;
                partners[other] |= 1 << cell;
                pairs++;
            }
        }

        private long ownNumbers(int cells) {
            long row = 0L;
            for (int cell = 0; cell < cells; cell++) {
                row = Shelf.withNumber(row, cell, cell);
            }
            return row;
        }

        void tell(int kind, int one, int two, int three) {
            lines++;
            if (kind == STORE) {
                shelf.begin(one, two, three, ownNumbers(one));
            } else if (kind == PAIR) {
                pairUp(one, two);
            } else {
                perform(kind, one, two, three);
                told = deeds;
            }
        }

        int perform(int kind, int one, int two, int three) {
            if (deeds >= kinds.length) {
                return NONE;
            }
            kinds[deeds] = kind;
            ones[deeds] = one;
            twos[deeds] = two;
            threes[deeds] = three;
            int before = shelf.steps;
            int answer = shelf.carryOut(kind, one, two, three);
            costs[deeds] = shelf.steps - before;
            deeds++;
            return answer;
        }

        /** Doing the deeds that stay once more gives every link and step as it was behind them. */
        void goBackTo(int many) {
            deeds = Math.min(many, deeds);
            stepsOn(shelf, shelf.law, shelf.limit, NONE);
        }

        int stepsOn(Shelf other, int law, int limit, int skipped) {
            other.begin(shelf.size, law, limit, ownNumbers(shelf.size));
            for (int deed = 0; deed < deeds && deed < kinds.length; deed++) {
                if (deed != skipped) {
                    other.carryOut(kinds[deed], ones[deed], twos[deed], threes[deed]);
                }
            }
            return other.steps;
        }

        int dearestDeed() {
            int best = NONE;
            int most = 0;
            for (int deed = 0; deed < deeds; deed++) {
                if (costs[deed] > most) {
                    most = costs[deed];
                    best = deed;
                }
            }
            return best;
        }
    }

    /**
     * The bytes fed so far, and the lines that are taken off them. The first fault stays, and all that would
     * be taken behind it is passed over, so that the taking methods may stand one behind the other.
     */
    private static final class Tape {
        private static final int BROKEN = 0;
        private static final int WORD = 1;
        private static final int NUMBER = 2;
        private static final int SIGN = 3;
        private static final int END = 4;
        private static final int TOO_MUCH = 1000;

        private final byte[] signs = new byte[MOST_BYTES];
        private int token = END;
        private int place = 0;
        private int behind = 0;
        private int value = 0;
        int bytes = 0;
        int kind = 0;
        int one = 0;
        int two = 0;
        int three = 0;
        int fault = 0;
        int faultPlace = NONE;

        void put(int number) {
            for (int shift = 24; shift >= 0 && bytes < signs.length; shift -= 8) {
                signs[bytes] = (byte) (number >>> shift);
                bytes++;
            }
        }

        void begin() {
            behind = 0;
            fault = 0;
            faultPlace = NONE;
            takeToken();
        }

        private int byteAt(int at) {
            return at >= 0 && at < bytes && at < signs.length ? signs[at] & 255 : NONE;
        }

        private static boolean isBlank(int sign) {
            return sign == ' ' || sign == 10;
        }

        private static boolean isLetter(int sign) {
            return sign >= 'a' && sign <= 'z';
        }

        private static boolean isDigit(int sign) {
            return sign >= '0' && sign <= '9';
        }

        private void takeToken() {
            while (behind < bytes && isBlank(byteAt(behind))) {
                behind++;
            }
            place = behind;
            int sign = byteAt(place);
            if (sign == NONE) {
                token = END;
            } else if (isLetter(sign)) {
                token = WORD;
                takeLetters();
            } else if (isDigit(sign)) {
                token = NUMBER;
                takeDigits();
            } else {
                token = sign == ';' ? SIGN : BROKEN;
                behind++;
            }
        }

        private void takeLetters() {
            while (behind < bytes && isLetter(byteAt(behind))) {
                behind++;
            }
        }

        private void takeDigits() {
            value = 0;
            while (behind < bytes && isDigit(byteAt(behind))) {
                // Every bound lies far below, and so a number of any length stays an int.
                value = Math.min(value * 10 + byteAt(behind) - '0', TOO_MUCH);
                behind++;
            }
        }

        private boolean isWord(String word) {
            if (token != WORD || behind - place != word.length()) {
                return false;
            }
            for (int i = 0; i < word.length(); i++) {
                if (byteAt(place + i) != word.charAt(i)) {
                    return false;
                }
            }
            return true;
        }

        private void refuse(int which, int where) {
            if (fault == 0) {
                fault = which;
                faultPlace = where;
            }
        }

        private int takeNumber(int least, int most) {
            if (fault != 0) {
                return NONE;
            }
            if (token != NUMBER) {
                refuse(1, place);
                return NONE;
            }
            if (value < least || value > most) {
                refuse(2, place);
                return NONE;
            }
            int taken = value;
            takeToken();
            return taken;
        }

        private void takeWord(String word) {
            if (fault == 0 && !isWord(word)) {
                refuse(1, place);
            }
            if (fault == 0) {
                takeToken();
            }
        }

        private void takeSign() {
            if (fault == 0 && token != SIGN) {
                refuse(1, place);
            }
            if (fault == 0) {
                takeToken();
            }
        }

        /** Whether there was a line without fault; kind, one, two, three tell it then. */
        boolean takesLine(Story story) {
            if (fault != 0 || token == END) {
                return false;
            }
            one = 0;
            two = 0;
            three = 0;
            kind = wordKind();
            boolean isFirst = story.lines == 0;
            if (kind == 0 || isFirst != (kind == STORE)) {
                refuse(1, place);
            } else if (isOneTooMany(story)) {
                refuse(3, place);
            } else {
                takeToken();
                takeNumbers(story);
                takeSign();
            }
            return fault == 0;
        }

        private int wordKind() {
            if (isWord("store")) {
                return STORE;
            }
            if (isWord("pair")) {
                return PAIR;
            }
            if (isWord("set")) {
                return SET;
            }
            if (isWord("join")) {
                return JOIN;
            }
            if (isWord("read")) {
                return READ;
            }
            if (isWord("find")) {
                return FIND;
            }
            return isWord("snap") ? SNAP : 0;
        }

        private boolean isOneTooMany(Story story) {
            if (kind == STORE) {
                return false;
            }
            if (kind == PAIR) {
                return story.pairs >= MOST_PAIRS;
            }
            boolean makesVersion = kind == SET || kind == JOIN;
            return story.deeds >= MOST_TOLD || makesVersion && story.shelf.made >= MOST_TOLD_VERSIONS;
        }

        private void takeNumbers(Story story) {
            if (kind == STORE) {
                takeStore();
            } else if (kind == PAIR) {
                takePair(story);
            } else {
                takeDeed(story.shelf);
            }
        }

        private void takeStore() {
            takeWord("size");
            one = takeNumber(1, MOST_CELLS);
            takeWord("law");
            two = takeNumber(TURNING, CUTTING);
            takeWord("cut");
            three = takeNumber(0, MOST_CUT);
        }

        private void takePair(Story story) {
            one = takeNumber(0, story.shelf.size - 1);
            int where = place;
            two = takeNumber(0, story.shelf.size - 1);
            if (fault == 0 && (one == two || story.arePaired(one, two))) {
                refuse(2, where);
            }
        }

        private void takeDeed(Shelf shelf) {
            int where = place;
            one = takeNumber(0, shelf.made - 1);
            if (kind == SNAP) {
                if (fault == 0 && shelf.isDirect(one)) {
                    refuse(2, where);
                }
                return;
            }
            two = takeNumber(0, shelf.size - 1);
            if (kind == SET || kind == JOIN) {
                where = place;
                three = takeNumber(0, shelf.size - 1);
                if (fault == 0 && kind == JOIN && shelf.areJoined(one, two, three)) {
                    refuse(2, where);
                }
            }
        }
    }

    /** Searches by colours, on a shelf of their own that every search begins anew. */
    private static final class Painter {
        static final int FOUND = 1;
        private static final int NOTHING = 0;
        private static final int BROKEN_OFF = 2;
        private static final int GOING_ON = 3;
        /** Far above the turns that 200 versions leave: each turn makes one, or uses up a cell's colours. */
        private static final int MANY_TURNS = 1000000;

        private final Shelf shelf = new Shelf(MOST_TRIED_VERSIONS);
        private final int[] from = new int[MOST_CELLS + 1];
        private final int[] tried = new int[MOST_CELLS + 1];
        private final int[] taken = new int[MOST_CELLS + 1];
        private final int[] choices = new int[MOST_CELLS + 1];
        private final int[] coloured = new int[MOST_CELLS + 1];
        private int outcome = NOTHING;
        private int timesBack = 0;
        private int last = 0;
        private int most = 0;

        private void begin(Story story, int law, int colours, long row) {
            shelf.begin(story.shelf.size, law, story.shelf.limit, row);
            outcome = GOING_ON;
            timesBack = 0;
            last = 0;
            most = colours;
        }

        int answer(int what) {
            switch (what) {
                case 0: return outcome;
                case 1: return shelf.made - 1;
                case 2: return shelf.steps;
                case 3: return timesBack;
                default: return NONE;
            }
        }

        int foundAt(int cell) {
            return outcome == FOUND ? shelf.numberAt(last, cell) : 0;
        }

        private int put(int version, int cell, int number) {
            int fresh = shelf.setCell(version, cell, number);
            if (fresh == NONE) {
                outcome = BROKEN_OFF;
            }
            return fresh;
        }

        /** The depth a level back; from the first one on there is nothing to go back to. */
        private int backFrom(int depth) {
            if (depth == 0) {
                outcome = NOTHING;
                return 0;
            }
            timesBack++;
            return depth - 1;
        }

        void seek(Story story, int law, int colours) {
            begin(story, law, colours, 0L);
            int cell = 0;
            openCell(0, 0);
            for (int turn = 0; turn < MANY_TURNS && outcome == GOING_ON; turn++) {
                int fresh = paintNext(story, cell);
                if (fresh != NONE) {
                    cell++;
                    openCell(cell, fresh);
                } else if (outcome == GOING_ON) {
                    cell = backFrom(cell);
                }
            }
        }

        private void openCell(int cell, int version) {
            if (cell == shelf.size) {
                outcome = FOUND;
                last = version;
            } else if (cell < from.length) {
                from[cell] = version;
                tried[cell] = 0;
            }
        }

        private int paintNext(Story story, int cell) {
            if (!shelf.hasCell(cell) || cell >= from.length) {
                return NONE;
            }
            while (tried[cell] < most) {
                tried[cell]++;
                if (isFree(story.partnersOf(cell), cell, tried[cell])) {
                    return put(from[cell], cell, tried[cell]);
                }
            }
            return NONE;
        }

        private boolean isFree(int partners, int cell, int colour) {
            for (int other = 0; other < cell && cell < from.length; other++) {
                if ((partners >>> other & 1) != 0 && shelf.readCell(from[cell], other) == colour) {
                    return false;
                }
            }
            return true;
        }

        void seekAhead(Story story, int law, int colours) {
            begin(story, law, colours, fullRow(story.shelf.size, (1 << colours) - 1));
            int depth = 0;
            coloured[0] = 0;
            takeCell(0, 0);
            for (int turn = 0; turn < MANY_TURNS && outcome == GOING_ON; turn++) {
                int fresh = paintAhead(story, depth);
                if (fresh != NONE) {
                    depth++;
                    takeCell(depth, fresh);
                } else if (outcome == GOING_ON) {
                    depth = backFrom(depth);
                }
            }
        }

        private long fullRow(int cells, int set) {
            long row = 0L;
            for (int cell = 0; cell < cells; cell++) {
                row = Shelf.withNumber(row, cell, set);
            }
            return row;
        }

        private void takeCell(int depth, int version) {
            if (depth >= shelf.size || depth + 1 >= from.length) {
                outcome = FOUND;
                last = version;
                return;
            }
            int fewest = MOST_COLOURS + 1;
            for (int cell = 0; cell < shelf.size; cell++) {
                if ((coloured[depth] >>> cell & 1) == 0) {
                    int set = shelf.readCell(version, cell);
                    if (Integer.bitCount(set) < fewest) {
                        fewest = Integer.bitCount(set);
                        taken[depth] = cell;
                        choices[depth] = set;
                    }
                }
            }
            from[depth] = version;
            coloured[depth + 1] = coloured[depth] | 1 << taken[depth];
        }

        private int paintAhead(Story story, int depth) {
            if (depth < 0 || depth + 1 >= from.length) {
                return NONE;
            }
            int cell = taken[depth];
            int others = story.partnersOf(cell) & ~coloured[depth + 1];
            int fresh = NONE;
            for (int bit = 1; bit < 1 << MOST_COLOURS && fresh == NONE && outcome == GOING_ON; bit <<= 1) {
                if ((choices[depth] & bit) != 0) {
                    choices[depth] &= ~bit;
                    fresh = strikeOut(put(from[depth], cell, bit), others, bit);
                }
            }
            return fresh;
        }

        /** The newest version, or NONE: a cell has no colour left, or the search is broken off. */
        private int strikeOut(int version, int others, int bit) {
            int newest = version;
            for (int other = 0; other < shelf.size && newest != NONE; other++) {
                if ((others >>> other & 1) != 0) {
                    int set = shelf.readCell(newest, other);
                    if ((set & bit) != 0) {
                        newest = put(newest, other, set & ~bit);
                    }
                    if (set == bit) {
                        return NONE;
                    }
                }
            }
            return newest;
        }
    }
}
