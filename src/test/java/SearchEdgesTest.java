import java.util.Arrays;

/** The edges of both searches (IV, VI) and of promises 36 to 39, 50 to 52: each method is one sentence of the document. */
public final class SearchEdgesTest {
    private static final int LEAST = Integer.MIN_VALUE;
    private static final int MOST = Integer.MAX_VALUE;
    private static final String TRIANGLE = "store size 3 law 0 cut 2;pair 0 1;pair 1 2;pair 2 0;";
    /** Seven cells of no PAIR ahead of five that four colours are too few for: a search is broken off. */
    private static final String LAST_FIVE = "store size 12 law 0 cut 0;pair 7 8;pair 7 9;pair 7 10;pair 7 11;pair 8 9;pair 8 10;pair 8 11;pair 9 10;pair 9 11;pair 10 11;";

    public static void main(String[] args) {
        noSuchColours();
        noSuchLaw();
        noSuchWhat();
        noSuchCell();
        storeStays();
        oneCell();
        twelveCells();
        noneByOne();
        coloursFromOneToFour();
        notByFour();
        cellsBelowAlone();
        colourOfNone();
        backFromTheFirst();
        foundAt199();
        noneAt198();
        brokenOffAt200();
        foundAheadAt199();
        noneAheadAt198();
        brokenOffAheadAt200();
        fewestOfSeveral();
        searchAtTheCut();
        Due.finish("SearchEdgesTest");
    }

    /** "so many colours (1 .. 4)", "-2: there are none such". */
    private static void noSuchColours() {
        RerootStore x = Due.told(TRIANGLE);
        long[] before = Whole.of(x);
        for (int c : new int[] {0, 5, -1, 32, LEAST, MOST}) {
            Due.each(c + " colours", -2, () -> x.search(c, 0), () -> x.searchBy(0, c), () -> x.colour(c, 0), () -> x.forward(c, 0), () -> x.forwardBy(0, c), () -> x.hue(c, 0));
        }
        Due.row("nothing happens by none", Whole.of(x), before);
        for (int c = 1; c <= 4; c++) {
            int found = c >= 3 ? 1 : 0;
            Due.row(c + " colours", Due.all(x.search(c, 0), x.colour(c, 0), x.forward(c, 0), x.hue(c, 0)), found, found, found, found);
        }
    }

    /** "by a LAW (0 .. 2)". */
    private static void noSuchLaw() {
        RerootStore x = Due.told(TRIANGLE);
        Whole.stays("LAW", x, -2, () -> x.searchBy(-1, 2), () -> x.searchBy(3, 2), () -> x.searchBy(LEAST, 2), () -> x.searchBy(MOST, 2), () -> x.forwardBy(-1, 2), () -> x.forwardBy(3, 2), () -> x.forwardBy(LEAST, 2), () -> x.forwardBy(MOST, 2), () -> x.searchBy(3, 5), () -> x.forwardBy(-1, 0));
        Due.row("LAW 0 .. 2", Due.all(x.searchBy(0, 3), x.searchBy(1, 3), x.searchBy(2, 3), x.forwardBy(0, 3), x.forwardBy(2, 3)), 3, 6, 3, 6, 6);
    }

    /** "what 0: .., 1: .., 2: .., 3: ..". */
    private static void noSuchWhat() {
        RerootStore x = Due.told(TRIANGLE);
        Whole.stays("what", x, -2, () -> x.search(2, -1), () -> x.search(2, 4), () -> x.search(2, LEAST), () -> x.search(2, MOST), () -> x.forward(2, -1), () -> x.forward(2, 4), () -> x.forward(2, LEAST), () -> x.forward(2, MOST), () -> x.search(5, 4), () -> x.forward(0, -1));
        Due.row("what 0, 3", Due.all(x.search(2, 0), x.search(2, 3), x.forward(2, 0), x.forward(2, 3)), 0, 4, 0, 2);
    }

    /** "-2: there are none such" of a cell: of what is found, and of what is not. */
    private static void noSuchCell() {
        RerootStore x = Due.told(TRIANGLE);
        Whole.stays("cell", x, -2, () -> x.colour(3, -1), () -> x.colour(3, 3), () -> x.colour(2, 3), () -> x.colour(3, 12), () -> x.colour(3, LEAST), () -> x.colour(3, MOST), () -> x.hue(3, -1), () -> x.hue(3, 3), () -> x.hue(2, 3), () -> x.hue(3, 12), () -> x.hue(3, LEAST), () -> x.hue(3, MOST));
        Due.row("the first, the last", Due.all(x.colour(3, 0), x.colour(3, 2), x.hue(3, 0), x.hue(3, 2)), 1, 3, 1, 3);
    }

    /** "a STORE of its own": this one stays as it is, and is no part of what is searched. */
    private static void storeStays() {
        RerootStore x = Due.told(TRIANGLE + "set 0 0 2;set 1 1 2;read 0 0;");
        x.reads(1, 1);
        long[] before = Whole.of(x);
        Due.row("searches", Due.all(x.search(2, 2), x.searchBy(1, 2), x.colour(3, 2), x.colours(), x.forward(2, 2), x.forwardBy(1, 2), x.hue(3, 2)), 7, 8, 3, 3, 15, 20, 3);
        Due.row("this one stays", Whole.of(x), before);
    }

    /** "(0 is not)", "Found: the last CELL is set": the last one is the first one here. */
    private static void oneCell() {
        for (int law = 0; law <= 2; law++) {
            RerootStore x = Due.told("store size 1 law " + law + " cut 0;");
            for (int c = 1; c <= 4; c++) {
                Due.row("one cell", Due.all(x.search(c, 0), x.search(c, 1), x.search(c, 2), x.search(c, 3), x.colour(c, 0), x.searchBy(1, c)), 1, 1, 1, 0, 1, 1);
                Due.row("one cell ahead", Due.all(x.forward(c, 0), x.forward(c, 1), x.forward(c, 2), x.forward(c, 3), x.hue(c, 0), x.forwardBy(1, c)), 1, 1, 1, 0, 1, 1);
            }
            Due.due("one cell", x.colours(), 1);
        }
    }

    /** The most cells, the last one a PAIR with the first. */
    private static void twelveCells() {
        RerootStore x = Due.told("store size 12 law 0 cut 0;pair 11 0;");
        Due.row("twelve", Due.all(x.search(4, 0), x.search(4, 1), x.colour(4, 0), x.colour(4, 10), x.colour(4, 11), x.colours()), 1, 12, 1, 1, 2, 2);
        // 11 is struck, and set alone: a VERSION more.
        Due.row("twelve ahead", Due.all(x.forward(4, 0), x.forward(4, 1), x.hue(4, 0), x.hue(4, 10), x.hue(4, 11)), 1, 13, 1, 1, 2);
    }

    /** "if that is none, the colour is none (no more are read)", "has one that colour, the colour is none". */
    private static void noneByOne() {
        RerootStore x = Due.told("store size 4 law 0 cut 2;pair 0 1;pair 0 2;pair 0 3;");
        Due.row("one colour", Due.all(x.search(1, 0), x.search(1, 1), x.search(1, 3), x.colour(1, 0), x.searchBy(1, 1)), 0, 1, 1, 0, 1);
        // 0 is set alone, 1 to none; 2 and 3 are not looked at. By LAW 1: read all four, set, read 1 along one LINK, set.
        Due.row("one colour ahead", Due.all(x.forward(1, 0), x.forward(1, 1), x.forward(1, 3), x.hue(1, 0), x.forwardBy(1, 1)), 0, 2, 0, 0, 3);
    }

    private static String clique(int cells, int paired) {
        StringBuilder text = new StringBuilder("store size " + cells + " law 0 cut 2;");
        for (int a = 0; a < paired; a++) {
            for (int b = a + 1; b < paired; b++) {
                text.append("pair ").append(a).append(' ').append(b).append(';');
            }
        }
        return text.toString();
    }

    /** "The fewest colours by which it finds one": one at least, 4 at most. */
    private static void coloursFromOneToFour() {
        for (int paired = 1; paired <= 4; paired++) {
            RerootStore x = Due.told(clique(4, paired));
            Due.row(paired + " paired", Due.all(x.colours(), x.search(paired, 0), x.colour(paired, paired - 1), x.forward(paired, 0), x.hue(paired, paired - 1)), paired, 1, paired, 1, paired);
            if (paired > 1) {
                Due.row("by one less", Due.all(x.search(paired - 1, 0), x.forward(paired - 1, 0)), 0, 0);
            }
        }
    }

    /** "NONE: not by 4". */
    private static void notByFour() {
        RerootStore five = Due.told(clique(5, 5));
        Due.row("five paired", Due.all(five.colours(), five.search(4, 0), five.forward(4, 0)), -1, 0, 0);
        RerootStore last = Due.told(LAST_FIVE);
        Due.row("broken off", Due.all(last.colours(), last.search(1, 0), last.search(2, 0), last.search(3, 0), last.search(4, 0)), -1, 0, 2, 2, 2);
    }

    /** "each CELL below it that is a PAIR with it": those above have no colour yet, and are not read. */
    private static void cellsBelowAlone() {
        RerootStore x = Due.told("store size 3 law 1 cut 0;pair 0 2;");
        // 0, 1 set without reading; 2 reads 0 for 1 (a LINK), for 2 (a LINK).
        Due.row("a PAIR above", Due.all(x.search(2, 1), x.search(2, 2), x.colour(2, 0), x.colour(2, 2)), 3, 5, 1, 2);
        RerootStore last = Due.told("store size 3 law 1 cut 0;pair 1 2;");
        Due.row("its own LINK is the first", Due.all(last.search(2, 1), last.search(2, 2), last.colour(2, 2)), 3, 3, 2);
    }

    /** "0: none found": by none, and by one broken off; each cell of it. */
    private static void colourOfNone() {
        RerootStore none = Due.told(TRIANGLE);
        RerootStore broken = Due.told(LAST_FIVE);
        for (int i = 0; i < 3; i++) {
            Due.row("none, cell " + i, Due.all(none.colour(2, i), none.hue(2, i), none.colour(1, i), none.hue(1, i)), 0, 0, 0, 0);
            Due.row("broken off, cell " + i, Due.all(broken.search(4, 0), broken.colour(4, i), broken.colour(4, i + 9), broken.forward(4, 0), broken.hue(4, i), broken.hue(4, i + 9)), 2, 0, 0, 2, 0, 0);
        }
    }

    /** "None: no colour is left for CELL 0": from it there is no going back. */
    private static void backFromTheFirst() {
        RerootStore x = Due.told(clique(2, 2));
        Due.row("one colour", Due.all(x.search(1, 0), x.search(1, 3), x.forward(1, 0), x.forward(1, 3)), 0, 1, 0, 0);
        RerootStore y = Due.told(clique(3, 3));
        // 1 and 2 of 0 each: 2 of two goes back to 1, and 1 to 0. Ahead: the second cell's one colour fails, once each.
        Due.row("two colours", Due.all(y.search(2, 3), y.forward(2, 3)), 4, 2);
    }

    // Both searches once more, as they go with no bound but a given one: how many are made, how often back.

    private static boolean[][] adjacent = new boolean[12][12];
    private static int cells;
    private static int most;
    private static int bound;
    private static int made;
    private static int back;

    private static boolean makeOne() {
        if (made == bound) {
            return false;
        }
        made++;
        return true;
    }

    /** 0 none, 1 found, 2 broken off. */
    private static int paint(int[] colours, int cell) {
        if (cell == cells) {
            return 1;
        }
        for (int colour = 1; colour <= most; colour++) {
            boolean free = true;
            for (int below = 0; below < cell; below++) {
                free &= !adjacent[cell][below] || colours[below] != colour;
            }
            if (free) {
                if (!makeOne()) {
                    return 2;
                }
                colours[cell] = colour;
                int ended = paint(colours, cell + 1);
                if (ended != 0) {
                    return ended;
                }
                back++;
            }
        }
        return 0;
    }

    private static int paintAhead(int[] sets, int done) {
        if (done == (1 << cells) - 1) {
            return 1;
        }
        int taken = -1;
        for (int cell = cells - 1; cell >= 0; cell--) {
            boolean isFew = taken < 0 || Integer.bitCount(sets[cell]) <= Integer.bitCount(sets[taken]);
            taken = (done >> cell & 1) == 0 && isFew ? cell : taken;
        }
        for (int bit = 1; bit < 1 << most; bit <<= 1) {
            if ((sets[taken] & bit) != 0) {
                int[] next = sets.clone();
                next[taken] = bit;
                if (!makeOne()) {
                    return 2;
                }
                int ended = strike(next, done | 1 << taken, taken, bit);
                if (ended == 3) {
                    ended = paintAhead(next, done | 1 << taken);
                    back += ended == 0 ? 1 : 0;
                }
                if (ended != 0) {
                    return ended;
                }
            }
        }
        return 0;
    }

    /** 3: all have a colour left. */
    private static int strike(int[] sets, int done, int taken, int bit) {
        for (int cell = 0; cell < cells; cell++) {
            if ((done >> cell & 1) == 0 && adjacent[taken][cell] && (sets[cell] & bit) != 0) {
                if (!makeOne()) {
                    return 2;
                }
                sets[cell] &= ~bit;
                if (sets[cell] == 0) {
                    return 0;
                }
            }
        }
        return 3;
    }

    private static void prepare(int size, int colours, String pairs, int atMost) {
        adjacent = new boolean[12][12];
        for (String pair : pairs.split(" ")) {
            String[] two = pair.split("-");
            int a = Integer.parseInt(two[0]);
            int b = Integer.parseInt(two[1]);
            adjacent[a][b] = true;
            adjacent[b][a] = true;
        }
        cells = size;
        most = colours;
        bound = atMost;
        made = 0;
        back = 0;
    }

    private static RerootStore paired(int size, int law, String pairs) {
        StringBuilder text = new StringBuilder("store size " + size + " law " + law + " cut 2;");
        for (String pair : pairs.split(" ")) {
            text.append("pair ").append(pair.replace('-', ' ')).append(';');
        }
        return Due.told(text.toString());
    }

    /** Without a bound it would make so many, and end so; with it 199 at most, and is broken off above. */
    private static void searched(int size, int colours, String pairs, int all, int ends) {
        prepare(size, colours, pairs, MOST);
        Due.row("without a bound", Due.all(paint(new int[12], 0), made), ends, all);
        prepare(size, colours, pairs, 199);
        int due = paint(new int[12], 0);
        Due.due("199 at most", due, all > 199 ? 2 : ends);
        for (int law = 0; law <= 2; law++) {
            RerootStore x = paired(size, law, pairs);
            Due.row("of " + all, Due.all(x.search(colours, 0), x.search(colours, 1), x.search(colours, 3), x.colour(colours, 0), x.colour(colours, size)), due, Math.min(all, 199), back, due == 1 ? 1 : 0, -2);
        }
    }

    private static void searchedAhead(int size, int colours, String pairs, int all, int ends) {
        int[] sets = new int[12];
        Arrays.fill(sets, (1 << colours) - 1);
        prepare(size, colours, pairs, MOST);
        Due.row("ahead without a bound", Due.all(paintAhead(sets, 0), made), ends, all);
        prepare(size, colours, pairs, 199);
        int due = paintAhead(sets, 0);
        Due.due("ahead, 199 at most", due, all > 199 ? 2 : ends);
        for (int law = 0; law <= 2; law++) {
            RerootStore x = paired(size, law, pairs);
            Due.row("ahead, of " + all, Due.all(x.forward(colours, 0), x.forward(colours, 1), x.forward(colours, 3), x.hue(colours, size)), due, Math.min(all, 199), back, -2);
            Due.due("ahead: a colour, or 0", x.hue(colours, 0) > 0 ? 1 : 0, due == 1 ? 1 : 0);
        }
    }

    /** "a 201st VERSION (0 among them) would be made": 199 are made, one fewer, and found is found. */
    private static void foundAt199() {
        searched(9, 3, "0-5 0-6 1-2 1-8 2-5 2-8 5-8", 198, 1);
        searched(10, 3, "0-7 0-9 2-3 2-9 3-7 3-9 4-8 6-7 6-9 7-9", 199, 1);
    }

    /** None is divisible by its colours, so 199 can't be: 2, 4, 8, 8 (3 is no 0), 16, 32, 64, 64 (7 is no 2), and no 8. */
    private static void noneAt198() {
        searched(9, 2, "0-3 0-8 2-7 3-8", 198, 0);
        searched(8, 2, "5-6 6-7 5-7", 190, 0);
    }

    /** One more than there may be, two more: of what would be found, and of what would be none. */
    private static void brokenOffAt200() {
        searched(10, 3, "0-2 0-3 0-7 1-3 1-9 2-6 2-7 3-5 3-7 3-9 4-8 6-9 7-9", 200, 1);
        searched(10, 2, "0-9 1-8 8-9", 201, 1);
        searched(11, 2, "0-1 2-4 2-9 4-9 7-8", 200, 0);
        searched(7, 3, "0-1 0-2 0-4 0-6 1-4 1-6 4-6", 201, 0);
        searched(9, 2, "6-7 7-8 6-8", 382, 0);
    }

    private static void foundAheadAt199() {
        searchedAhead(12, 3, "0-11 8-10 0-5 0-6 2-9 10-11 2-5 3-4 9-11 3-5 2-11 4-8 0-7 0-10 9-10 3-11", 198, 1);
        searchedAhead(12, 3, "3-5 7-11 8-11 1-10 2-10 0-6 0-11 5-9 0-7 5-6 4-10 3-8 3-4 7-9 9-11 6-10", 199, 1);
    }

    private static void noneAheadAt198() {
        searchedAhead(8, 2, "1-2 5-6 5-7 6-7", 198, 0);
    }

    private static void brokenOffAheadAt200() {
        searchedAhead(12, 4, "6-10 10-11 2-10 5-10 2-3 4-6 4-11 6-11 4-10 0-3 9-10 1-2 2-4 2-11 1-7 0-6", 200, 1);
        searchedAhead(12, 3, "1-9 0-7 1-5 7-11 2-5 0-5 0-11 7-10 10-11 1-7 7-8 1-3 1-10 5-6 4-6 4-11", 201, 1);
        searchedAhead(6, 4, "0-1 0-2 0-3 0-4 1-2 1-3 1-4 1-5 2-3 2-4 3-4", 200, 0);
        searchedAhead(9, 3, "1-4 1-6 1-8 2-4 2-5 2-8 4-5 4-8 5-8", 201, 0);
    }

    /** "one of fewest colours is taken, the least of several". */
    private static void fewestOfSeveral() {
        // All alike: 0. Then 2 and 3 have one less than 1: 2 is taken, and strikes its first colour at 1.
        RerootStore x = Due.told("store size 4 law 0 cut 2;pair 0 2;pair 0 3;pair 1 2;");
        Due.row("2 ahead of 1", Due.all(x.forward(3, 0), x.hue(3, 0), x.hue(3, 1), x.hue(3, 2), x.hue(3, 3)), 1, 1, 1, 2, 2);
        // Sets: 0, 2, 3; 2, 1; 3 (two are left, as at 1; 1 is the least of both), 1.
        Due.due("made", x.forward(3, 1), 7);
        RerootStore y = Due.told("store size 4 law 0 cut 2;pair 0 3;pair 3 1;");
        Due.row("3 ahead of 1", Due.all(y.forward(2, 0), y.hue(2, 0), y.hue(2, 1), y.hue(2, 2), y.hue(2, 3)), 1, 1, 1, 1, 2);
        RerootStore z = Due.told("store size 3 law 0 cut 2;");
        Due.row("all alike", Due.all(z.hue(4, 0), z.hue(4, 1), z.hue(4, 2)), 1, 1, 1);
    }

    /** "of this SIZE, CUT": by LAW 2 the WAY back to 0 has two LINKS, by CUT 2 it is turned, by CUT 1 cut. */
    private static void searchAtTheCut() {
        int[] due = {13, 10, 7, 7};
        for (int cut = 0; cut <= 3; cut++) {
            RerootStore x = Due.told(TRIANGLE.replace("law 0 cut 2", "law 2 cut " + cut));
            Due.row("CUT " + cut, Due.all(x.search(2, 2), x.searchBy(2, 2), x.searchBy(0, 2), x.searchBy(1, 2)), due[cut], due[cut], 7, 8);
        }
    }
}
