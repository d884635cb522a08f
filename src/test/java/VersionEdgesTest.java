/** The edges of ROOTS (III) and of promises 7 to 15, 40 and 41: each method is one sentence of the document. */
public final class VersionEdgesTest {
    private static final int LEAST = Integer.MIN_VALUE;
    private static final int MOST = Integer.MAX_VALUE;
    // 0: 0 1 2; 1 of 0: 2 1 2; 2 of 1: 2 2 2
    private static final String DEEDS = "set 0 0 2;set 1 1 2;";

    public static void main(String[] args) {
        for (int law = 0; law <= 2; law++) {
            String text = "store size 3 law " + law + " cut 1;" + DEEDS;
            noSuchVersion(Due.told(text));
            noSuchCell(Due.told(text));
            noSuchOther(Due.told(text));
            noSuchWhat(Due.told(text));
            versionsComeAndGo(Due.told(text));
            nothingIsRead(Due.told(text));
        }
        fortyVersions();
        firstOfVersion();
        unlikeFromNoneToAll();
        firstIsItMaybe();
        meetIsOneOfThemMaybe();
        apartFromNone();
        sizeTimesAtMost();
        rootsFromOneToAll();
        togetherFromItAlone();
        blameOfNone();
        oftenFromNone();
        Due.finish("VersionEdgesTest");
    }

    private static RerootStore chain(int law, int cells, int sets) {
        RerootStore x = Due.told("store size " + cells + " law " + law + " cut 0;");
        for (int v = 0; v < sets; v++) {
            x.sets(v, v % cells, (v + 1) % cells);
        }
        return x;
    }

    /** "-2: there is none such", of a VERSION: below the first, behind the last one, and at both. */
    private static void noSuchVersion(RerootStore x) {
        long[] before = Whole.of(x);
        for (int v : new int[] {-1, 3, LEAST, MOST}) {
            Due.each("VERSION " + v, -2, () -> x.cell(v, 0), () -> x.version(v, 0), () -> x.unlike(v, 0), () -> x.first(v), () -> x.meet(v, 0), () -> x.apart(v, 0), () -> x.root(v, 0), () -> x.roots(v), () -> x.together(v, 0), () -> x.blame(v, 0), () -> x.often(v, 0));
        }
        Due.row("nothing happens", Whole.of(x), before);
        Due.row("VERSION 0", Due.all(x.cell(0, 0), x.version(0, 0), x.unlike(0, 0), x.first(0), x.meet(0, 0), x.apart(0, 0), x.root(0, 0), x.roots(0), x.together(0, 0), x.blame(0, 0), x.often(0, 0)), 0, -1, 0, 0, 0, 0, 0, 3, 1, 0, 0);
        Due.row("VERSION 2", Due.all(x.cell(2, 0), x.version(2, 0), x.unlike(2, 0), x.first(2), x.meet(2, 0), x.apart(2, 0), x.root(2, 0), x.roots(2), x.together(2, 0), x.blame(2, 0), x.often(2, 0)), 2, 1, 2, 2, 0, 2, 2, 1, 7, 1, 1);
    }

    /** The same of a cell. */
    private static void noSuchCell(RerootStore x) {
        long[] before = Whole.of(x);
        for (int i : new int[] {-1, 3, 12, LEAST, MOST}) {
            Due.each("cell " + i, -2, () -> x.cell(0, i), () -> x.root(0, i), () -> x.together(0, i), () -> x.blame(0, i), () -> x.often(0, i), () -> x.cell(3, i), () -> x.root(-1, i), () -> x.together(3, i), () -> x.blame(-1, i), () -> x.often(3, i));
        }
        Due.row("nothing happens", Whole.of(x), before);
        Due.row("cell 2", Due.all(x.cell(0, 2), x.root(0, 2), x.together(0, 2), x.blame(0, 2), x.often(0, 2)), 2, 2, 4, 0, 0);
    }

    /** The same of a second VERSION. */
    private static void noSuchOther(RerootStore x) {
        long[] before = Whole.of(x);
        for (int w : new int[] {-1, 3, LEAST, MOST}) {
            Due.each("other " + w, -2, () -> x.unlike(0, w), () -> x.meet(0, w), () -> x.apart(0, w), () -> x.unlike(2, w), () -> x.meet(2, w), () -> x.apart(2, w), () -> x.unlike(w, w), () -> x.meet(w, w), () -> x.apart(w, w));
        }
        Due.row("nothing happens", Whole.of(x), before);
        Due.row("other 2", Due.all(x.unlike(0, 2), x.meet(0, 2), x.apart(0, 2), x.unlike(2, 2), x.meet(2, 2), x.apart(2, 2)), 2, 0, 2, 0, 2, 0);
    }

    /** The same of what: of version() 0 .. 2. */
    private static void noSuchWhat(RerootStore x) {
        long[] before = Whole.of(x);
        for (int what : new int[] {-1, 3, LEAST, MOST}) {
            Due.each("version, what " + what, -2, () -> x.version(0, what), () -> x.version(1, what), () -> x.version(2, what), () -> x.version(3, what));
        }
        Due.row("nothing happens", Whole.of(x), before);
        Due.row("version, what 0, 2", Due.all(x.version(2, 0), x.version(2, 2)), 1, 2);
    }

    /** An act's VERSION is there till it is taken back. */
    private static void versionsComeAndGo(RerootStore x) {
        Due.row("ahead of it", Due.all(x.cell(3, 0), x.first(3), x.meet(3, 0)), -2, -2, -2);
        x.sets(0, 2, 0);
        Due.row("there is one more", Due.all(x.cell(3, 2), x.first(3), x.meet(3, 2), x.apart(3, 2), x.blame(3, 2), x.cell(4, 0), x.first(4)), 0, 3, 0, 3, 3, -2, -2);
        x.undo();
        Due.row("there is one less", Due.all(x.cell(3, 0), x.first(3), x.meet(3, 0), x.meet(0, 3), x.cell(2, 0)), -2, -2, -2, -2, 2);
    }

    /** "no reading: nothing is counted, turned". */
    private static void nothingIsRead(RerootStore x) {
        long[] before = Whole.of(x);
        for (int v = 0; v < 3; v++) {
            for (int i = 0; i < 3; i++) {
                Due.due("cell " + v + " " + i, x.cell(v, i), i < v ? 2 : i);
                Due.due("root " + v + " " + i, x.root(v, i), i < v ? 2 : i);
                x.together(v, i);
                x.blame(v, i);
            }
            x.roots(v);
            x.first(v);
            x.unlike(v, 0);
        }
        Due.row("nothing is read", Whole.of(x), before);
    }

    /** The last of 40 VERSIONS, and the one behind it. */
    private static void fortyVersions() {
        RerootStore x = Due.told("store size 2 law 1 cut 0;" + "set 0 0 0;".repeat(19));
        for (int v = 19; v < 39; v++) {
            x.sets(v, 1, v % 2);
        }
        Due.row("VERSION 39", Due.all(x.count(3), x.cell(39, 1), x.version(39, 0), x.first(39), x.meet(39, 38), x.apart(39, 18), x.apart(39, 19), x.root(39, 1), x.roots(39), x.together(39, 1), x.blame(39, 1), x.often(39, 1), x.often(39, 0)), 40, 0, 38, 21, 38, 22, 20, 0, 1, 3, 39, 20, 1);
        Whole.stays("VERSION 40", x, -2, () -> x.cell(40, 0), () -> x.version(40, 0), () -> x.unlike(0, 40), () -> x.first(40), () -> x.meet(40, 0), () -> x.apart(0, 40), () -> x.root(40, 0), () -> x.roots(40), () -> x.together(40, 0), () -> x.blame(40, 0), () -> x.often(40, 0));
    }

    /** "(NONE each: the first one)": the second one has all three. */
    private static void firstOfVersion() {
        RerootStore x = Due.told("store size 1 law 0 cut 0;set 0 0 0;");
        Due.row("the first one", Due.all(x.version(0, 0), x.version(0, 1), x.version(0, 2)), -1, -1, -1);
        Due.row("the second one", Due.all(x.version(1, 0), x.version(1, 1), x.version(1, 2)), 0, 0, 0);
    }

    /** "In how many cells two VERSIONS differ": none to all of them. */
    private static void unlikeFromNoneToAll() {
        RerootStore one = Due.told("store size 1 law 0 cut 0;set 0 0 0;");
        Due.row("of one cell", Due.all(one.unlike(0, 0), one.unlike(0, 1), one.unlike(1, 0)), 0, 0, 0);
        for (int n : new int[] {2, 12}) {
            RerootStore x = chain(0, n, n);
            for (int v = 0; v <= n; v++) {
                Due.row("unlike 0 in " + v, Due.all(x.unlike(0, v), x.unlike(v, 0), x.unlike(v, v)), v, v, 0);
            }
        }
    }

    /** "(it, maybe)". */
    private static void firstIsItMaybe() {
        RerootStore x = Due.told("store size 3 law 0 cut 0;set 0 2 2;set 1 2 0;set 2 2 2;set 3 2 0;");
        Due.row("first", Due.all(x.first(0), x.first(1), x.first(2), x.first(3), x.first(4)), 0, 0, 2, 0, 2);
        // The last cell of twelve is looked at, too.
        RerootStore y = Due.told("store size 12 law 0 cut 0;set 0 11 0;set 1 0 11;set 2 0 0;");
        Due.row("first by the last cell", Due.all(y.first(1), y.first(2), y.first(3)), 1, 2, 1);
    }

    /** "(or one of them)". */
    private static void meetIsOneOfThemMaybe() {
        RerootStore x = Due.told("store size 3 law 0 cut 0;set 0 0 0;set 1 0 0;set 1 0 0;set 0 0 0;set 2 0 0;");
        Due.row("it itself", Due.all(x.meet(0, 0), x.meet(1, 1), x.meet(5, 5)), 0, 1, 5);
        Due.row("one of them", Due.all(x.meet(1, 2), x.meet(2, 1), x.meet(5, 1), x.meet(0, 5), x.meet(5, 2)), 1, 1, 1, 0, 2);
        Due.row("over others", Due.all(x.meet(2, 3), x.meet(5, 3), x.meet(3, 5), x.meet(4, 5), x.meet(4, 3), x.meet(1, 4)), 1, 1, 1, 0, 0, 0);
    }

    /** "How many sets (of VERSIONS) lie between two": none between one and itself. */
    private static void apartFromNone() {
        RerootStore x = chain(1, 2, 29);
        Due.row("a line of thirty", Due.all(x.apart(0, 0), x.apart(29, 29), x.apart(0, 1), x.apart(29, 28), x.apart(0, 29), x.apart(29, 0)), 0, 0, 1, 1, 29, 29);
        RerootStore y = Due.told("store size 2 law 1 cut 0;set 0 0 0;set 0 0 0;set 1 0 0;set 2 0 0;");
        Due.row("over what both were made of", Due.all(y.apart(1, 2), y.apart(3, 4), y.apart(3, 2), y.apart(1, 4)), 2, 4, 3, 3);
    }

    /** "SIZE times at most, on to the CELL whose number it has, till one has its own". */
    private static void sizeTimesAtMost() {
        RerootStore one = Due.told("store size 1 law 0 cut 0;");
        Due.row("one cell", Due.all(one.root(0, 0), one.finds(0, 0)), 0, 0);
        // SIZE - 1 times on is the longest way to one that has its own.
        for (int n : new int[] {2, 3, 12}) {
            RerootStore x = chain(0, n, n - 1);
            Due.row("a row of " + n, Due.all(x.root(n - 1, 0), x.root(n - 1, n - 1), x.root(n - 1, n / 2), x.finds(n - 1, 0)), n - 1, n - 1, n - 1, n - 1);
            // All round: SIZE times on is back at the cell.
            RerootStore round = chain(0, n, n);
            for (int i = 0; i < n; i++) {
                Due.row("a round of " + n, Due.all(round.root(n, i), round.finds(n, i)), i, i);
            }
        }
        // 0 to 1 and back: three times on from 0 is 1, from 1 is 0; 2 leads into it: 0, 1, 0.
        RerootStore three = Due.told("store size 3 law 0 cut 0;set 0 0 1;set 1 1 0;set 2 2 0;");
        Due.row("a round of two in three", Due.all(three.root(3, 0), three.root(3, 1), three.root(3, 2), three.finds(3, 0), three.finds(3, 1), three.finds(3, 2)), 1, 0, 0, 1, 0, 0);
        // Its own one only at the end: a way into a round never has one.
        Due.row("a round of two of three", Due.all(three.root(2, 2), three.root(1, 0), three.root(1, 2)), 2, 1, 2);
    }

    /** "How many ROOTS its cells have": one to SIZE. */
    private static void rootsFromOneToAll() {
        Due.due("roots of one cell", Due.told("store size 1 law 0 cut 0;").roots(0), 1);
        for (int n : new int[] {2, 12}) {
            RerootStore x = Due.told("store size " + n + " law 0 cut 0;");
            for (int i = 1; i < n; i++) {
                Due.row("roots of " + n + " joined", Due.all(x.roots(i - 1), x.joins(i - 1, i - 1, i)), n - i + 1, i);
            }
            Due.due("all joined", x.roots(n - 1), 1);
            RerootStore round = chain(0, n, n);
            Due.due("a round of " + n, round.roots(n), n);
        }
    }

    /** "(it, too), as bits": it alone, up to all of them. */
    private static void togetherFromItAlone() {
        RerootStore x = Due.told("store size 12 law 0 cut 0;");
        for (int i = 0; i < 12; i++) {
            Due.due("alone " + i, x.together(0, i), 1 << i);
        }
        for (int i = 1; i < 12; i++) {
            x.joins(i - 1, i, 0);
        }
        Due.row("all of them", Due.all(x.together(11, 0), x.together(11, 11), x.together(10, 0), x.together(10, 11), x.together(1, 1), x.together(1, 2)), 4095, 4095, 2047, 2048, 3, 4);
        Due.due("one cell", Due.told("store size 1 law 0 cut 0;").together(0, 0), 1);
    }

    /** "(itself, too); 0: none did". */
    private static void blameOfNone() {
        RerootStore x = Due.told("store size 3 law 0 cut 0;set 0 1 1;set 1 2 0;set 1 1 0;set 2 1 2;");
        Due.row("none did", Due.all(x.blame(0, 0), x.blame(0, 1), x.blame(4, 0), x.blame(1, 2), x.blame(3, 2)), 0, 0, 0, 0, 0);
        Due.row("itself", Due.all(x.blame(1, 1), x.blame(2, 2), x.blame(3, 1), x.blame(4, 1)), 1, 2, 3, 4);
        Due.row("an elder one", Due.all(x.blame(2, 1), x.blame(4, 2)), 1, 2);
    }

    /** "How often a cell was set till a VERSION (.. itself, too)": never, up to each time. */
    private static void oftenFromNone() {
        RerootStore x = Due.told("store size 2 law 1 cut 0;" + "set 0 1 1;".repeat(5));
        Due.row("never", Due.all(x.often(0, 0), x.often(0, 1), x.often(5, 0)), 0, 0, 0);
        Due.row("once, though five did", Due.all(x.often(1, 1), x.often(5, 1)), 1, 1);
        int newest = 5;
        for (int times = 2; times <= 30; times++) {
            newest = x.sets(newest, 1, times % 2);
            Due.row("each time", Due.all(x.often(newest, 1), x.often(newest, 0), x.blame(newest, 1)), times, 0, newest);
        }
    }
}
