/** Promises 16 to 22 and 47 to 49: links, ways, rows of their own, what must stay. */
public final class LinksTest {
    private static final String DEEDS = "set 0 0 3;set 1 2 0;set 0 0 1;set 2 0 3;";

    public static void main(String[] args) {
        byLaw0();
        byLaw1();
        byLaw2();
        severalRows();
        Due.finish("LinksTest");
    }

    private static long[] state(RerootStore x, int v) {
        return Due.all(x.state(v, 0), x.state(v, 1), x.state(v, 2), x.state(v, 3));
    }

    private static long[] lengths(RerootStore x, int versions) {
        long[] lengths = new long[versions];
        for (int v = 0; v < versions; v++) {
            lengths[v] = x.length(v);
        }
        return lengths;
    }

    /** The third set turns two links, the fourth one three: 0 to 1 to 2 to 4, and 3 to 0. */
    private static void byLaw0() {
        RerootStore x = Due.told("store size 4 law 0 cut 1;" + DEEDS);
        Due.row("LAW 0: 0", state(x, 0), 0, 1, 0, 0);
        Due.row("LAW 0: 1", state(x, 1), 0, 2, 2, 2);
        Due.row("LAW 0: 2", state(x, 2), 0, 4, 0, 3);
        Due.row("LAW 0: 3", state(x, 3), 0, 0, 0, 1);
        Due.row("LAW 0: 4", state(x, 4), 1, -1, -1, -1);
        Due.row("LAW 0: lengths", lengths(x, 5), 3, 2, 1, 4, 0);
        Due.row("LAW 0", Due.all(x.longest(), x.direct(), x.ways(), x.busiest(), x.snap()), 4, 1, 10, 2, 0);
        Due.row("LAW 0: snapping", Due.all(x.snapping(0), x.snapping(1), x.snapping(2), x.snapping(3), x.snapping(4)), 4, 4, 6, 6, 10);
    }

    private static void byLaw1() {
        RerootStore x = Due.told("store size 4 law 1 cut 1;" + DEEDS + "read 4 1;find 4 2;");
        Due.row("LAW 1: 0", state(x, 0), 1, -1, -1, -1);
        Due.row("LAW 1: 1", state(x, 1), 0, 0, 0, 3);
        Due.row("LAW 1: 2", state(x, 2), 0, 1, 2, 0);
        Due.row("LAW 1: 3", state(x, 3), 0, 0, 0, 1);
        Due.row("LAW 1: 4", state(x, 4), 0, 2, 0, 3);
        Due.row("none such", Due.all(x.state(5, 0), x.state(-1, 0), x.state(0, 4), x.state(1, 4), x.state(1, -1), x.length(5), x.length(-1), x.snapping(5), x.snapping(-1)), -2, -2, -2, -2, -2, -2, -2, -2, -2);
        Due.row("LAW 1: lengths", lengths(x, 5), 0, 1, 2, 1, 3);
        Due.row("LAW 1", Due.all(x.longest(), x.direct(), x.ways(), x.snap(), x.busiest()), 3, 1, 7, 2, 1);
        Due.row("LAW 1: snapping", Due.all(x.snapping(0), x.snapping(1), x.snapping(2), x.snapping(3), x.snapping(4)), 7, 4, 3, 6, 4);
        Due.row("nothing has happened", Due.all(x.ways(), x.direct(), x.count(6), x.state(2, 1), x.state(2, 2)), 7, 1, 0, 1, 2);
        Due.row("keeps", Due.all(x.keeps(16), x.keeps(8), x.keeps(1), x.keeps(31), x.keeps(0), x.keeps(12)), 23, 9, 1, 31, 0, 15);
        Due.row("keeps, others", Due.all(x.keeps(32), x.keeps(33), x.keeps(-1), x.keeps(Long.MIN_VALUE), x.keeps(1L << 40), x.keeps(1L << 62)), -2, -2, -2, -2, -2, -2);
        Due.row("room", Due.all(x.room(16), x.room(8), x.room(1), x.room(31), x.room(0)), 13, 7, 4, 16, 0);
        Due.row("room, others", Due.all(x.room(32), x.room(-1), x.room(Long.MIN_VALUE), x.room(1L << 32)), -2, -2, -2, -2);
    }

    /** The third set finds a way of two, longer than the cut: 0 gets a row of its own, hands it on to 3. */
    private static void byLaw2() {
        RerootStore x = Due.told("store size 4 law 2 cut 1;" + DEEDS);
        Due.row("LAW 2: 0", state(x, 0), 0, 3, 0, 0);
        Due.row("LAW 2: 1", state(x, 1), 0, 2, 2, 2);
        Due.row("LAW 2: 2", state(x, 2), 0, 4, 0, 3);
        Due.row("LAW 2: lengths", lengths(x, 5), 1, 2, 1, 0, 0);
        Due.row("LAW 2", Due.all(x.longest(), x.direct(), x.ways(), x.snap(), x.busiest()), 2, 2, 4, 1, 2);
        Due.row("LAW 2: room", Due.all(x.keeps(3), x.room(3)), 31, 17);
        Due.row("reading turns one link", Due.all(x.reads(0, 1), x.ledger(), x.state(0, 0), x.state(3, 1), x.state(3, 3)), 1, 11, 1, 0, 1);
        Due.row("reading cuts two", Due.all(x.reads(1, 1), x.ledger(), x.state(1, 0), x.state(2, 0), x.state(2, 1), x.direct()), 1, 17, 1, 0, 4, 3);
    }

    private static void severalRows() {
        RerootStore none = Due.told("store size 1 law 0 cut 0;");
        Due.row("one version", Due.all(none.longest(), none.direct(), none.ways(), none.snapping(0), none.snap(), none.busiest(), none.keeps(1), none.room(1)), 0, 1, 0, 0, -1, -1, 1, 1);
        RerootStore x = Due.told("store size 2 law 1 cut 0;set 0 0 1;set 0 1 0;");
        Due.row("no way through one", Due.all(x.busiest(), x.snap(), x.ways()), -1, 1, 2);
        x.snaps(1);
        Due.row("behind a snap", Due.all(x.direct(), x.ways(), x.snap(), x.keeps(6), x.room(6)), 2, 1, 2, 7, 7);
        x.snaps(2);
        Due.row("all of them", Due.all(x.direct(), x.ways(), x.snap(), x.busiest(), x.keeps(6), x.room(6)), 3, 0, -1, -1, 6, 4);
        RerootStore chain = Due.told("store size 2 law 0 cut 0;set 0 0 1;set 1 1 0;");
        Due.row("the first one is farthest", Due.all(chain.longest(), chain.ways(), chain.busiest()), 2, 3, 1);
        RerootStore fork = Due.told("store size 2 law 0 cut 0;set 0 0 1;set 0 1 0;");
        Due.row("the first one lies between", Due.all(fork.longest(), fork.ways(), fork.busiest()), 2, 3, 0);
        // A snapped one hands its row on as any other does.
        RerootStore y = Due.told("store size 3 law 0 cut 0;set 0 0 1;set 1 1 2;snap 0;read 1 0;");
        Due.row("snapped, read", Due.all(y.state(0, 0), y.state(1, 0), y.state(2, 1), y.direct()), 1, 1, 1, 2);
        Due.row("set on a snapped one", Due.all(y.sets(0, 2, 0), y.state(0, 1), y.state(0, 2), y.state(0, 3), y.state(3, 0)), 3, 3, 2, 2, 1);
    }
}
