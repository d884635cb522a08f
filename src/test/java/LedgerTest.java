/** Promises 23 to 30: steps, and what they would be by another law, another cut, without a deed. */
public final class LedgerTest {
    private static final String DEEDS = "set 0 0 3;set 1 2 0;set 0 0 1;set 2 0 3;";

    public static void main(String[] args) {
        spending();
        reading();
        otherLaws();
        snappingByOtherLaws();
        leavingOut();
        longWay();
        none();
        Due.finish("LedgerTest");
    }

    private static void spending() {
        RerootStore x = Due.told("store size 4 law 0 cut 1;" + DEEDS);
        Due.row("LAW 0", Due.all(x.ledger(), x.spent(0), x.spent(1), x.spent(2), x.spent(3), x.dearest()), 9, 1, 1, 3, 4, 3);
        Due.row("none such", Due.all(x.spent(4), x.spent(-1), x.spent(60), x.spent(Integer.MIN_VALUE)), -2, -2, -2, -2);
        x.reads(3, 0);
        Due.row("an act", Due.all(x.ledger(), x.spent(4), x.spent(5), x.dearest()), 13, 4, -2, 3);
        x.snaps(4);
        Due.row("a dearer one", Due.all(x.ledger(), x.spent(5), x.dearest()), 21, 8, 5);
        RerootStore y = Due.told("store size 4 law 1 cut 1;" + DEEDS);
        Due.row("LAW 1", Due.all(y.ledger(), y.spent(0), y.spent(3), y.dearest()), 4, 1, 1, 0);
        RerootStore z = Due.told("store size 4 law 2 cut 1;" + DEEDS);
        Due.row("LAW 2", Due.all(z.ledger(), z.spent(0), z.spent(1), z.spent(2), z.spent(3), z.dearest()), 10, 1, 1, 7, 1, 2);
        // Finding reads the last one too: from 2 on to 0 (no link gone along), to 3 (one), 3 itself (two).
        RerootStore f = Due.told("store size 4 law 1 cut 0;set 0 0 3;set 1 2 0;find 2 2;join 2 2 1;");
        Due.row("finding, joining", Due.all(f.spent(2), f.spent(3), f.cell(3, 3), f.version(3, 1)), 3, 6, 1, 3);
        // Round and round, SIZE times on; the last one is not read.
        RerootStore r = Due.told("store size 3 law 1 cut 0;set 0 0 1;set 1 1 0;find 2 0;find 2 1;");
        Due.row("finding in a round", Due.all(r.spent(2), r.spent(3)), 2, 1);
    }

    private static void reading() {
        RerootStore x = Due.told("store size 4 law 1 cut 1;" + DEEDS);
        Due.row("LAW 1", Due.all(x.cost(4, 0), x.cost(4, 2), x.cost(4, 1), x.cost(4, 3), x.cost(3, 1), x.cost(3, 0), x.cost(0, 0)), 0, 1, 3, 3, 1, 0, 0);
        Due.row("nothing is counted", Due.all(x.ledger(), x.ways(), x.count(5)), 4, 7, 4);
        RerootStore y = Due.told("store size 4 law 0 cut 1;" + DEEDS);
        Due.row("LAW 0", Due.all(y.cost(3, 0), y.cost(3, 3), y.cost(4, 0), y.cost(2, 1), y.ledger(), y.ways()), 4, 4, 0, 1, 9, 10);
        RerootStore z = Due.told("store size 4 law 2 cut 1;" + DEEDS);
        Due.row("LAW 2", Due.all(z.cost(1, 0), z.cost(0, 0), z.cost(2, 3), z.cost(3, 0), z.ledger(), z.direct()), 6, 1, 1, 0, 10, 2);
        Due.row("none such", Due.all(z.cost(5, 0), z.cost(-1, 0), z.cost(0, 4), z.cost(0, -1)), -2, -2, -2, -2);
    }

    private static void otherLaws() {
        for (int law = 0; law <= 2; law++) {
            RerootStore x = Due.told("store size 4 law " + law + " cut 1;" + DEEDS);
            Due.row("by", Due.all(x.by(0), x.by(1), x.by(2), x.by(3), x.by(-1)), 9, 4, 10, -2, -2);
            Due.row("cutting", Due.all(x.cutting(0), x.cutting(1), x.cutting(2), x.cutting(3), x.cutting(20), x.cutting(21), x.cutting(-1)), 10, 10, 13, 9, 9, -2, -2);
            Due.due("cut", x.cut(), 3);
            Due.row("nothing has happened", Due.all(x.ledger(), x.count(1), x.count(2), x.count(3)), law == 0 ? 9 : law == 1 ? 4 : 10, law, 1, 5);
        }
        // Acts count, too: 2 merged with 3 lays 1 in cell 0.
        RerootStore y = Due.told("store size 4 law 1 cut 3;" + DEEDS);
        y.merges(2, 3);
        Due.row("with a merge", Due.all(y.by(0), y.by(1), y.by(2)), 9 + 2, 5, 9 + 2);
    }

    /** By LAW 1 version 1 is not DIRECT behind the set, by LAW 0 and 2 it is: its snap is none there. */
    private static void snappingByOtherLaws() {
        RerootStore x = Due.told("store size 3 law 1 cut 0;set 0 0 1;snap 1;read 1 2;");
        Due.row("a snap by others", Due.all(x.ledger(), x.by(1), x.by(0), x.by(2), x.cutting(0)), 5, 5, 1, 1, 1);
    }

    private static void leavingOut() {
        // 1 for the set, 1 and 1 for two readings that turn a link, 4 for the snap, none for the finding.
        RerootStore x = Due.told("store size 3 law 0 cut 2;set 0 0 1;read 0 0;read 1 2;snap 0;find 1 0;");
        Due.row("all", Due.all(x.ledger(), x.spent(0), x.spent(1), x.spent(2), x.spent(3), x.spent(4)), 7, 1, 1, 1, 4, 0);
        Due.row("without", Due.all(x.without(1), x.without(2), x.without(3), x.without(4)), 5, 3, 3, 7);
        Due.row("without, none such", Due.all(x.without(0), x.without(5), x.without(-1), x.without(Integer.MAX_VALUE)), -2, -2, -2, -2);
        Due.row("nothing has happened", Due.all(x.ledger(), x.direct(), x.count(5)), 7, 2, 5);
        x.reads(0, 1);
        x.joins(0, 0, 1);
        x.merges(1, 1);
        x.patches(0, 0, 1);
        Due.row("acts", Due.all(x.without(5), x.without(6), x.without(7), x.without(8)), 8, -2, -2, -2);
    }

    /** A way of twenty links, read once: by any lesser cut it would be cut. */
    private static void longWay() {
        RerootStore x = Due.told("store size 2 law 2 cut 20;");
        for (int v = 0; v < 20; v++) {
            x.sets(v, v % 2, 0);
        }
        Due.row("twenty links", Due.all(x.length(0), x.cost(0, 0), x.reads(0, 0), x.spent(20)), 20, 20, 0, 20);
        Due.row("twenty links", Due.all(x.cutting(20), x.cutting(19), x.by(0), x.by(2), x.cut()), 40, 42, 40, 40, 20);
        Due.row("the dearest taken back", Due.all(x.dearest(), x.undo(), x.dearest()), 20, 20, 0);
        x.sets(20, 0, 1);
        Due.row("one more is cut", Due.all(x.cost(0, 0), x.cost(1, 0), x.reads(0, 1), x.spent(21), x.direct()), 23, 20, 1, 23, 2);
        RerootStore y = Due.told("store size 2 law 0 cut 0;set 0 0 1;");
        y.reads(0, 0);
        y.snaps(1);
        y.undo();
        y.undo();
        Due.row("what was dear is gone", Due.all(y.dearest(), y.anew(), y.dearest()), 0, 0, 0);
        RerootStore z = Due.told("store size 2 law 0 cut 0;");
        z.sets(0, 0, 1);
        z.undo();
        Due.row("none is left", Due.all(z.dearest(), z.ledger(), z.spent(0)), -1, 0, -2);
    }

    private static void none() {
        RerootStore x = Due.told("store size 3 law 0 cut 2;pair 0 1;");
        Due.row("no deeds", Due.all(x.ledger(), x.dearest(), x.by(1), x.cutting(5), x.cut(), x.spent(0), x.without(0)), 0, -1, 0, 0, 0, -2, -2);
        x.reads(0, 0);
        Due.row("none took any", Due.all(x.dearest(), x.spent(0), x.without(0)), -1, 0, 0);
    }
}
