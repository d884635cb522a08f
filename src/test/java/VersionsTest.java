/** Promises 7 to 15, 40 and 41: what versions have, what they were made of, roots. */
public final class VersionsTest {
    // 0: 0 1 2 3; 1 of 0: 3 1 2 3; 2 of 1: 3 1 0 3; 3 of 0: 1 1 2 3; 4 of 2: 3 1 0 3
    private static final String DEEDS = "set 0 0 3;set 1 2 0;set 0 0 1;set 2 0 3;";

    public static void main(String[] args) {
        for (int law = 0; law <= 2; law++) {
            RerootStore x = Due.told("store size 4 law " + law + " cut 1;" + DEEDS);
            cells(x);
            makings(x);
            likeness(x);
            meetings(x);
            roots(x);
            blames(x);
        }
        circles();
        Due.finish("VersionsTest");
    }

    private static void cells(RerootStore x) {
        int before = x.ledger();
        long links = x.ways();
        int[][] rows = {{0, 1, 2, 3}, {3, 1, 2, 3}, {3, 1, 0, 3}, {1, 1, 2, 3}, {3, 1, 0, 3}};
        for (int v = 0; v < rows.length; v++) {
            for (int i = 0; i < 4; i++) {
                Due.due("cell " + v + " " + i, x.cell(v, i), rows[v][i]);
            }
        }
        Due.row("no such cell", Due.all(x.cell(5, 0), x.cell(-1, 0), x.cell(0, 4), x.cell(0, -1), x.cell(Integer.MIN_VALUE, Integer.MAX_VALUE)), -2, -2, -2, -2, -2);
        Due.row("nothing is counted, turned", Due.all(x.ledger(), x.ways(), x.count(6)), before, links, 0);
    }

    private static void makings(RerootStore x) {
        Due.row("the first one", Due.all(x.version(0, 0), x.version(0, 1), x.version(0, 2)), -1, -1, -1);
        Due.row("version 1", Due.all(x.version(1, 0), x.version(1, 1), x.version(1, 2)), 0, 0, 3);
        Due.row("version 2", Due.all(x.version(2, 0), x.version(2, 1), x.version(2, 2)), 1, 2, 0);
        Due.row("version 4", Due.all(x.version(4, 0), x.version(4, 1), x.version(4, 2)), 2, 0, 3);
        Due.row("none such", Due.all(x.version(5, 0), x.version(-1, 0), x.version(0, 3), x.version(1, 3), x.version(1, -1)), -2, -2, -2, -2, -2);
    }

    private static void likeness(RerootStore x) {
        Due.row("unlike", Due.all(x.unlike(2, 3), x.unlike(3, 2), x.unlike(0, 4), x.unlike(2, 4), x.unlike(0, 1), x.unlike(3, 3)), 2, 2, 2, 0, 1, 0);
        Due.row("unlike, none such", Due.all(x.unlike(5, 0), x.unlike(0, 5), x.unlike(-1, 0), x.unlike(0, -1)), -2, -2, -2, -2);
        Due.row("first", Due.all(x.first(0), x.first(1), x.first(2), x.first(3), x.first(4)), 0, 1, 2, 3, 2);
        RerootStore same = Due.told("store size 2 law 0 cut 0;set 0 1 1;set 1 0 1;set 2 0 0;");
        Due.row("first, as 0", Due.all(same.first(1), same.first(2), same.first(3)), 0, 2, 0);
        Due.row("first, none such", Due.all(x.first(5), x.first(-1)), -2, -2);
    }

    private static void meetings(RerootStore x) {
        Due.row("meet", Due.all(x.meet(2, 3), x.meet(3, 4), x.meet(4, 1), x.meet(1, 4), x.meet(2, 4), x.meet(3, 3), x.meet(0, 3)), 0, 0, 1, 1, 2, 3, 0);
        Due.row("meet, none such", Due.all(x.meet(5, 0), x.meet(0, 5), x.meet(-1, 0), x.meet(0, -1)), -2, -2, -2, -2);
        Due.row("apart", Due.all(x.apart(4, 3), x.apart(3, 4), x.apart(4, 1), x.apart(0, 3), x.apart(2, 2), x.apart(4, 0)), 4, 4, 2, 1, 0, 3);
        Due.row("apart, none such", Due.all(x.apart(5, 0), x.apart(0, 5), x.apart(-1, 0), x.apart(0, -1)), -2, -2, -2, -2);
    }

    private static void roots(RerootStore x) {
        Due.row("root", Due.all(x.root(0, 2), x.root(2, 0), x.root(2, 1), x.root(2, 2), x.root(2, 3), x.root(3, 0)), 2, 3, 1, 3, 3, 1);
        Due.row("root, none such", Due.all(x.root(5, 0), x.root(-1, 0), x.root(0, 4), x.root(0, -1)), -2, -2, -2, -2);
        Due.row("roots", Due.all(x.roots(0), x.roots(1), x.roots(2), x.roots(3)), 4, 3, 2, 3);
        Due.row("roots, none such", Due.all(x.roots(5), x.roots(-1)), -2, -2);
        Due.row("together", Due.all(x.together(2, 0), x.together(2, 1), x.together(2, 2), x.together(0, 3), x.together(3, 1)), 13, 2, 13, 8, 3);
        Due.row("together, none such", Due.all(x.together(5, 0), x.together(-1, 0), x.together(0, 4), x.together(0, -1)), -2, -2, -2, -2);
    }

    private static void blames(RerootStore x) {
        Due.row("blame", Due.all(x.blame(4, 0), x.blame(2, 0), x.blame(4, 2), x.blame(3, 2), x.blame(3, 0), x.blame(0, 0), x.blame(4, 1)), 4, 1, 2, 0, 3, 0, 0);
        Due.row("blame, none such", Due.all(x.blame(5, 0), x.blame(-1, 0), x.blame(0, 4), x.blame(0, -1)), -2, -2, -2, -2);
        Due.row("often", Due.all(x.often(4, 0), x.often(2, 0), x.often(4, 2), x.often(3, 2), x.often(0, 0), x.often(3, 0)), 2, 1, 1, 0, 0, 1);
        Due.row("often, none such", Due.all(x.often(5, 0), x.often(-1, 0), x.often(0, 4), x.often(0, -1)), -2, -2, -2, -2);
    }

    /** A way of numbers may go round: then it is SIZE times on, wherever that ends. */
    private static void circles() {
        RerootStore two = Due.told("store size 2 law 0 cut 0;set 0 0 1;set 1 1 0;");
        Due.row("round by two of two", Due.all(two.root(2, 0), two.root(2, 1), two.roots(2), two.together(2, 0)), 0, 1, 2, 1);
        RerootStore three = Due.told("store size 3 law 0 cut 0;set 0 0 1;set 1 1 0;set 2 2 0;");
        Due.row("round by two of three", Due.all(three.root(2, 0), three.root(2, 1), three.root(2, 2), three.roots(2), three.together(2, 0)), 1, 0, 2, 3, 1);
        // 3 has 1 0 0: from 2 on to 0, to 1, to 0.
        Due.row("into a round", Due.all(three.root(3, 2), three.together(3, 2), three.together(3, 0), three.roots(3)), 0, 6, 1, 2);
        RerootStore all = Due.told("store size 12 law 1 cut 0;set 0 0 11;set 1 11 10;set 2 10 9;set 3 9 8;set 4 8 7;set 5 7 6;set 6 6 5;set 7 5 4;set 8 4 3;set 9 3 2;set 10 2 1;");
        Due.row("a long way", Due.all(all.root(11, 0), all.roots(11), all.together(11, 0), all.root(10, 0), all.together(10, 1)), 1, 1, 4095, 2, 2);
    }
}
