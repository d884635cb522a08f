/** Promises 36 to 39 and 50 to 52: the search by colours, and the one that looks ahead. */
public final class SearchTest {
    private static final String TRIANGLE = "pair 0 1;pair 1 2;pair 2 0;";

    public static void main(String[] args) {
        path();
        triangle();
        cutsInSearch();
        cliques();
        twelveAhead();
        brokenOff();
        ahead();
        wrongInputs();
        Due.finish("SearchTest");
    }

    private static String clique(int least, int behind) {
        StringBuilder text = new StringBuilder();
        for (int a = least; a < behind; a++) {
            for (int b = a + 1; b < behind; b++) {
                text.append("pair ").append(a).append(' ').append(b).append(';');
            }
        }
        return text.toString();
    }

    private static long[] search(RerootStore x, int colours) {
        return Due.all(x.search(colours, 0), x.search(colours, 1), x.search(colours, 2), x.search(colours, 3));
    }

    private static long[] forward(RerootStore x, int colours) {
        return Due.all(x.forward(colours, 0), x.forward(colours, 1), x.forward(colours, 2), x.forward(colours, 3));
    }

    private static void path() {
        RerootStore x = Due.told("store size 3 law 1 cut 0;pair 0 1;pair 2 1;set 0 0 2;");
        Due.row("a path by two", search(x, 2), 1, 3, 3, 0);
        Due.row("a path: colours", Due.all(x.colour(2, 0), x.colour(2, 1), x.colour(2, 2), x.colours()), 1, 2, 1, 2);
        Due.row("a path by one", search(x, 1), 0, 1, 1, 1);
        Due.row("a path by one: none", Due.all(x.colour(1, 0), x.colour(1, 2)), 0, 0);
        Due.row("nothing has happened", Due.all(x.ledger(), x.count(3), x.count(6)), 1, 2, 0);
        RerootStore alone = Due.told("store size 1 law 0 cut 0;");
        Due.row("one cell", search(alone, 1), 1, 1, 1, 0);
        Due.row("one cell", Due.all(alone.colours(), alone.colour(4, 0), alone.hue(4, 0)), 1, 1, 1);
    }

    private static void triangle() {
        RerootStore x = Due.told("store size 3 law 0 cut 2;" + TRIANGLE);
        Due.row("a triangle by two", search(x, 2), 0, 4, 7, 4);
        Due.row("a triangle by three", search(x, 3), 1, 3, 3, 0);
        Due.row("a triangle by laws", Due.all(x.searchBy(0, 2), x.searchBy(1, 2), x.searchBy(2, 2), x.colours()), 7, 8, 7, 3);
        Due.row("a triangle: colours", Due.all(x.colour(3, 0), x.colour(3, 1), x.colour(3, 2), x.colour(2, 1)), 1, 2, 3, 0);
    }

    /** Going back to 0 is a way of two links, reading in version 3 later on one of one link. */
    private static void cutsInSearch() {
        int[] due = {13, 10, 7};
        for (int cut = 0; cut <= 2; cut++) {
            RerootStore x = Due.told("store size 3 law 2 cut " + cut + ";" + TRIANGLE);
            Due.row("a triangle, cut " + cut, Due.all(x.search(2, 2), x.searchBy(2, 2), x.searchBy(0, 2)), due[cut], due[cut], 7);
        }
    }

    private static void cliques() {
        RerootStore four = Due.told("store size 4 law 0 cut 2;" + clique(0, 4));
        Due.row("four by four", Due.all(four.colours(), four.colour(4, 0), four.colour(4, 3), four.search(4, 1), four.search(4, 3)), 4, 1, 4, 4, 0);
        Due.row("four by three", Due.all(four.search(3, 0), four.search(3, 1), four.search(3, 3)), 0, 3 + 6 + 6, 15);
        RerootStore five = Due.told("store size 5 law 0 cut 2;" + clique(0, 5));
        Due.row("five by four", Due.all(five.search(4, 0), five.search(4, 1), five.search(4, 3), five.colours(), five.colour(4, 4)), 0, 4 + 12 + 24 + 24, 64, -1, 0);
        Due.row("five, looking ahead", Due.all(five.forward(4, 0), five.hue(4, 4), five.hue(4, 0)), 0, 0, 0);
        RerootStore none = Due.told("store size 12 law 0 cut 2;");
        Due.row("no pairs", Due.all(none.colours(), none.search(1, 0), none.search(1, 1), none.search(1, 2), none.colour(1, 11), none.colour(4, 11)), 1, 1, 12, 12, 1, 1);
    }

    private static void twelveAhead() {
        RerootStore x = Due.told("store size 12 law 0 cut 2;");
        Due.row("twelve ahead", forward(x, 1), 1, 12, 12, 0);
        Due.row("twelve ahead", Due.all(x.hue(1, 0), x.hue(1, 11), x.hue(4, 11), x.forward(4, 1), x.forward(4, 2)), 1, 1, 1, 12, 12);
        // Reading by LAW 1 goes along all links but those of cells that have a colour: 11 cells once, 10 twice ..
        Due.due("twelve ahead by LAW 1", x.forwardBy(1, 1), 12 + 11 * 1 + 10 * 2 + 9 * 3 + 8 * 4 + 7 * 5 + 6 * 6 + 5 * 7 + 4 * 8 + 3 * 9 + 2 * 10 + 1 * 11);
    }

    /** Seven cells of no pair ahead of five that four colours are too few for: they are tried in vain. */
    private static void brokenOff() {
        RerootStore x = Due.told("store size 12 law 0 cut 2;" + clique(7, 12));
        Due.row("broken off", Due.all(x.search(4, 0), x.search(4, 1), x.colour(4, 0), x.colours()), 2, 199, 0, -1);
        Due.row("broken off, ahead", Due.all(x.forward(4, 0), x.forward(4, 1), x.hue(4, 0)), 2, 199, 0);
        // By LAW 1 a set is a step and a reading takes as many as links lie ahead of the one of that cell.
        Due.row("one colour", Due.all(x.search(1, 0), x.search(1, 1), x.search(1, 3), x.searchBy(1, 1)), 0, 8, 8, 8);
        // 199 versions and found is found: 198 sets in vain would not fit, so the last one is looked at.
        RerootStore y = Due.told("store size 12 law 0 cut 2;" + clique(8, 12));
        Due.row("four by four behind eight", Due.all(y.search(4, 0), y.search(4, 1), y.search(3, 0), y.search(3, 1), y.colours()), 1, 12, 2, 199, 4);
    }

    private static void ahead() {
        // 0 takes 1, strikes it at 1; 1 has one colour left and is taken, strikes it at 2: 1, 2, 1.
        RerootStore x = Due.told("store size 3 law 1 cut 0;pair 0 1;pair 2 1;");
        Due.row("a path ahead", forward(x, 2), 1, 5, 11, 0);
        Due.row("a path ahead: hues", Due.all(x.hue(2, 0), x.hue(2, 1), x.hue(2, 2)), 1, 2, 1);
        Due.row("a path ahead by one", Due.all(x.forward(1, 0), x.forward(1, 1), x.forward(1, 3), x.hue(1, 0)), 0, 2, 0, 0);
        RerootStore y = Due.told("store size 3 law 0 cut 2;" + TRIANGLE);
        Due.row("a triangle ahead by two", forward(y, 2), 0, 10, 15, 2);
        Due.row("a triangle ahead by three", forward(y, 3), 1, 6, 6, 0);
        Due.row("a triangle ahead by laws", Due.all(y.forwardBy(0, 2), y.forwardBy(1, 2), y.hue(3, 0), y.hue(3, 1), y.hue(3, 2), y.hue(2, 0)), 15, 20, 1, 2, 3, 0);
        // 3 is a pair with 0 and has the fewest behind it, so it is taken ahead of 1.
        RerootStore z = Due.told("store size 4 law 0 cut 2;pair 0 3;");
        Due.row("the fewest first", Due.all(z.forward(2, 0), z.forward(2, 1), z.hue(2, 0), z.hue(2, 1), z.hue(2, 2), z.hue(2, 3), z.forward(2, 2)), 1, 5, 1, 1, 1, 2, 5);
        RerootStore four = Due.told("store size 4 law 2 cut 0;" + clique(0, 4));
        Due.row("four by four ahead", Due.all(four.forward(4, 0), four.hue(4, 0), four.hue(4, 1), four.hue(4, 2), four.hue(4, 3), four.forward(4, 1)), 1, 1, 2, 3, 4, 4 + 3 + 2 + 1);
        Due.row("cut 0 turns none", Due.all(four.forward(4, 2), four.forwardBy(2, 4), four.forwardBy(0, 4)), 10, 10, 10);
    }

    private static void wrongInputs() {
        RerootStore x = Due.told("store size 3 law 0 cut 2;" + TRIANGLE);
        Due.row("search", Due.all(x.search(0, 0), x.search(5, 0), x.search(-1, 0), x.search(2, 4), x.search(2, -1)), -2, -2, -2, -2, -2);
        Due.row("searchBy", Due.all(x.searchBy(3, 2), x.searchBy(-1, 2), x.searchBy(0, 0), x.searchBy(0, 5)), -2, -2, -2, -2);
        Due.row("colour", Due.all(x.colour(0, 0), x.colour(5, 0), x.colour(2, 3), x.colour(2, -1), x.colour(Integer.MIN_VALUE, 0)), -2, -2, -2, -2, -2);
        Due.row("forward", Due.all(x.forward(0, 0), x.forward(5, 0), x.forward(-1, 0), x.forward(2, 4), x.forward(2, -1)), -2, -2, -2, -2, -2);
        Due.row("forwardBy", Due.all(x.forwardBy(3, 2), x.forwardBy(-1, 2), x.forwardBy(0, 0), x.forwardBy(0, 5)), -2, -2, -2, -2);
        Due.row("hue", Due.all(x.hue(0, 0), x.hue(5, 0), x.hue(3, 3), x.hue(3, -1), x.hue(Integer.MAX_VALUE, 0)), -2, -2, -2, -2, -2);
    }
}
