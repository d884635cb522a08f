/** The edges of the TEXT (I) and of promises 1 to 6: each method is one sentence of the document. */
public final class TextEdgesTest {
    private static final String HEAD = "store size 3 law 0 cut 2;";
    private static final int BEHIND = HEAD.length();
    /** Numbers that would be a right one if they went round at 32 or 64 bits. */
    private static final String[] ROUND = {"2147483648", "4294967296", "4294967297", "4294967298", "18446744073709551616", "18446744073709551617", "340282366920938463463374607431768211456"};

    public static void main(String[] args) {
        noStore();
        feedTo500();
        feedsBytes();
        endsWithin();
        storeAnswers();
        storeLeavesAllElse();
        faultOfTheLatest();
        countOthers();
        firstLine();
        sizes();
        laws();
        cuts();
        numbersGoNotRound();
        cellsOfDeeds();
        cellsOfPairs();
        unlikeCells();
        eachTwoOnce();
        sixteenPairs();
        thirtyDeeds();
        versionsThere();
        twentyVersions();
        joinsOfTwoRoots();
        snapsOfLinks();
        everyByte();
        theLongest();
        firstByPlace();
        leastOfOnePlace();
        endsPlace();
        Due.finish("TextEdgesTest");
    }

    private static RerootStore fine(String text, int lines) {
        RerootStore x = new RerootStore();
        Due.due("lines of: " + text, Due.tell(x, text), lines);
        Due.row("no fault in: " + text, Due.all(x.fault(0), x.fault(1)), 0, -1);
        return x;
    }

    /** "No STORE": whatever is asked, also what would be too much for one. */
    private static void noStore() {
        RerootStore emptied = Due.told(HEAD + "set 0 0 1;");
        Due.tell(emptied, "");
        RerootStore faulty = Due.told("store size 13");
        for (RerootStore x : new RerootStore[] {new RerootStore(), emptied, faulty}) {
            for (int n : new int[] {-1, 0, 1}) {
                Whole.stays("no STORE, " + n, x, -2, () -> x.cell(n, 0), () -> x.version(n, 0), () -> x.unlike(n, 0), () -> x.first(n), () -> x.meet(n, 0), () -> x.apart(n, 0), () -> x.root(n, 0), () -> x.roots(n), () -> x.together(n, 0), () -> x.state(n, 0), () -> x.length(n), () -> x.snapping(n), () -> x.spent(n), () -> x.cost(n, 0), () -> x.by(n), () -> x.cutting(n), () -> x.without(n), () -> x.blame(n, 0), () -> x.often(n, 0), () -> x.merging(n, 0, 0), () -> x.merged(n, 0, 0), () -> x.patching(n, 0, 0), () -> x.keeps(n), () -> x.room(n), () -> x.search(n, 0), () -> x.searchBy(n, 1), () -> x.colour(n, 0), () -> x.forward(n, 0), () -> x.forwardBy(n, 1), () -> x.hue(n, 0), () -> x.image(n));
            }
            Whole.stays("no STORE", x, -2, x::longest, x::direct, x::ways, x::snap, x::busiest, x::ledger, x::dearest, x::cut, x::colours, x::undo, x::anew, () -> x.reads(0, 0), () -> x.sets(0, 0, 0), () -> x.joins(0, 0, 1), () -> x.finds(0, 0), () -> x.snaps(0), () -> x.merges(0, 0), () -> x.patches(0, 0, 0));
            Whole.stays("no STORE, images", x, -6, () -> x.back(0), () -> x.back(1), () -> x.back(2));
            Whole.stays("no STORE, no image", x, -2, () -> x.back(-1), () -> x.back(3), () -> x.image(-1), () -> x.image(3));
        }
    }

    /** "NONE, and none come, if it would have more than 500." */
    private static void feedTo500() {
        for (int had = 478; had <= 483; had++) {
            RerootStore x = new RerootStore();
            for (int n = 0; n < 25; n++) {
                x.feed(0x20202020, 0x20202020, 0x20202020, 0x20202020, 0x20202020);
            }
            x.end(had);
            boolean fits = had <= 480;
            Due.row("feed on " + had, Due.all(x.feed(-1, -1, -1, -1, -1), x.count(8)), fits ? had + 20 : -1, fits ? had + 20 : had);
            // Blanks alone are no LINE; bytes that came would be a fault, at their place.
            Due.row("what came on " + had, Due.all(x.store(), x.fault(1)), fits ? -4 : 0, fits ? had : -1);
        }
        RerootStore full = new RerootStore();
        for (int n = 20; n <= 500; n += 20) {
            Due.due("feed to " + n, full.feed(0, 0, 0, 0, 0), n);
        }
        Whole.stays("feed on 500", full, -1, () -> full.feed(0, 0, 0, 0, 0), () -> full.feed(-1, 1, -1, 1, -1));
        full.store();
        Due.due("feed on the TAPE that store() emptied", full.feed(0, 0, 0, 0, 0), 20);
    }

    /** "four of each number, the highest first": the least and the greatest numbers, too. */
    private static void feedsBytes() {
        RerootStore x = new RerootStore();
        x.feed(0x20202020, 0x2020200a, 0x0a0a0a0a, 0x20202020, 0x20202080);
        Due.row("the twentieth byte", Due.all(x.store(), x.fault(0), x.fault(1)), -4, 1, 19);
        int[] first = {Integer.MIN_VALUE, Integer.MAX_VALUE, -1, 0, 0x20000000, 0x20200000, 0x20202000};
        int[] place = {0, 0, 0, 0, 1, 2, 3};
        for (int i = 0; i < first.length; i++) {
            x.feed(first[i], 0, 0, 0, 0);
            Due.row("bytes of " + first[i], Due.all(x.store(), x.fault(0), x.fault(1)), -4, 1, place[i]);
        }
    }

    /** "NONE, and nothing happens, if it has not so many, or n is below 0." */
    private static void endsWithin() {
        RerootStore empty = new RerootStore();
        Whole.stays("end of an empty TAPE", empty, -1, () -> empty.end(1), () -> empty.end(-1));
        Due.row("end of an empty TAPE at 0", Due.all(empty.end(0), empty.count(8)), 0, 0);
        RerootStore x = Due.told(HEAD + "set 0 0 1;");
        Due.lay(x, HEAD);
        Whole.stays("end outside", x, -1, () -> x.end(BEHIND + 1), () -> x.end(-1), () -> x.end(Integer.MAX_VALUE), () -> x.end(Integer.MIN_VALUE), () -> x.end(500), () -> x.end(501));
        Due.row("end at all of them", Due.all(x.end(BEHIND), x.count(8)), BEHIND, BEHIND);
        Due.row("one below all of them", Due.all(x.end(BEHIND - 1), x.count(8), x.end(BEHIND), x.count(8)), BEHIND - 1, BEHIND - 1, -1, BEHIND - 1);
        Due.row("the first n alone", Due.all(x.store(), x.fault(0), x.fault(1)), -4, 1, BEHIND - 1);
        Due.lay(x, HEAD);
        Due.row("end at 1, at 0", Due.all(x.end(1), x.end(0), x.count(8), x.end(1), x.store()), 1, 0, 0, -1, 0);
    }

    /** "how many LINES (0: there is none then)". */
    private static void storeAnswers() {
        fine("", 0);
        fine(" ", 0);
        fine("\n", 0);
        Due.row("one LINE", Due.all(fine(HEAD, 1).count(3), fine(HEAD, 1).count(7)), 1, 1);
        // All that one text may hold: a store, sixteen pairs, thirty deeds.
        String most = "store size 9 law 0 cut 0;" + pairs(9, 16) + "read0 0;".repeat(30);
        RerootStore x = fine(most, 47);
        Due.row("most LINES", Due.all(x.count(7), x.count(4), x.count(5)), 47, 16, 30);
        String all500 = HEAD + " ".repeat(475);
        Due.due("a TAPE of 500", fine(all500, 1).count(0), 3);
        Due.faulty(HEAD + " ".repeat(474) + ";", 1, 499);
        Due.faulty(HEAD + " ".repeat(471) + "snap", 1, 500);
        Due.faulty(HEAD + " ".repeat(400) + "x" + "9".repeat(74), 1, 425);
    }

    /** "-4: a FAULT (all else stays)": STORE, DEEDS, acts, images; "The TAPE (empty then)" is empty all the same. */
    private static void storeLeavesAllElse() {
        RerootStore x = Due.told(HEAD + "pair 0 1;set 0 0 1;");
        x.reads(0, 0);
        x.image(2);
        x.sets(1, 2, 0);
        String[] faulty = {"x", HEAD + "set 0 0 2;set 0 1 2;snap 2;", "store size 12 law 1 cut 9;pair 5 6;pair 6", HEAD.substring(0, BEHIND - 1)};
        long[] before = known(x);
        for (String text : faulty) {
            Due.due("a fault in " + text, Due.tell(x, text), -4);
            Due.row("all else stays behind " + text, known(x), before);
            Due.due("the TAPE is empty behind " + text, x.count(8), 0);
        }
        Due.row("acts go on", Due.all(x.undo(), x.reads(1, 0), x.count(6), x.back(2), x.count(6)), 1, 1, 2, 0, 1);
    }

    private static long[] known(RerootStore x) {
        long[] whole = Whole.of(x);
        // The latest fault and its place are of the latest store(), and no part of what stays.
        whole[9] = 0;
        whole[10] = 0;
        return whole;
    }

    /** "0 without", "NONE without", "NONE for another what, and ahead of any (what 1)." */
    private static void faultOfTheLatest() {
        RerootStore x = new RerootStore();
        Due.row("ahead of any", Due.all(x.fault(-1), x.fault(0), x.fault(1), x.fault(2)), -1, 0, -1, -1);
        Due.tell(x, "  ?");
        Due.row("with one", Due.all(x.fault(-1), x.fault(0), x.fault(1), x.fault(2), x.fault(Integer.MIN_VALUE), x.fault(Integer.MAX_VALUE)), -1, 1, 2, -1, -1, -1);
        Due.tell(x, "?");
        Due.row("at place 0", Due.all(x.fault(0), x.fault(1)), 1, 0);
        Due.tell(x, "");
        Due.row("without, no LINE", Due.all(x.fault(0), x.fault(1), x.fault(2)), 0, -1, -1);
        Due.tell(x, "store size 0");
        Due.tell(x, HEAD);
        Due.row("without", Due.all(x.fault(-1), x.fault(0), x.fault(1), x.fault(2)), -1, 0, -1, -1);
    }

    /** "NONE for others." */
    private static void countOthers() {
        RerootStore x = Due.told(HEAD);
        Whole.stays("count of others", x, -1, () -> x.count(-1), () -> x.count(9), () -> x.count(Integer.MIN_VALUE), () -> x.count(Integer.MAX_VALUE));
        Due.row("count at 0, at 8", Due.all(x.count(0), x.count(8)), 3, 0);
    }

    /** "store is the first LINE and no other", "1 .. (store behind the first LINE, another word ahead of it)". */
    private static void firstLine() {
        Due.faulty(HEAD + HEAD, 1, BEHIND);
        Due.faulty(HEAD + "set 0 0 1;" + HEAD, 1, BEHIND + 10);
        for (String word : new String[] {"pair 0 1;", "set 0 0 0;", "join 0 0 1;", "read 0 0;", "find 0 0;", "snap 0;", "size 3;", "law 0;", "cut 0;"}) {
            Due.faulty(word, 1, 0);
            Due.faulty(" " + word + HEAD, 1, 1);
        }
        Due.faulty(HEAD + "size 3 law 0 cut 2;", 1, BEHIND);
        Due.faulty(HEAD + "law 0;", 1, BEHIND);
        Due.faulty(HEAD + "cut 0;", 1, BEHIND);
    }

    /** "SIZE N 1 .. 12". */
    private static void sizes() {
        Due.faulty("store size 0 law 0 cut 2;", 2, 11);
        for (int n = 1; n <= 12; n++) {
            RerootStore x = fine("store size " + n + " law 0 cut 2;", 1);
            Due.row("size " + n, Due.all(x.count(0), x.cell(0, n - 1), x.cell(0, n)), n, n - 1, -2);
        }
        Due.faulty("store size 13 law 0 cut 2;", 2, 11);
    }

    /** "LAW L 0 .. 2": below 0 there is no TOKEN. */
    private static void laws() {
        Due.faulty("store size 3 law -1 cut 2;", 1, 17);
        for (int law = 0; law <= 2; law++) {
            Due.due("law " + law, fine("store size 3 law " + law + " cut 2;", 1).count(1), law);
        }
        Due.faulty("store size 3 law 3 cut 2;", 2, 17);
    }

    /** "CUT K 0 .. 20". */
    private static void cuts() {
        Due.faulty("store size 3 law 0 cut -1;", 1, 23);
        for (int k : new int[] {0, 1, 19, 20}) {
            Due.due("cut " + k, fine("store size 3 law 0 cut " + k + ";", 1).count(2), k);
        }
        Due.faulty("store size 3 law 0 cut 21;", 2, 23);
    }

    /** "2 a number out of its bounds": of any length, and noughts ahead of it make it no greater. */
    private static void numbersGoNotRound() {
        for (String n : ROUND) {
            Due.faulty("store size " + n + " law 0 cut 0;", 2, 11);
            Due.faulty("store size 1 law " + n + " cut 0;", 2, 17);
            Due.faulty("store size 1 law 0 cut " + n + ";", 2, 23);
            Due.faulty(HEAD + "pair " + n + " 1;", 2, BEHIND + 5);
            Due.faulty(HEAD + "pair 1 " + n + ";", 2, BEHIND + 7);
            Due.faulty(HEAD + "read " + n + " 1;", 2, BEHIND + 5);
            Due.faulty(HEAD + "find 0 " + n + ";", 2, BEHIND + 7);
            Due.faulty(HEAD + "set 0 0 " + n + ";", 2, BEHIND + 8);
            Due.faulty(HEAD + "join 0 0 " + n + ";", 2, BEHIND + 9);
            Due.faulty(HEAD + "snap " + n + ";", 2, BEHIND + 5);
        }
        RerootStore x = fine("store size " + "0".repeat(300) + "12 law 000 cut 00020;set 00 011 0000;", 2);
        Due.row("noughts ahead", Due.all(x.count(0), x.count(2), x.cell(1, 11)), 12, 20, 0);
        Due.faulty("store size 0000 law 0 cut 0;", 2, 11);
        Due.faulty("store size 00013 law 0 cut 0;", 2, 11);
    }

    /** "CELLS 0 .. N - 1", "I, A, B, X: CELLS": in each place of each LINE, in the least, a middle, the greatest SIZE. */
    private static void cellsOfDeeds() {
        for (int n : new int[] {1, 3, 12}) {
            String head = "store size " + n + " law 0 cut 0;";
            int at = head.length();
            fine(head + "set 0 0 0;read 0 0;find 0 0;", 4);
            fine(head + "set 0 " + (n - 1) + " " + (n - 1) + ";read 1 " + (n - 1) + ";find 1 " + (n - 1) + ";", 4);
            Due.faulty(head + "set 0 " + n + " 0;", 2, at + 6);
            Due.faulty(head + "set 0 0 " + n + ";", 2, at + 8);
            Due.faulty(head + "read 0 " + n + ";", 2, at + 7);
            Due.faulty(head + "find 0 " + n + ";", 2, at + 7);
            Due.faulty(head + "join 0 " + n + " 0;", 2, at + 7);
            Due.faulty(head + "join 0 0 " + n + ";", 2, at + 9);
            if (n > 1) {
                fine(head + "join 0 0 " + (n - 1) + ";", 2);
                fine(head + "join 0 " + (n - 1) + " 0;", 2);
            }
        }
    }

    private static void cellsOfPairs() {
        for (int n : new int[] {2, 3, 12}) {
            String head = "store size " + n + " law 0 cut 0;";
            int at = head.length();
            fine(head + "pair 0 " + (n - 1) + ";", 2);
            fine(head + "pair " + (n - 1) + " 0;", 2);
            Due.faulty(head + "pair " + n + " 0;", 2, at + 5);
            Due.faulty(head + "pair 0 " + n + ";", 2, at + 7);
        }
    }

    /** "pair: two unlike CELLS", "not as said (pair, join: at the second CELL ..)". */
    private static void unlikeCells() {
        Due.faulty(HEAD + "pair 0 0;", 2, BEHIND + 7);
        Due.faulty(HEAD + "pair 2 2;", 2, BEHIND + 7);
        Due.faulty(HEAD + "pair 2   02;", 2, BEHIND + 9);
        fine(HEAD + "pair 2 1;", 2);
        Due.faulty("store size 1 law 0 cut 0;pair 0 0;", 2, 32);
    }

    /** "each two once (either way)". */
    private static void eachTwoOnce() {
        Due.due("all three of three", fine(HEAD + "pair 0 1;pair 2 0;pair 1 2;", 4).count(4), 3);
        for (String again : new String[] {"pair 0 1;", "pair 1 0;", "pair 0 2;", "pair 2 0;"}) {
            Due.faulty(HEAD + "pair 0 1;pair 2 0;" + again, 2, BEHIND + 25);
            Due.faulty(HEAD + "pair 0 1;read 0 0;pair 0 2;" + again, 2, BEHIND + 34);
        }
    }

    private static String pairs(int cells, int many) {
        StringBuilder text = new StringBuilder();
        int left = many;
        for (int a = 0; a < cells; a++) {
            for (int b = a + 1; b < cells && left > 0; b++) {
                text.append("pair ").append(a).append(' ').append(b).append(';');
                left--;
            }
        }
        return text.toString();
    }

    /** "16 at most", "3 a seventeenth pair .. at its word". */
    private static void sixteenPairs() {
        String head = "store size 7 law 0 cut 2;";
        for (int many = 15; many <= 16; many++) {
            Due.due(many + " pairs", fine(head + pairs(7, many), many + 1).count(4), many);
        }
        String full = head + pairs(7, 16);
        Due.faulty(head + pairs(7, 17), 3, full.length());
        // At its word: whatever stands behind it, one that would stand and one that would not.
        Due.faulty(full + "pair 0 1;", 3, full.length());
        Due.faulty(full + "pair 6 6;", 3, full.length());
        Due.faulty(full + "pair 9", 3, full.length());
        Due.faulty(full + "pair", 3, full.length());
        Due.due("deeds behind sixteen pairs", fine(full + "set 0 0 1;read 1 0;", 19).count(5), 2);
    }

    /** "DEEDS: all other LINES, 30 at most", "3 .. a 31st DEED .. at its word". */
    private static void thirtyDeeds() {
        String[] words = {"set 0 0 0;", "join 0 1 2;", "read 0 0;", "find 0 0;", "snap 0;"};
        for (int many = 29; many <= 30; many++) {
            String text = HEAD + "set 0 0 1;" + "find 1 2;".repeat(many - 1);
            RerootStore x = fine(text + "pair 0 1;pair 1 2;", many + 3);
            Due.row(many + " deeds", Due.all(x.count(5), x.count(6), x.count(7)), many, 0, many + 3);
            for (String word : words) {
                if (many == 30) {
                    Due.faulty(text + word, 3, text.length());
                } else {
                    Due.due("the thirtieth is " + word, fine(text + word, 31).count(5), 30);
                }
            }
        }
        String full = HEAD + "read 0 0;".repeat(30);
        Due.faulty(full + "read 7 7", 3, full.length());
        Due.faulty(full + "pair 0 1; snap", 3, full.length() + 10);
        fine("store size 9 law 0 cut 0;" + pairs(9, 16) + "read0 0;".repeat(30), 47);
    }

    /** "V: a VERSION that there is then". */
    private static void versionsThere() {
        for (int made = 0; made <= 2; made++) {
            String text = HEAD + "set 0 0 1;".repeat(made);
            int at = text.length();
            for (String word : new String[] {"set", "join", "read", "find"}) {
                String behind = word.equals("set") || word.equals("join") ? " 1 2;" : " 1;";
                fine(text + word + " " + made + behind, made + 2);
                Due.faulty(text + word + " " + (made + 1) + behind, 2, at + word.length() + 1);
            }
            Due.faulty(text + "snap " + (made + 1) + ";", 2, at + 5);
        }
        // What a later LINE makes is not there then.
        Due.faulty(HEAD + "read 1 0;set 0 0 1;", 2, BEHIND + 5);
        Due.faulty(HEAD + "set 1 0 1;set 0 0 1;", 2, BEHIND + 4);
        Due.due("of LAW 1 the newest can be snapped", fine("store size 3 law 1 cut 0;set 0 0 1;set 1 0 1;snap 2;", 4).count(3), 3);
    }

    /** "20 told at most (0 among them)", "3 .. a 21st VERSION, at its word". */
    private static void twentyVersions() {
        String[] words = {"set 0 0 0;", "join 0 1 2;"};
        for (String word : words) {
            for (String last : words) {
                for (int made = 18; made <= 19; made++) {
                    String text = HEAD + word.repeat(made);
                    if (made == 18) {
                        Due.due("the twentieth by " + last, fine(text + last, 20).count(3), 20);
                    } else {
                        Due.faulty(text + last, 3, text.length());
                        Due.faulty(text + last.substring(0, 4), 3, text.length());
                    }
                }
            }
        }
        String full = HEAD + words[0].repeat(19);
        RerootStore x = fine(full + "read 19 0;find 0 0;snap 1;pair 0 1;", 24);
        Due.row("no version more", Due.all(x.count(3), x.count(5), x.cell(19, 0), x.cell(20, 0)), 20, 22, 0, -2);
        Due.faulty(full + "read 20 0;", 2, full.length() + 5);
    }

    /** "join: A, B not of one ROOT", "at the second CELL". */
    private static void joinsOfTwoRoots() {
        Due.faulty(HEAD + "join 0 2 2;", 2, BEHIND + 9);
        Due.faulty("store size 1 law 0 cut 0;join 0 0 0;", 2, 34);
        String joined = HEAD + "join 0 0 1;join 1 1 2;";
        int at = joined.length();
        for (String two : new String[] {"0 1", "1 0", "0 2", "2 0", "1 2", "2 1"}) {
            Due.faulty(joined + "join 2 " + two + ";", 2, at + 9);
            fine(joined + "join 0 " + two + ";", 4);
        }
        Due.faulty(joined + "join 1 0 1;", 2, at + 9);
        fine(joined + "join 1 0 2;", 4);
        // Numbers that go round: 0 ends at 0 and 1 at 1 in a SIZE of 2, and both at unlike ones in 3.
        fine("store size 2 law 0 cut 0;set 0 0 1;set 1 1 0;join 2 0 1;", 4);
        fine("store size 3 law 0 cut 0;set 0 0 1;set 1 1 0;join 2 0 1;", 4);
    }

    /** "snap: V is not DIRECT", "snap: at V". */
    private static void snapsOfLinks() {
        for (int law = 0; law <= 2; law++) {
            String head = "store size 3 law " + law + " cut 2;";
            Due.faulty(head + "snap 0;", 2, BEHIND + 5);
            String set = head + "set 0 0 1;";
            int linked = law == 1 ? 1 : 0;
            fine(set + "snap " + linked + ";", 3);
            Due.faulty(set + "snap " + (1 - linked) + ";", 2, set.length() + 5);
            Due.faulty(set + "snap " + linked + ";snap " + linked + ";", 2, set.length() + 12);
        }
        // By LAW 2 and CUT 0 a reading gives a row of its own, so there is none to snap then.
        Due.faulty("store size 3 law 2 cut 0;set 0 0 1;read 0 0;snap 0;", 2, 49);
        Due.faulty("store size 3 law 2 cut 0;set 0 0 1;read 0 0;snap 1;", 2, 49);
        fine("store size 3 law 2 cut 1;set 0 0 1;read 0 0;snap 1;", 4);
    }

    /** "TOKENS, blanks (32, 10) aside .. words (a .. z), numbers (digits), the sign ;": each byte behind a number. */
    private static void everyByte() {
        for (int b = 0; b < 256; b++) {
            String text = HEAD + "read 0 0" + (char) b + ";";
            int at = BEHIND + 8;
            if (b == 32 || b == 10 || b >= '0' && b <= '2') {
                fine(text, 2);
            } else if (b >= '3' && b <= '9') {
                Due.faulty(text, 2, at - 1);
            } else if (b == ';') {
                Due.faulty(text, 1, at + 1);
            } else {
                Due.faulty(text, 1, at);
            }
            // Ahead of all: a word goes on, a blank is passed over.
            String first = (char) b + HEAD;
            if (b == 32 || b == 10) {
                fine(first, 1);
            } else {
                Due.faulty(first, 1, 0);
            }
        }
    }

    /** "the longest". */
    private static void theLongest() {
        fine("store size3law0cut2;read0 0;", 2);
        Due.faulty("storesize 3 law 0 cut 2;", 1, 0);
        Due.faulty("store size 3 lawcut 0 2;", 1, 13);
        Due.faulty(HEAD + "read 00;", 1, BEHIND + 7);
        Due.faulty(HEAD + "set 0 12;", 2, BEHIND + 6);
        Due.faulty(HEAD + "set 0 01;", 1, BEHIND + 8);
        Due.faulty(HEAD + "rea d 0 0;", 1, BEHIND);
        Due.faulty(HEAD + "reads 0 0;", 1, BEHIND);
        Due.faulty(HEAD + "readread 0 0;", 1, BEHIND);
        Due.faulty("store size 1 2 law 0 cut 0;", 1, 13);
    }

    /** "FAULTS, the first by its place (a TOKEN's first byte; the end's)". */
    private static void firstByPlace() {
        Due.faulty(HEAD + "read 1 7 ?", 2, BEHIND + 5);
        Due.faulty(HEAD + "read 0 7 ?", 2, BEHIND + 7);
        Due.faulty(HEAD + "read 0 0 ?", 1, BEHIND + 9);
        Due.faulty(HEAD + "read ? 7", 1, BEHIND + 5);
        Due.faulty(HEAD + "pair 3 3;", 2, BEHIND + 5);
        Due.faulty(HEAD + "join 1 0 0;", 2, BEHIND + 5);
        Due.faulty(HEAD + "join 0 0 0 ?", 2, BEHIND + 9);
        Due.faulty(HEAD + "snap 0 ?", 2, BEHIND + 5);
        Due.faulty("store size 0 law 3 cut 21", 2, 11);
        Due.faulty("store size 12345 law", 2, 11);
        Due.faulty(HEAD + "read 0   0012345;", 2, BEHIND + 9);
        Due.faulty(HEAD + "\n\n what 1", 1, BEHIND + 3);
    }

    /** "of one place the least": a word that can't stand there, ahead of one too many. */
    private static void leastOfOnePlace() {
        String deeds = HEAD + "read 0 0;".repeat(30);
        Due.faulty(deeds + "reads 0 0;", 1, deeds.length());
        Due.faulty(deeds + "store size 3 law 0 cut 2;", 1, deeds.length());
        Due.faulty(deeds + "?", 1, deeds.length());
        Due.faulty(deeds + ";", 1, deeds.length());
        Due.faulty(deeds + "0", 1, deeds.length());
        String pairs = "store size 7 law 0 cut 2;" + pairs(7, 16);
        Due.faulty(pairs + "pairs 5 6;", 1, pairs.length());
        Due.faulty(pairs + "store", 1, pairs.length());
        // A number where none can stand is 1, however great it is.
        Due.faulty("store size 3 99", 1, 13);
        Due.faulty("99", 1, 0);
        Due.faulty(HEAD + "snap snap", 1, BEHIND + 5);
        // A 31st deed that would make a 21st version, too, is but one fault.
        String both = HEAD + "set 0 0 0;".repeat(19) + "read 0 0;".repeat(11);
        Due.faulty(both + "set 0 0 0;", 3, both.length());
    }

    /** "(.. the end's)": the end can't stand there, behind every TOKEN but ;. */
    private static void endsPlace() {
        String line = "store size 3 law 0 cut 2";
        for (int n : new int[] {5, 10, 12, 16, 18, 22, 24}) {
            Due.faulty(line.substring(0, n), 1, n);
            Due.faulty(line.substring(0, n) + "\n ", 1, n + 2);
        }
        for (String deed : new String[] {"set 0 0 1", "join 0 0 1", "read 0 0", "find 0 0", "pair 0 1"}) {
            for (int n = 4; n <= deed.length(); n++) {
                String part = HEAD + deed.substring(0, n);
                Due.faulty(part, 1, part.length());
            }
        }
        Due.faulty("store size 3 law 1 cut 0;set 0 0 1;snap 1", 1, 41);
        fine(line + ";", 1);
        fine(line + " \n;\n ", 1);
    }
}
