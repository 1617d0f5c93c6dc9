import java.util.Arrays;

/** The boundary cases that promises 25 to 28, 33 and 34 name: EYES, HOUSES, THE IMAGE, how many there are. */
public final class EdgeRestTest {
    private EdgeRestTest() {
    }

    public static void main(String[] args) {
        eyesRefused();
        eyesFull();
        wayRefused();
        wayOfNothing();
        waySums();
        wayCuts();
        wayTen();
        wayCoins();
        wayFull();
        houseRefused();
        houseFull();
        housesRefused();
        housesNone();
        housesEdges();
        housesGreat();
        imageNone();
        imageEdges();
        imageOfFull();
        lookRefused();
        lookFull();
        Check.close();
    }

    // ================= EYES

    private static void eyesRefused() {
        Check.at("promise 25: NONE if one can't be (0 .. 9999)");
        Edge on = new Edge(Given::filled);
        on.outside("right", 0, 9999, (x, n) -> x.eyes(n, 0), -1);
        on.outside("wrong", 0, 9999, (x, n) -> x.eyes(0, n), -1);
        on.outside("right beside the greatest", 0, 9999, (x, n) -> x.eyes(n, 9999), -1);
        on.outside("wrong beside the greatest", 0, 9999, (x, n) -> x.eyes(9999, n), -1);
        on.answers("the least", x -> x.eyes(0, 0), 3);
        on.answers("the greatest", x -> x.eyes(9999, 9999), 3);
    }

    private static void eyesFull() {
        Check.at("promise 25: NONE if there are 40");
        Edge full = new Edge(x -> {
            Given.filled(x);
            for (int i = 0; i < 38; i++) {
                x.eyes(9999 - i, 3 * i);
            }
        });
        full.answers("forty", x -> x.look(3), 40);
        full.refused("the 41st", x -> x.eyes(0, 0), -1);
        full.refused("the 41st, the greatest", x -> x.eyes(9999, 9999), -1);
        Counted x = new Counted();
        for (int i = 1; i <= 40; i++) {
            Check.due("row " + i, x.eyes(0, 0), i);
        }
        Check.due("row 41", x.eyes(0, 0), -1);
    }

    /** Which WAYS are LONG, six signs for each least sum: all, cut and out by (added, coins). */
    private static void ways(String what, String due, int[]... rows) {
        Counted x = new Counted();
        for (int[] row : rows) {
            x.eyes(row[0], row[1]);
        }
        String wanted = due.replace(" ", "");
        int hill = 0;
        for (int k = 0; k < 24; k++) {
            int want = wanted.charAt(k) == 'L' ? 1 : 0;
            hill += want;
            Check.due(what + ", way(" + k + ")", x.way(k), want);
        }
        Check.due(what + ", HILL", x.way(24), hill);
    }

    private static int[][] times(int n, int right, int wrong) {
        int[][] rows = new int[n][];
        for (int i = 0; i < n; i++) {
            rows[i] = new int[] {right, wrong};
        }
        return rows;
    }

    private static int[][] and(int[][] some, int[][] more) {
        int[][] rows = new int[some.length + more.length][];
        System.arraycopy(some, 0, rows, 0, some.length);
        System.arraycopy(more, 0, rows, some.length, more.length);
        return rows;
    }

    private static void wayRefused() {
        Check.at("promise 26: NONE if one can't be (WAYS 0 .. 23, 24 HILL)");
        new Edge(Given::filled).outside("way", 0, 24, (x, n) -> x.way(n), -1);
        new Edge(Counted::calls).outside("way of nothing", 0, 24, (x, n) -> x.way(n), -1);
    }

    private static final String NO = "------ ------ ------ ------";
    private static final String ADDED = "L-L-L- L-L-L- L-L-L- L-L-L-";
    private static final String COINS = "-L-L-L -L-L-L -L-L-L -L-L-L";
    private static final String BOTH = "LLLLLL LLLLLL LLLLLL LLLLLL";

    private static void wayOfNothing() {
        Check.at("promise 26: no rows, and rows that are all out: not LONG");
        ways("no rows", NO);
        ways("0 and 0", NO, times(40, 0, 0));
        // n is 0: rows in which both are alike have no ways.
        ways("alike", NO, times(40, 1000, 1000));
        ways("the greatest alike", NO, times(40, 9999, 9999));
        ways("all below 600", "-L-L-L -L-L-L -L-L-L ------", times(40, 299, 300));
        Check.at("promise 26: rows with one above 3000 are out (j 2)");
        ways("all above 3000", "LLLL-- LLLL-- LLLL-- LLLL--", times(9, 1, 9999));
    }

    private static void waySums() {
        Check.at("promise 26: rows whose sum is below 0, 100, 300, 600 are out");
        String from0 = "L-L-L- ------ ------ ------";
        String from100 = "L-L-L- L-L-L- ------ ------";
        String from300 = "L-L-L- L-L-L- L-L-L- ------";
        ways("1", from0, times(1, 0, 1));
        ways("99", from0, times(1, 0, 99));
        ways("100", from100, times(1, 0, 100));
        ways("101", from100, times(1, 0, 101));
        ways("299", from300.replace("L-L-L- ------", "------ ------"), times(1, 0, 299));
        ways("300", from300, times(1, 0, 300));
        ways("599", from300, times(1, 0, 599));
        ways("600", ADDED, times(1, 0, 600));
        ways("600 by both", ADDED, times(1, 200, 400));
        ways("599 by both", from300, times(1, 200, 399));
    }

    private static void wayCuts() {
        Check.at("promise 26: what is above 3000 counts as 3000 (j 1), rows with one above 3000 are out (j 2)");
        ways("3000", ADDED, times(1, 0, 3000));
        ways("3001", "L-L--- L-L--- L-L--- L-L---", times(1, 0, 3001));
        ways("3001 right", NO, times(1, 3001, 0));
        // 2700 and 3000: 300 of 5700 is not above a tenth; 2700 and 3400 is, if it is not cut.
        ways("2700 3000", NO, times(1, 2700, 3000));
        ways("2700 3400", "L----- L----- L----- L-----", times(1, 2700, 3400));
        // Alike once cut: 3001 and 3000, 9999 and 3001.
        ways("five of 3000 3001", "-L---- -L---- -L---- -L----", times(5, 3000, 3001));
        ways("five of 3001 9999", "LL---- LL---- LL---- LL----", times(5, 3001, 9999));
        ways("five of 2999 3000", COINS, times(5, 2999, 3000));
    }

    private static void wayTen() {
        Check.at("promise 26: WRONG less RIGHT, all added, times 10, above WRONG and RIGHT, all added");
        // 450 and 550: 1000 is not above 1000; one more is.
        ways("450 550", NO, times(1, 450, 550));
        ways("450 551", ADDED, times(1, 450, 551));
        ways("449 550", ADDED, times(1, 449, 550));
        ways("451 550", NO, times(1, 451, 550));
        // 101 of 1009: 1010 is above it by one.
        ways("454 555", ADDED, times(1, 454, 555));
        ways("450 550 forty times", COINS, times(40, 450, 550));
        ways("450 551 forty times", BOTH, times(40, 450, 551));
        ways("one right, one wrong", NO, and(times(1, 900, 0), times(1, 0, 900)));
        // 1100 less 900 is 200 of 2000: 2000 is not above it; 1101: 2010 is above 2001.
        ways("900 right, 1100 wrong", NO, and(times(1, 900, 0), times(1, 0, 1100)));
        ways("900 right, 1101 wrong", ADDED, and(times(1, 900, 0), times(1, 0, 1101)));
    }

    private static void wayCoins() {
        Check.at("promise 26: the ways for c .. n of n, added, times 1000 by 2 to the n, below 50");
        // The least c of n for which it is so, by Pascal's triangle.
        long[] line = {1};
        for (int n = 1; n <= 40; n++) {
            long[] next = new long[n + 1];
            for (int i = 0; i <= n; i++) {
                next[i] = (i < n ? line[i] : 0) + (i > 0 ? line[i - 1] : 0);
            }
            line = next;
            long ways = 0;
            int least = n + 1;
            for (int c = n; c >= 0; c--) {
                ways += line[c];
                if (ways * 1000 / (1L << n) < 50) {
                    least = c;
                }
            }
            for (int c : new int[] {0, least - 1, least, n}) {
                if (c <= n) {
                    boolean so = c >= least;
                    ways(c + " of " + n, so ? COINS : NO, and(times(c, 1000, 1001), times(n - c, 1001, 1000)));
                }
            }
        }
        ways("4 of 4: 62", NO, times(4, 1000, 1001));
        ways("5 of 5: 31", COINS, times(5, 1000, 1001));
    }

    private static void wayFull() {
        Check.at("promise 26: forty rows of the greatest");
        ways("all wrong", "LLLL-- LLLL-- LLLL-- LLLL--", times(40, 0, 9999));
        ways("all right", NO, times(40, 9999, 0));
        ways("all wrong, not above 3000", BOTH, times(40, 0, 3000));
        Counted x = new Counted();
        for (int i = 0; i < 40; i++) {
            x.eyes(0, 3000);
        }
        Check.due("all WAYS", x.way(24), 24);
    }

    // ================= HOUSES

    private static void houseRefused() {
        Check.at("promise 27: NONE if one can't be (n 1 .. 999, k 0 .. n)");
        Edge on = new Edge(Given::filled);
        on.outside("n", 1, 999, (x, n) -> x.house(n, 0), -1);
        on.outside("n as k", 1, 999, (x, n) -> x.house(n, n), -1);
        on.outside("k of 1", 0, 1, (x, n) -> x.house(1, n), -1);
        on.outside("k of 500", 0, 500, (x, n) -> x.house(500, n), -1);
        on.outside("k of 999", 0, 999, (x, n) -> x.house(999, n), -1);
        int[][] good = {{1, 0}, {1, 1}, {999, 0}, {999, 999}, {500, 500}};
        for (int[] g : good) {
            on.answers(g[1] + " of " + g[0], x -> x.house(g[0], g[1]), 2);
        }
    }

    private static void houseFull() {
        Check.at("promise 27: NONE if there are 20");
        Edge full = new Edge(x -> {
            Given.filled(x);
            for (int i = 0; i < 18; i++) {
                x.house(999, i);
            }
        });
        full.answers("twenty", x -> x.look(4), 20);
        full.refused("the 21st", x -> x.house(1, 0), -1);
        full.refused("the 21st, the greatest", x -> x.house(999, 999), -1);
        Counted x = new Counted();
        for (int i = 0; i < 20; i++) {
            Check.due("HOUSE " + i, x.house(1, 0), i);
        }
        Check.due("HOUSE 20", x.house(1, 0), -1);
    }

    private static void housesRefused() {
        Check.at("promise 28: NONE if there is none such, or another what");
        Edge on = new Edge(Given::filled);
        for (int what : Edge.outside(0, 11)) {
            on.refused("houses(" + what + ")", x -> x.houses(what), -1);
        }
        for (int what = 4; what < 10; what++) {
            int n = what;
            on.refused("houses(" + what + ")", x -> x.houses(n), -1);
        }
        on.refused("SHARE of HOUSE 0", x -> x.houses(10), 500);
        on.refused("SHARE of HOUSE 1", x -> x.houses(11), 1000);
        Edge full = new Edge(x -> {
            for (int i = 0; i < 20; i++) {
                x.house(999, i);
            }
        });
        full.outside("of twenty, SHARE", 10, 29, (x, n) -> x.houses(n), -1);
        full.refused("SHARE of HOUSE 19", x -> x.houses(29), 19);
    }

    private static void housesNone() {
        Check.at("promise 28: JOINED (NONE without)");
        Edge none = new Edge(Counted::calls);
        int[] due = {-1, 0, 0, 0};
        for (int what : Edge.upTo(4)) {
            none.refused("houses(" + what + ") without", x -> x.houses(what), due[what]);
        }
        for (int i : Edge.upTo(20)) {
            none.refused("SHARE of HOUSE " + i + " without", x -> x.houses(10 + i), -1);
        }
    }

    private static void joined(int[] due, int[]... houses) {
        Counted x = new Counted();
        for (int[] h : houses) {
            x.house(h[0], h[1]);
        }
        for (int what = 0; what < 4; what++) {
            Check.due("houses(" + what + ") of " + Arrays.deepToString(houses), x.houses(what), due[what]);
        }
        for (int i = 0; i < houses.length; i++) {
            Check.due("SHARE of HOUSE " + i, x.houses(10 + i), 1000 * houses[i][1] / houses[i][0]);
        }
        Check.due("one more", x.houses(10 + houses.length), -1);
    }

    private static void housesEdges() {
        Check.at("promise 28: one HOUSE, none that pass, all that pass; a SHARE of 500 and more");
        joined(new int[] {0, 0, 0, 0}, new int[] {1, 0});
        joined(new int[] {1000, 0, 0, 1}, new int[] {1, 1});
        joined(new int[] {0, 0, 0, 0}, new int[] {999, 0});
        joined(new int[] {1000, 0, 0, 1}, new int[] {999, 999});
        joined(new int[] {500, 0, 0, 1}, new int[] {2, 1});
        joined(new int[] {499, 0, 0, 0}, new int[] {999, 499});
        joined(new int[] {500, 0, 0, 1}, new int[] {999, 500});
        Check.at("promise 28: quotients go downwards: 560.97, 659.999, 589.74");
        joined(new int[] {560, 659, 0, 2}, new int[] {2, 0}, new int[] {39, 23});
        Check.at("promise 28: farther from JOINED than 1000 by the ROOT of n");
        // 4 CHILDREN: 500 far is not farther, 501 and more is. 1 to 3: 1000, and no HOUSE is farther.
        joined(new int[] {500, 2 * 4 * 250, 0, 1}, new int[] {4, 4}, new int[] {4, 0});
        joined(new int[] {444, (4 * 556 * 556 + 5 * 444 * 444) / 1000, 1, 1}, new int[] {4, 4}, new int[] {5, 0});
        joined(new int[] {1, (999 + 998001) / 1000, 0, 2}, new int[] {999, 0}, new int[] {1, 1});
        joined(new int[] {2, (3 * 998 * 998 + 999 * 2 * 2) / 1000, 0, 1}, new int[] {3, 3}, new int[] {999, 0});
        // The ROOT of 8 is 2, that of 9 is 3: 500 and 333.
        joined(new int[] {500, (8 * 500 * 500 + 8 * 500 * 500) / 1000, 0, 1}, new int[] {8, 8}, new int[] {8, 0});
        joined(new int[] {500, (9 * 500 * 500 + 9 * 500 * 500) / 1000, 3, 1}, new int[] {9, 9}, new int[] {9, 0});
        joined(new int[] {333, (9 * 333 * 333 + 9 * 333 * 333) / 1000, 0, 1}, new int[] {9, 6}, new int[] {9, 0});
        joined(new int[] {388, (9 * 389 * 389 + 9 * 388 * 388) / 1000, 3, 1}, new int[] {9, 7}, new int[] {9, 0});
    }

    private static void housesGreat() {
        Check.at("promise 28: twenty of the greatest: no number wraps");
        Counted x = new Counted();
        for (int i = 0; i < 20; i++) {
            x.house(999, i < 19 ? 0 : 999);
        }
        // 50 JOINED: 19 times 999 of 50 50 and 999 of 950 950; the ROOT of 999 is 31: 32.
        Check.due("JOINED", x.houses(0), 50);
        Check.due("APART", x.houses(1), (int) ((19L * 999 * 50 * 50 + 999L * 950 * 950) / 1000));
        Check.due("OFF", x.houses(2), (1 << 20) - 1);
        Check.due("HAVE", x.houses(3), 1 << 19);
        Counted y = new Counted();
        for (int i = 0; i < 20; i++) {
            y.house(999, i % 2 == 0 ? 0 : 999);
        }
        Check.due("JOINED", y.houses(0), 500);
        Check.due("APART", y.houses(1), 4995000);
        Check.due("HAVE", y.houses(3), 0xaaaaa);
        Counted z = new Counted();
        for (int i = 0; i < 20; i++) {
            z.house(999, 999);
        }
        Check.due("JOINED", z.houses(0), 1000);
        Check.due("APART", z.houses(1), 0);
        Check.due("OFF", z.houses(2), 0);
        Check.due("HAVE", z.houses(3), (1 << 20) - 1);
    }

    // ================= THE IMAGE

    private static void imageNone() {
        Check.at("promise 33: false if there is none");
        Edge none = new Edge(x -> {
            x.state(9);
            Check.scene(x, 0, Given.MOVED);
            Check.law(x, 0, "rule 1 5;");
            Given.questions(x, 3);
            Given.children(x, 2);
            Given.answers(x, 4);
            x.eyes(1, 2);
            x.house(2, 1);
            Check.tape(x, "come 2;");
        });
        none.refused("gone back to none", x -> x.image(false) ? 1 : 0, 0);
        none.answers("there is none", x -> x.look(6), 0);
        new Edge(Counted::calls).refused("gone back to none, of a new object", x -> x.image(false) ? 1 : 0, 0);
        Counted x = new Counted();
        for (int i = 0; i < 3; i++) {
            Check.due("again and again", x.image(false), false);
            Check.due("none", x.look(6), 0);
        }
        Check.due("taken of a new object", x.image(true), true);
        Check.due("there is one", x.look(6), 1);
        Check.due("gone back", x.image(false), true);
    }

    private static void imageEdges() {
        Check.at("promise 33: as they were when it was taken; gone back to it may be more than once");
        // Gone back at once, twice, or behind other calls: all that an IMAGE has is as it was.
        Edge atImage = new Edge(x -> {
            Given.filled(x);
            x.image(true);
        });
        atImage.refused("gone back at once", x -> x.image(false) ? 1 : 0, 1);
        atImage.refused("taken once more", x -> x.image(true) ? 1 : 0, 1);
        Counted x = new Counted();
        Given.filled(x);
        int[] looks = {3, 2, 3, 1, 1};
        for (int i = 0; i < 3; i++) {
            Check.due("gone back", x.image(false), true);
            for (int what = 0; what < 5; what++) {
                Check.due("look(" + what + ")", x.look(what), looks[what]);
            }
            Check.due("SCENE 1", x.after(1, 0, 0, 1), 3);
            Check.due("LAW 3", x.chance(3, 0, 0, 0, 2), (70 + 30 * 4) * 10 / 4);
            Check.due("no longer there", x.says(3, 0), -2);
            Check.due("no longer there", x.odds(2, 0), -1);
            Check.due("no longer there", x.answer(3, 0), -2);
            Check.due("no longer there", x.houses(11), -1);
            // All may be changed anew, in the places that are free again.
            Check.due("QUESTION", x.question(7, 0, 2, 2, i), i == 2 ? -1 : 3);
            Check.due("CHILD", x.child(3, 120, 9, 1), 2);
            Check.due("ANSWER", x.told(2, 0, 3, i), 4);
            Check.due("row", x.eyes(9999, i), 2);
            Check.due("HOUSE", x.house(999, i), 1);
            Check.scene(x, 1, "");
            Check.law(x, 3, "rule 7 " + i + ";");
            x.state(i);
        }
        Check.at("promise 33: an IMAGE of a new object takes all away");
        Counted y = new Counted();
        y.image(true);
        Check.scene(y, 7, "come 0;put 0 0 0;");
        Check.law(y, 3, "rule 7 1;");
        Given.questions(y, 12);
        Given.children(y, 40);
        Given.answers(y, 300);
        y.eyes(1, 1);
        y.house(1, 1);
        y.state(1);
        y.image(false);
        for (int what = 0; what < 6; what++) {
            Check.due("nothing is left, look(" + what + ")", y.look(what), 0);
        }
        Check.due("no SCENE", y.after(7, 0, 0, 5), 0);
        Check.due("QUESTION 0", y.question(7, 0, 0, 0, -1), 0);
        Check.due("CHILD 0", y.child(3, 0, 0, 0), 0);
        Check.due("no LAW", y.weight(0, 0, 0, 7), 0);
        Check.due("it says nothing", y.says(0, 0), -1);
    }

    private static void imageOfFull() {
        Check.at("promise 33: an IMAGE of what is full is full");
        Counted x = new Counted();
        Check.scene(x, 0, Given.FIRST_ALONE);
        x.question(0, 0, 0, 0, -1);
        Given.questions(x, 11);
        Given.children(x, 40);
        Given.answers(x, 300);
        for (int i = 0; i < 40; i++) {
            x.eyes(i, i + 1);
        }
        for (int i = 0; i < 20; i++) {
            x.house(i + 1, 0);
        }
        Check.due("taken", x.image(true), true);
        Check.scene(x, 0, "");
        x.image(false);
        int[] due = {12, 40, 300, 40, 20};
        for (int what = 0; what < 5; what++) {
            Check.due("look(" + what + ")", x.look(what), due[what]);
        }
        Check.due("13th QUESTION", x.question(0, 0, 0, 0, -1), -1);
        Check.due("41st CHILD", x.child(0, 0, 0, 0), -1);
        Check.due("301st ANSWER", x.told(0, 0, 0, 0), -1);
        Check.due("41st row", x.eyes(0, 0), -1);
        Check.due("21st HOUSE", x.house(1, 0), -1);
        Check.due("what FIRST says", x.says(0, 7), 0);
        Check.due("the last ANSWER", x.answer(299, 2), 3);
    }

    private static void lookRefused() {
        Check.at("promise 34: NONE for another what");
        new Edge(Given::filled).outside("look", 0, 6, (x, n) -> x.look(n), -1);
        new Edge(Counted::calls).outside("look of nothing", 0, 6, (x, n) -> x.look(n), -1);
    }

    private static void lookFull() {
        Check.at("promise 34: how many, from none to all");
        Counted x = new Counted();
        for (int what = 0; what < 7; what++) {
            Check.due("none, look(" + what + ")", x.look(what), 0);
        }
        Given.questions(x, 14);
        Given.children(x, 42);
        Given.answers(x, 302);
        for (int i = 0; i < 42; i++) {
            x.eyes(0, 0);
        }
        for (int i = 0; i < 22; i++) {
            x.house(1, 1);
        }
        x.state(Integer.MIN_VALUE);
        x.image(true);
        int[] due = {12, 40, 300, 40, 20, Integer.MIN_VALUE, 1};
        for (int what = 0; what < 7; what++) {
            Check.due("all, look(" + what + ")", x.look(what), due[what]);
        }
    }
}
