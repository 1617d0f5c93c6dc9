/** Promises 25 to 28: EYES by all WAYS, HOUSES joined. */
public final class EyesTest {
    private EyesTest() {
    }

    public static void main(String[] args) {
        eyes();
        ways();
        signs();
        house();
        houses();
        Check.close();
    }

    private static void eyes() {
        Check.at("promise 25");
        Counted x = new Counted();
        int[] bad = {-1, 10000, Integer.MIN_VALUE, Integer.MAX_VALUE};
        for (int b : bad) {
            Check.due("right " + b, x.eyes(b, 0), -1);
            Check.due("wrong " + b, x.eyes(0, b), -1);
        }
        Check.due("none", x.look(3), 0);
        for (int i = 1; i <= 40; i++) {
            Check.due("row " + i, x.eyes(i % 2 == 0 ? 9999 : 0, i % 2 == 0 ? 0 : 9999), i);
        }
        Check.due("row 41", x.eyes(0, 0), -1);
        Check.due("forty", x.look(3), 40);
    }

    /** Which of the 24 WAYS are LONG, a letter each. */
    private static void way(String what, String due, int[]... rows) {
        Counted x = new Counted();
        for (int[] row : rows) {
            x.eyes(row[0], row[1]);
        }
        int hill = 0;
        for (int k = 0; k < 24; k++) {
            int want = due.replace(" ", "").charAt(k) == 'L' ? 1 : 0;
            hill += want;
            Check.due(what + " way(" + k + ")", x.way(k), want);
        }
        Check.due(what + " way(24)", x.way(24), hill);
    }

    private static void ways() {
        Check.at("promise 26");
        way("none", "------ ------ ------ ------");
        // Four letters for the least sums, six each: (all, cut, out) times (added, signs).
        way("300 900", "L-L-L- L-L-L- L-L-L- L-L-L-", new int[] {300, 900});
        way("900 300", "------ ------ ------ ------", new int[] {900, 300});
        // 10 times the less above the sum: 45 55 is just not, 44 55 is (of 99, out of those from 100 on).
        way("45 55", "------ ------ ------ ------", new int[] {45, 55});
        way("44 55", "L-L-L- ------ ------ ------", new int[] {44, 55});
        way("40 60", "L-L-L- L-L-L- ------ ------", new int[] {40, 60});
        way("100 199", "L-L-L- L-L-L- ------ ------", new int[] {100, 199});
        way("100 200", "L-L-L- L-L-L- L-L-L- ------", new int[] {100, 200});
        way("200 399", "L-L-L- L-L-L- L-L-L- ------", new int[] {200, 399});
        way("200 400", "L-L-L- L-L-L- L-L-L- L-L-L-", new int[] {200, 400});
        way("1000 3000", "L-L-L- L-L-L- L-L-L- L-L-L-", new int[] {1000, 3000});
        way("3000 3000", "------ ------ ------ ------", new int[] {3000, 3000});
        way("3000 100 is not out", "------ ------ ------ ------", new int[] {3000, 100}, new int[] {100, 1000});
        way("3001 100 is out", "----L- ----L- ----L- ----L-", new int[] {3001, 100}, new int[] {100, 1000});
        way("1000 3001", "L-L--- L-L--- L-L--- L-L---", new int[] {1000, 3001});
        way("2800 5000: cut to 3000", "L----- L----- L----- L-----", new int[] {2800, 5000});
        way("3001 1000", "------ ------ ------ ------", new int[] {3001, 1000});
        // Rows are added before they are weighed.
        way("out", "----L- ----L- ----L- ------", new int[] {4000, 2900}, new int[] {100, 400});
        way("cut", "--L-L- --L-L- --L-L- --L-L-", new int[] {9000, 3100}, new int[] {1500, 3000});
        Counted x = new Counted();
        for (int b : new int[] {-1, 25, Integer.MIN_VALUE, Integer.MAX_VALUE}) {
            Check.due("way " + b, x.way(b), -1);
        }
    }

    private static int[][] rows(int wrongs, int rights, int alikes) {
        int[][] rows = new int[wrongs + rights + alikes][];
        for (int i = 0; i < rows.length; i++) {
            rows[i] = i < wrongs ? new int[] {1000, 1001} : i < wrongs + rights ? new int[] {1001, 1000}
                    : new int[] {1000, 1000};
        }
        return rows;
    }

    private static String signsAll(boolean so) {
        return so ? "-L-L-L -L-L-L -L-L-L -L-L-L" : "------ ------ ------ ------";
    }

    private static void signs() {
        Check.at("promise 26, signs");
        // 1 of 16 is 62, 1 of 32 is 31 (of 1000).
        way("4 of 4", signsAll(false), rows(4, 0, 9));
        way("5 of 5", signsAll(true), rows(5, 0, 9));
        way("0 of 5", signsAll(false), rows(0, 5, 9));
        // 7 of 8: 9 of 256 is 35; 8 of 10: 56 of 1024 is 54; 9 of 12: 299 of 4096 is 72; 10 of 12: 79: 19.
        way("7 of 8", signsAll(true), rows(7, 1, 0));
        way("8 of 10", signsAll(false), rows(8, 2, 0));
        way("9 of 12", signsAll(false), rows(9, 3, 3));
        way("10 of 12", signsAll(true), rows(10, 2, 0));
        // 20 of 30: 49.4, the nearest that there is below 50; 24 of 37 likewise.
        way("20 of 30", signsAll(true), rows(20, 10, 5));
        way("24 of 37", signsAll(true), rows(24, 13, 0));
        // 12 of 16: 2517 of 65536 is 38; 26 of 40: 40.3; 25 of 40: 76.9.
        way("12 of 16", signsAll(true), rows(12, 4, 0));
        way("26 of 40", signsAll(true), rows(26, 14, 0));
        way("25 of 40", signsAll(false), rows(25, 15, 0));
        way("40 of 40", signsAll(true), rows(40, 0, 0));
        way("alike alone", signsAll(false), rows(0, 0, 40));
        // Rows that are alike once they are cut do not count; those with one above 3000 are out.
        int[][] cut = new int[10][];
        for (int i = 0; i < 10; i++) {
            cut[i] = i < 5 ? new int[] {4000, 4001} : new int[] {10, 9};
        }
        way("5 of 10", "------ -L---- -L---- -L----", cut);
        int[][] cut2 = new int[5][];
        for (int i = 0; i < 5; i++) {
            cut2[i] = new int[] {4000, 4001};
        }
        way("alike once cut", "-L---- -L---- -L---- -L----", cut2);
        // Small rows are out: five small ones with more wrong, beside five with more right.
        int[][] small = new int[10][];
        for (int i = 0; i < 10; i++) {
            small[i] = i < 5 ? new int[] {300, 299} : new int[] {300, 301};
        }
        way("599 out", "------ ------ ------ -L-L-L", small);
    }

    private static void house() {
        Check.at("promise 27");
        Counted x = new Counted();
        int[][] bad = {{0, 0}, {-1, -1}, {1000, 0}, {5, 6}, {5, -1}, {Integer.MAX_VALUE, 0}, {Integer.MIN_VALUE, 0},
            {5, Integer.MIN_VALUE}, {5, Integer.MAX_VALUE}};
        for (int[] b : bad) {
            Check.due("house", x.house(b[0], b[1]), -1);
        }
        Check.due("none", x.look(4), 0);
        for (int i = 0; i < 20; i++) {
            Check.due("house " + i, x.house(i == 0 ? 1 : 999, i == 0 ? 0 : 999), i);
        }
        Check.due("house 20", x.house(1, 1), -1);
        Check.due("twenty", x.look(4), 20);
    }

    private static void houses(Counted x, int... due) {
        for (int what = 0; what < 4; what++) {
            Check.due("houses(" + what + ")", x.houses(what), due[what]);
        }
        for (int i = 4; i < due.length; i++) {
            Check.due("share " + (i - 4), x.houses(6 + i), due[i]);
        }
        Check.due("no further one", x.houses(6 + due.length), -1);
    }

    private static void houses() {
        Check.at("promise 28");
        Counted x = new Counted();
        houses(x, -1, 0, 0, 0);
        x.house(3, 2);
        houses(x, 666, 0, 0, 1, 666);
        x.house(100, 20);
        // 22 of 103: 213; 3 * 453 * 453 + 100 * 13 * 13 = 632527; 453 not above 1000; 13 not above 100.
        houses(x, 213, 632, 0, 1, 666, 200);
        x.house(16, 8);
        // 30 of 119: 252; 3*414*414 + 100*52*52 + 16*248*248 = 514188 + 270400 + 984064.
        houses(x, 252, 1768, 0, 1 + 4, 666, 200, 500);
        x.house(16, 9);
        // 39 of 135: 288; 378, 88, 212, 562 - 288 = 274 above 250.
        houses(x, 288, (3 * 378 * 378 + 100 * 88 * 88 + 16 * 212 * 212 + 16 * 274 * 274) / 1000, 8, 1 + 4 + 8,
                666, 200, 500, 562);
        x.house(999, 0);
        // 39 of 1134: 34; 632 of 577 (root 1: 1000), 166 above 100, 466 above 250, 528 above 250, 34 above 32.
        houses(x, 34, (3 * 632 * 632 + 100 * 166 * 166 + 16 * 466 * 466 + 16 * 528 * 528 + 999 * 34 * 34) / 1000,
                2 + 4 + 8 + 16, 1 + 4 + 8, 666, 200, 500, 562, 0);
        for (int b : new int[] {-1, 4, 5, 9, 15, 30, Integer.MIN_VALUE, Integer.MIN_VALUE + 9, Integer.MAX_VALUE}) {
            Check.due("what " + b, x.houses(b), -1);
        }
        // Just as far as the root allows is not off: root of 15 is 3, 333; root of 4 is 2, 500.
        Counted y = new Counted();
        y.house(4, 4);
        y.house(4, 0);
        Check.due("500 off", y.houses(2), 0);
        y.house(4, 0);
        Check.due("667 off", y.houses(2), 1);
        // The root of 49 is 7: 1000 by 7 is 142, not 143.
        Counted w = new Counted();
        w.house(49, 7);
        Check.due("share", w.houses(10), 142);
        w.house(951, 0);
        // 7 of 1000: 7; 135 off, not above 142.
        Check.due("135 off", w.houses(2), 0);
        Counted w2 = new Counted();
        w2.house(49, 7);
        w2.house(999, 0);
        w2.house(999, 0);
        w2.house(999, 0);
        // 7 of 3046: 2; 140 off.
        Check.due("140 off", w2.houses(2), 0);
        Counted w3 = new Counted();
        w3.house(7 * 7, 14);
        w3.house(7 * 7, 0);
        // 142 joined, 285 - 142 = 143 off; 142 off is not.
        Check.due("143 off", w3.houses(2), 1);
        Counted v = new Counted();
        v.house(1, 1);
        Check.due("one of one", v.houses(0), 1000);
        Check.due("share of one", v.houses(10), 1000);
        Counted v2 = new Counted();
        v2.house(2, 0);
        v2.house(2, 2);
        Check.due("the second alone", v2.houses(3), 2);
        // Far above what an int holds before it is parted.
        Counted z = new Counted();
        for (int i = 0; i < 20; i++) {
            z.house(999, i % 2 == 0 ? 999 : 0);
        }
        Check.due("joined", z.houses(0), 500);
        Check.due("apart", z.houses(1), 20 * 999 * 250);
        Check.due("off", z.houses(2), (1 << 20) - 1);
        Check.due("have", z.houses(3), 0x55555);
        Check.due("the last", z.houses(29), 0);
    }
}
