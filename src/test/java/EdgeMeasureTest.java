import java.util.Arrays;

/** The boundary cases that promises 21 to 24 and 29 to 32 name: what is counted of ANSWERS and LAWS. */
public final class EdgeMeasureTest {
    private EdgeMeasureTest() {
    }

    public static void main(String[] args) {
        oddsRefused();
        oddsEdges();
        oddsTwelve();
        needRefused();
        needEdges();
        pullsRefused();
        pullsNone();
        pullsHeld();
        pullsRoot();
        besideRefused();
        besideNone();
        besideOne();
        sortsRefused();
        sortsEdges();
        curveRefused();
        curveSteps();
        turnEdges();
        scoreRefused();
        scoreLevels();
        scoreFull();
        scoreBest();
        nextRefused();
        nextNone();
        nextEdges();
        Check.close();
    }

    /**
     * QUESTIONS and what RULES say to them, RIGHT and 1 if they TELL something:
     * 0 FIRST alone says 0, all others 1: 1 1 1 1 1 1 1 0, 1, 0
     * 1 a LOOK that TELLS something:      2 1 1 1 1 2 1 1, 1, 1
     * 2 a PICTURE that TELLS something:   2 1 1 1 1 2 1 1, 1, 1
     * 3 all say NONE
     */
    private static void four(Counted x) {
        Check.scene(x, 0, Given.FIRST_ALONE);
        Check.scene(x, 1, Given.MOVED);
        x.question(0, 0, 0, 0, -1);
        x.question(1, 0, 0, 0, -1);
        x.question(1, 1, 0, 0, -1);
        x.question(2, 0, 0, 0, -1);
    }

    private static Counted withChildren(int many) {
        Counted x = new Counted();
        four(x);
        for (int i = 0; i < many; i++) {
            x.child(0, 0, 0, 0);
        }
        return x;
    }

    // ================= ODDS and NEED

    private static void oddsRefused() {
        Check.at("promise 21: NONE if one can't be");
        Edge on = new Edge(Given::filled);
        on.outside("child", 0, 2, (x, n) -> x.odds(n, 0), -1);
        on.outside("child, ITS RULE", 0, 2, (x, n) -> x.odds(n, 8), -1);
        on.outside("rule", 0, 8, (x, n) -> x.odds(0, n), -1);
        on.outside("rule of the last", 0, 8, (x, n) -> x.odds(2, n), -1);
        new Edge(Counted::calls).outside("without CHILDREN", 0, -1, (x, n) -> x.odds(n, 0), -1);
        new Edge(x -> Given.children(x, 40)).outside("of forty", 0, 39, (x, n) -> x.odds(n, 8), -1);
        new Edge(x -> Given.children(x, 40)).answers("the last of forty", x -> x.odds(39, 0), 125);
    }

    private static void oddsEdges() {
        Check.at("promise 21: ODDS without ANSWERS, and by ANSWERS that no RULE, or each, says");
        Counted x = withChildren(2);
        for (int rule = 0; rule < 8; rule++) {
            Check.due("without", x.odds(0, rule), 125);
        }
        Check.due("ITS RULE: the least", x.odds(0, 8), 0);
        for (int i = 0; i < 12; i++) {
            x.told(0, 0, 0, 3);
            x.told(1, 3, 0, -1);
        }
        for (int rule = 0; rule < 8; rule++) {
            Check.due("by none", x.odds(0, rule), 125);
            Check.due("by each", x.odds(1, rule), 125);
        }
        Check.due("by none: the least", x.odds(0, 8), 0);
        Check.due("by each: the least", x.odds(1, 8), 0);
        Check.at("promise 21: of several the least");
        Counted y = withChildren(1);
        y.told(0, 1, 0, 1);
        Check.due("1 2 3 4 6 7", y.odds(0, 8), 1);
        y.told(0, 0, 0, 0);
        Check.due("7 alone", y.odds(0, 8), 7);
        y.told(0, 1, 0, 2);
        y.told(0, 0, 0, 1);
        // 1 2 3 4 6: two; 7: two; 0 5: two: 1 1 0 0, so 0 is the least.
        Check.due("all alike again", y.odds(0, 8), 0);
        Check.due("all alike again", y.odds(0, 7), 125);
    }

    private static void oddsTwelve() {
        Check.at("promise 21: of its first twelve ANSWERS");
        Counted x = withChildren(2);
        // 9^n by 9^n and 7: 562, 920, 990, 998, 999 and so on; the seven others share the rest.
        int[] seven = {125, 562, 920, 990, 998, 999, 999, 999, 999, 999, 999, 999, 999};
        int[] zero = {125, 62, 11, 1, 0, 0, 0, 0, 0, 0, 0, 0, 0};
        for (int n = 0; n <= 12; n++) {
            Check.due("FIRST by " + n, x.odds(0, 7), seven[n]);
            Check.due("THERE by " + n, x.odds(0, 0), zero[n]);
            // Another CHILD's ANSWERS between do not count.
            x.told(1, 0, 0, 1);
            if (n < 12) {
                x.told(0, 0, 0, 0);
            }
        }
        for (int n = 0; n < 40; n++) {
            x.told(0, 0, 0, 1);
        }
        Check.due("no more than twelve", x.odds(0, 7), 999);
        Check.due("ITS RULE", x.odds(0, 8), 7);
        // The other CHILD has 13 ANSWERS of 1: twelve of them: 1000 9^12 by 7 9^12 and 1.
        Check.due("seven by twelve", x.odds(1, 0), 142);
        Check.due("not FIRST", x.odds(1, 7), 0);
        // The twelfth counts, the 13th does not: six of 0, six of 1, then one of 0.
        Counted y = withChildren(2);
        for (int n = 0; n < 14; n++) {
            y.told(0, 0, 0, n < 6 ? 0 : n < 12 ? 1 : 0);
            y.told(1, 0, 0, n < 7 ? 0 : 1);
        }
        Check.due("six and six", y.odds(0, 7), 125);
        Check.due("six and six, the least", y.odds(0, 8), 0);
        // Seven of 0, five of 1: 9^7 by 9^7 and 7 9^5: 81 of 88.
        Check.due("seven and five", y.odds(1, 7), 920);
    }

    private static void needRefused() {
        Check.at("promise 22: NONE if one can't be (ODDS 1 .. 1000)");
        Edge on = new Edge(Given::filled);
        on.outside("rule", 0, 7, (x, n) -> x.need(n, 1), -1);
        on.outside("odds", 1, 1000, (x, n) -> x.need(0, n), -1);
        on.outside("rule, odds 1000", 0, 7, (x, n) -> x.need(n, 1000), -1);
        on.outside("odds of the greatest RULE", 1, 1000, (x, n) -> x.need(7, n), -1);
        on.refused("ODDS 0", x -> x.need(7, 0), -1);
        new Edge(Counted::calls).outside("odds without QUESTIONS", 1, 1000, (x, n) -> x.need(0, n), -1);
    }

    private static void needEdges() {
        Check.at("promise 22: 125 with none; NONE if there is none");
        for (int rule = 0; rule < 8; rule++) {
            Counted x = new Counted();
            Check.due("1", x.need(rule, 1), 0);
            Check.due("125", x.need(rule, 125), 0);
            Check.due("126", x.need(rule, 126), -1);
            Check.due("1000", x.need(rule, 1000), -1);
            x.question(0, 0, 0, 0, -1);
            Check.due("125, by a QUESTION that parts none", x.need(rule, 125), 0);
            Check.due("126, by a QUESTION that parts none", x.need(rule, 126), -1);
        }
        Check.at("promise 22: not below: of all twelve");
        Counted x = new Counted();
        Check.scene(x, 0, Given.FIRST_ALONE);
        int[] odds = {125, 562, 920, 990, 998, 999};
        for (int q = 0; q < 12; q++) {
            x.question(0, 0, 0, 0, -1);
        }
        for (int n = 0; n < odds.length; n++) {
            Check.due("just reached", x.need(7, odds[n]), n);
            Check.due("one more", x.need(7, odds[n] + 1), n < 5 ? n + 1 : -1);
        }
        Check.due("142 for the seven others", x.need(0, 142), 2);
        Check.due("143 for the seven others", x.need(0, 143), -1);
        Check.at("promise 22: of the twelfth alone, and of a first that was enough");
        Counted y = new Counted();
        Check.scene(y, 0, Given.FIRST_ALONE);
        for (int q = 0; q < 12; q++) {
            y.question(q == 11 ? 0 : 1, 0, 0, 0, -1);
        }
        Check.due("562", y.need(7, 562), 12);
        Check.due("563", y.need(7, 563), -1);
        Check.due("140 for the others", y.need(0, 140), 12);
        Check.due("141 for the others", y.need(0, 141), -1);
        // One more that parts none leaves it as it is.
        Counted z = new Counted();
        Check.scene(z, 0, Given.FIRST_ALONE);
        z.question(0, 0, 0, 0, -1);
        z.question(1, 0, 0, 0, -1);
        Check.due("562 by the first", z.need(7, 562), 1);
        Check.due("563: none", z.need(7, 563), -1);
    }

    // ================= PULLS

    private static void pullsRefused() {
        Check.at("promise 23: NONE if one can't be, or another what");
        Edge on = new Edge(Given::filled);
        on.outside("how", -1, 3, (x, n) -> x.pulls(n, 0), -1);
        on.outside("how, MORE", -1, 3, (x, n) -> x.pulls(n, 4), -1);
        on.outside("what", 0, 4, (x, n) -> x.pulls(0, n), -1);
        on.outside("what of all", 0, 4, (x, n) -> x.pulls(-1, n), -1);
    }

    private static void pullsNone() {
        Check.at("promise 23: NONE for 2 and more if there is none");
        int[] none = {0, 0, -1, -1, -1};
        Counted empty = new Counted();
        Counted other = withChildren(1);
        // ANSWERS to a LOOK that TELLS nothing, and to a PICTURE.
        other.told(0, 0, 0, 1);
        other.told(0, 2, 0, 2);
        other.told(0, 3, 0, -1);
        Counted third = withChildren(1);
        third.told(0, 1, 1, 2);
        for (int what = 0; what < 5; what++) {
            for (int how = -1; how < 4; how++) {
                Check.due("no ANSWERS", empty.pulls(how, what), none[what]);
                Check.due("none to a LOOK that TELLS something", other.pulls(how, what), none[what]);
                boolean some = how == -1 || how == 1;
                int[] one = {1, 1, 1000, 0, 1000};
                Check.due("asked 1 alone, " + how, third.pulls(how, what), some ? one[what] : none[what]);
            }
        }
    }

    private static void pullsHeld() {
        Check.at("promise 23: SHARE, LESS and MORE, held to 0 .. 1000");
        int[][] due = {
            // how many, THERE, SHARE, LESS, MORE
            {1, 0, 0, 0, 1000}, {1, 1, 1000, 0, 1000}, {3, 0, 0, 0, 1000}, {4, 0, 0, 0, 500}, {4, 2, 500, 0, 1000},
            {4, 4, 1000, 500, 1000}, {9, 3, 333, 0, 666}, {9, 6, 666, 333, 999}, {16, 4, 250, 0, 500},
            {16, 12, 750, 500, 1000}, {16, 5, 312, 62, 562}, {25, 25, 1000, 800, 1000}, {100, 10, 100, 0, 200},
            {100, 11, 110, 10, 210}, {100, 90, 900, 800, 1000}, {100, 89, 890, 790, 990}, {300, 0, 0, 0, 58},
            {300, 300, 1000, 942, 1000}, {300, 1, 3, 0, 61}, {300, 299, 996, 938, 1000}};
        for (int[] d : due) {
            Counted x = withChildren(1);
            for (int i = 0; i < d[0]; i++) {
                x.told(0, 1, 3, i < d[1] ? 2 : -1);
            }
            for (int what = 0; what < 5; what++) {
                Check.due(d[1] + " of " + d[0] + ", " + what, x.pulls(3, what), d[what]);
                Check.due(d[1] + " of " + d[0] + " of all, " + what, x.pulls(-1, what), d[what]);
            }
        }
    }

    private static void pullsRoot() {
        Check.at("promise 23: the ROOT (whole, downwards) of how many");
        Counted x = withChildren(1);
        for (int n = 1; n <= 300; n++) {
            x.told(0, 1, n % 4, 0);
            boolean square = n == 1 || n == 4 || n == 9 || n == 16 || n == 289;
            boolean below = n == 3 || n == 8 || n == 15 || n == 288 || n == 300;
            if (square || below) {
                int root = n == 300 ? 17 : (int) Math.sqrt(square ? n : n + 1) - (below ? 1 : 0);
                Check.due("MORE of " + n, x.pulls(-1, 4), 1000 / root);
            }
        }
    }

    // ================= BESIDE and SORTS

    private static void besideRefused() {
        Check.at("promise 24: NONE for another what");
        new Edge(Given::filled).outside("beside", 0, 4, (x, n) -> x.beside(n), -1);
        new Edge(Counted::calls).outside("beside of none", 0, 4, (x, n) -> x.beside(n), -1);
    }

    private static void all(Counted x, String when, int... due) {
        for (int what = 0; what < 5; what++) {
            Check.due(when + ", beside(" + what + ")", x.beside(what), due[what]);
        }
    }

    private static void besideNone() {
        Check.at("promise 24: ONE: 0 without CHILDREN that have both");
        Counted x = new Counted();
        all(x, "no CHILDREN", 0, 0, 0, 0, 0);
        x = withChildren(4);
        all(x, "no ANSWERS", 0, 0, 0, 0, 0);
        x.told(0, 1, 0, 1);
        x.told(1, 2, 0, 1);
        all(x, "one has LOOK alone, one PICTURE alone", 0, 0, 0, 0, 0);
        // LOOK that TELLS nothing does not make it have both.
        x.told(1, 0, 0, 1);
        x.told(1, 3, 0, -1);
        all(x, "a LOOK that TELLS nothing", 0, 0, 0, 0, 0);
        x.told(0, 2, 0, 1);
        all(x, "one that passes both", 1, 0, 0, 0, 1);
        x.told(0, 1, 0, 0);
        x.told(0, 2, 0, 0);
        all(x, "one that passes neither", 0, 0, 0, 1, 1);
    }

    private static void besideOne() {
        Check.at("promise 24: ONE, if four times those that pass one alone are not above all");
        for (int alone = 0; alone <= 10; alone++) {
            for (int all = Math.max(1, alone); all <= 40; all += all < 5 ? 1 : 7) {
                Counted x = withChildren(all);
                for (int c = 0; c < all; c++) {
                    boolean one = c < alone;
                    x.told(c, 1, 0, one && c % 2 == 0 || !one && c % 3 == 0 ? 1 : 3);
                    x.told(c, 2, 0, one && c % 2 == 1 || !one && c % 3 == 0 ? 1 : 3);
                }
                Check.due(alone + " of " + all, x.beside(4), 4 * alone <= all ? 1 : 0);
                Check.due("LOOK alone", x.beside(1), (alone + 1) / 2);
                Check.due("PICTURE alone", x.beside(2), alone / 2);
                Check.due("together", x.beside(0) + x.beside(3), all - alone);
            }
        }
        Counted x = withChildren(40);
        for (int c = 0; c < 40; c++) {
            x.told(c, 1, 0, c < 10 ? 1 : 0);
            x.told(c, 2, 0, 0);
        }
        all(x, "ten of forty", 0, 10, 0, 30, 1);
        x.told(10, 2, 0, 1);
        all(x, "eleven of forty", 0, 10, 1, 29, 0);
    }

    private static void sortsRefused() {
        Check.at("promise 29: NONE if one can't be");
        Edge on = new Edge(Given::filled);
        on.outside("sort", 0, 1, (x, n) -> x.sorts(n, 0), -1);
        on.outside("sort, how many fail", 0, 1, (x, n) -> x.sorts(n, 8), -1);
        on.outside("rule", 0, 8, (x, n) -> x.sorts(0, n), -1);
        on.outside("rule of sort 1", 0, 8, (x, n) -> x.sorts(1, n), -1);
    }

    private static void sortsEdges() {
        Check.at("promise 29: none that fail, all that fail");
        Counted x = new Counted();
        for (int rule = 0; rule < 9; rule++) {
            Check.due("no CHILDREN", x.sorts(0, rule) + x.sorts(1, rule), 0);
        }
        four(x);
        Given.children(x, 40);
        for (int c = 0; c < 40; c++) {
            // It passes, but for PICTURES and LOOKS that TELL nothing.
            x.told(c, 1, 0, 1);
            x.told(c, 0, 0, 3);
            x.told(c, 2, 0, 3);
            x.told(c, 3, 0, 3);
        }
        for (int rule = 0; rule < 9; rule++) {
            Check.due("all pass", x.sorts(0, rule) + x.sorts(1, rule), 0);
        }
        for (int c = 0; c < 40; c++) {
            x.told(c, 1, 0, c % 2 == 0 ? 2 : -1);
        }
        // Sort 0 said 1 and then 2: all RULES alike, the least; sort 1 said 1 and then none of any: RULE 1.
        Check.due("all of sort 0 fail", x.sorts(0, 8), 20);
        Check.due("all of sort 1 fail", x.sorts(1, 8), 20);
        for (int rule = 0; rule < 8; rule++) {
            Check.due("sort 0, RULE " + rule, x.sorts(0, rule), rule == 0 ? 20 : 0);
            Check.due("sort 1, RULE " + rule, x.sorts(1, rule), rule == 1 ? 20 : 0);
        }
    }

    // ================= CURVE

    private static void curveRefused() {
        Check.at("promise 30: NONE - 1 if one can't be, or another what");
        Edge on = new Edge(Given::filled);
        on.outside("step", -1, 20, (x, n) -> x.curve(n, 0), -2);
        on.outside("step, RIGHT", -1, 20, (x, n) -> x.curve(n, 1), -2);
        on.outside("what", 0, 1, (x, n) -> x.curve(0, n), -2);
        on.outside("what of the last STEP", 0, 1, (x, n) -> x.curve(20, n), -2);
        on.outside("what of TURN", 0, 1, (x, n) -> x.curve(-1, n), -2);
        new Edge(Counted::calls).outside("step of none", -1, 20, (x, n) -> x.curve(n, 0), -2);
    }

    private static void curveSteps() {
        Check.at("promise 30: STEPS 0 .. 20 (MONTHS by 6)");
        Counted x = new Counted();
        four(x);
        int[] months = {0, 5, 6, 11, 12, 59, 60, 113, 114, 119, 120};
        for (int c = 0; c < months.length; c++) {
            x.child(0, months[c], 0, 0);
            for (int i = 0; i <= c; i++) {
                x.told(c, 1, 0, i < 2 ? 1 : 0);
            }
        }
        int[][] due = {{0, 3, 3}, {1, 7, 4}, {2, 5, 2}, {3, 0, 0}, {9, 6, 2}, {10, 7, 2}, {18, 8, 2}, {19, 19, 4},
            {20, 11, 2}};
        for (int[] d : due) {
            Check.due("STEP " + d[0] + ", how many", x.curve(d[0], 0), d[1]);
            Check.due("STEP " + d[0] + ", RIGHT", x.curve(d[0], 1), d[2]);
        }
        Check.due("TURN: the last is not so", x.curve(-1, 0), -1);
        Counted empty = new Counted();
        for (int step = 0; step <= 20; step++) {
            Check.due("without ANSWERS", empty.curve(step, 0) + empty.curve(step, 1), 0);
        }
        Check.due("TURN without ANSWERS", empty.curve(-1, 0), -1);
        Check.due("TURN without ANSWERS", empty.curve(-1, 1), -1);
    }

    /** TURN, if STEPS have so many ANSWERS, so many of them RIGHT. */
    private static void turn(int due, int[]... steps) {
        Counted x = new Counted();
        four(x);
        for (int c = 0; c < steps.length; c++) {
            x.child(0, Math.min(120, 6 * steps[c][0] + c % 6), 0, 0);
            for (int i = 0; i < steps[c][1]; i++) {
                x.told(c, 1, 0, i < steps[c][2] ? 1 : 2);
            }
            // What TELLS nothing, or is a PICTURE's, is not counted.
            x.told(c, 2, 0, 2);
            x.told(c, 0, 0, 3);
        }
        Check.due("TURN of " + Arrays.deepToString(steps), x.curve(-1, 0), due);
        Check.due("TURN, what 1", x.curve(-1, 1), due);
    }

    private static void turnEdges() {
        Check.at("promise 30: TURN: half and more, so that all STEPS with ANSWERS behind it are so, too");
        turn(-1, new int[] {0, 0, 0});
        turn(0, new int[] {0, 1, 1});
        turn(20, new int[] {20, 1, 1});
        turn(-1, new int[] {0, 1, 0});
        turn(-1, new int[] {20, 1, 0});
        turn(4, new int[] {4, 2, 1});
        turn(-1, new int[] {4, 3, 1});
        turn(4, new int[] {4, 3, 2});
        turn(0, new int[] {0, 1, 1}, new int[] {20, 2, 1});
        turn(-1, new int[] {0, 1, 1}, new int[] {20, 3, 1});
        turn(20, new int[] {0, 1, 1}, new int[] {1, 3, 1}, new int[] {20, 2, 1});
        turn(2, new int[] {1, 3, 1}, new int[] {2, 4, 2}, new int[] {3, 0, 0}, new int[] {9, 5, 3});
        turn(1, new int[] {0, 100, 49}, new int[] {1, 100, 50});
    }

    // ================= SCORE and NEXT

    private static void scoreRefused() {
        Check.at("promise 31: NONE - 999999 if one can't be");
        new Edge(Given::filled).outside("score", -1, 3, (x, n) -> x.score(n), -1000000);
        new Edge(Counted::calls).outside("score of none", -1, 3, (x, n) -> x.score(n), -1000000);
        Counted x = new Counted();
        for (int law = -1; law < 4; law++) {
            Check.due("without ANSWERS", x.score(law), 0);
        }
    }

    /** A LAW by which FIRST has so much of so much; each other RULE 99 at the most. */
    private static String lawOf(int part, int all) {
        StringBuilder s = new StringBuilder("rule 7 ").append(part).append(';');
        int rest = all - part;
        for (int rule = 0; rule < 7; rule++) {
            int w = Math.min(99, rest);
            rest -= w;
            s.append("rule ").append(rule).append(' ').append(w).append(';');
        }
        return s.toString();
    }

    private static void scoreLevels() {
        Check.at("promise 31: LEVEL of c: -50 for 0, else 10 k and what is left by 2 to the k");
        // part, all, CHANCE, LEVEL
        int[][] due = {{0, 1, 0, -50}, {1, 792 - 98, 1, 0}, {1, 500, 2, 10}, {1, 333, 3, 15}, {1, 250, 4, 20},
            {1, 130, 7, 27}, {1, 125, 8, 30}, {1, 64, 15, 38}, {2, 125, 16, 40}, {2, 64, 31, 49}, {4, 125, 32, 50},
            {5, 79, 63, 59}, {8, 125, 64, 60}, {13, 102, 127, 69}, {16, 125, 128, 70}, {51, 200, 255, 79},
            {32, 125, 256, 80}, {23, 45, 511, 89}, {64, 125, 512, 90}, {99, 100, 990, 99}, {1, 1, 1000, 99}};
        for (int[] d : due) {
            Counted x = withChildren(1);
            x.told(0, 0, 0, 0);
            Check.law(x, 0, lawOf(d[0], d[1]));
            Check.due("CHANCE " + d[0] + " of " + d[1], x.chance(0, 0, 0, 0, 0), d[2]);
            Check.due("LEVEL of " + d[2], x.score(0), d[3]);
        }
    }

    private static void scoreFull() {
        Check.at("promise 31: over all ANSWERS, 300 of them");
        Counted x = withChildren(1);
        for (int i = 0; i < 300; i++) {
            x.told(0, 0, i % 4, 0);
        }
        Check.law(x, 0, "rule 7 1;");
        Check.law(x, 1, "rule 0 1;");
        Check.law(x, 3, "rule 7 1 when how=3;rule 0 1 when how<3;");
        Check.due("300 of 1000", x.score(0), 300 * 99);
        Check.due("300 of 0", x.score(1), -15000);
        Check.due("300 of 250", x.score(2), 300 * 79);
        Check.due("75 of 1000, 225 of 0", x.score(3), 75 * 99 - 225 * 50);
        Check.due("BEST LAW", x.score(-1), 0);
    }

    private static void scoreBest() {
        Check.at("promise 31: BEST LAW: the greatest SCORE, of several the least");
        String good = "rule 7 1;";
        String bad = "rule 0 1;";
        for (int set = 0; set < 16; set++) {
            Counted x = withChildren(1);
            x.told(0, 0, 0, 0);
            for (int law = 0; law < 4; law++) {
                Check.law(x, law, (set >> law & 1) == 1 ? good : bad);
            }
            int least = set == 0 ? 0 : Integer.numberOfTrailingZeros(set);
            Check.due("of set " + set, x.score(-1), least);
            Check.due("a SCORE", x.score(3), set >= 8 ? 99 : -50);
        }
    }

    private static void nextRefused() {
        Check.at("promise 32: NONE if one can't be, or another what");
        Edge on = new Edge(Given::filled);
        on.outside("one", 0, 3, (x, n) -> x.next(n, 0, 0, 0, 0), -1);
        on.outside("two", 0, 3, (x, n) -> x.next(0, n, 0, 0, 0), -1);
        on.outside("child", 0, 2, (x, n) -> x.next(0, 1, n, 0, 0), -1);
        on.outside("how", 0, 3, (x, n) -> x.next(0, 1, 0, n, 0), -1);
        on.outside("what", 0, 1, (x, n) -> x.next(0, 1, 0, 0, n), -1);
        on.outside("one, all else the greatest", 0, 3, (x, n) -> x.next(n, 3, 2, 3, 1), -1);
        on.outside("two, all else the greatest", 0, 3, (x, n) -> x.next(3, n, 2, 3, 1), -1);
        on.outside("child, all else the greatest", 0, 2, (x, n) -> x.next(3, 2, n, 3, 1), -1);
        on.outside("how, all else the greatest", 0, 3, (x, n) -> x.next(3, 2, 2, n, 1), -1);
        on.outside("what, all else the greatest", 0, 1, (x, n) -> x.next(3, 2, 2, 3, n), -1);
    }

    private static void nextNone() {
        Check.at("promise 32: NONE if there are none");
        Edge noQuestions = new Edge(x -> {
            Given.children(x, 1);
            Check.law(x, 0, "rule 7 1;");
        });
        noQuestions.refused("without QUESTIONS", x -> x.next(0, 1, 0, 0, 0), -1);
        noQuestions.refused("without QUESTIONS, how far", x -> x.next(0, 1, 0, 0, 1), -1);
        Edge noChildren = new Edge(x -> Given.questions(x, 3));
        noChildren.refused("without CHILDREN", x -> x.next(0, 1, 0, 0, 0), -1);
        noChildren.refused("without CHILDREN, how far", x -> x.next(0, 1, 0, 0, 1), -1);
    }

    private static void nextEdges() {
        Check.at("promise 32: not apart at all, as far as can be, of several the least");
        Counted x = new Counted();
        Given.children(x, 40);
        Check.scene(x, 0, Given.FIRST_ALONE);
        Check.law(x, 0, "rule 7 1;");
        Check.law(x, 1, "rule 0 1;");
        for (int q = 0; q < 12; q++) {
            x.question(q == 11 ? 0 : 1, 0, 0, 0, -1);
        }
        Check.due("the twelfth", x.next(0, 1, 39, 3, 0), 11);
        Check.due("as far as can be", x.next(0, 1, 39, 3, 1), 2000);
        Check.due("two LAWS that are one: the least", x.next(2, 3, 0, 0, 0), 0);
        Check.due("not apart", x.next(2, 3, 0, 0, 1), 0);
        // Of what is nowhere an empty LAW says each BOX by 250, the other one NONE by 1000.
        Check.due("of several the least", x.next(0, 2, 0, 0, 0), 0);
        Check.due("NONE is an answer, too", x.next(0, 2, 0, 0, 1), 2000);
        Counted y = new Counted();
        Given.children(y, 1);
        Check.scene(y, 0, Given.FIRST_ALONE);
        Check.law(y, 0, "rule 7 1;");
        y.question(0, 0, 0, 0, -1);
        y.question(0, 0, 0, 0, -1);
        // 1000 0 0 0 against 250 each: 750 and three times 250.
        Check.due("against an empty LAW", y.next(0, 1, 0, 0, 1), 1500);
        Check.due("either way", y.next(1, 0, 0, 0, 1), 1500);
        Check.due("of two alike the least", y.next(1, 0, 0, 0, 0), 0);
    }
}
