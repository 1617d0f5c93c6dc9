/** The boundary cases that promises 10 to 20 name: QUESTIONS, CHILDREN, ANSWERS, CHANCES, what parts RULES. */
public final class EdgeChildTest {
    private EdgeChildTest() {
    }

    public static void main(String[] args) {
        questionRefused();
        questionFull();
        questionOfASceneAsItIs();
        saysRefused();
        saysNothing();
        childRefused();
        childFull();
        weightRefused();
        weightCut();
        weightWraps();
        weightLines();
        weightDeep();
        weightGiven();
        askRefused();
        askFull();
        askSums();
        askPull();
        askNone();
        toldRefused();
        toldFull();
        answerRefused();
        answerEdges();
        chanceRefused();
        chanceEdges();
        partedRefused();
        partedEdges();
        fewestRefused();
        fewestEdges();
        makeRefused();
        makeEdges();
        makeFull();
        Check.close();
    }

    // ================= QUESTIONS

    private static void questionRefused() {
        Check.at("promise 10: NONE if one can't be (sort 0: W and V, V NONE or another one)");
        Edge on = new Edge(Given::filled);
        on.outside("scene", 0, 7, (x, n) -> x.question(n, 0, 0, 0, -1), -1);
        on.outside("sort", 0, 1, (x, n) -> x.question(0, n, 0, 0, -1), -1);
        on.outside("w", 0, 3, (x, n) -> x.question(0, 0, n, 0, -1), -1);
        on.outside("thing", 0, 2, (x, n) -> x.question(0, 0, 0, n, -1), -1);
        on.outside("v", -1, 3, (x, n) -> x.question(0, 0, 0, 0, n), -1);
        on.outside("scene, all else the greatest", 0, 7, (x, n) -> x.question(n, 0, 3, 2, 2), -1);
        on.outside("v, all else the greatest", -1, 3, (x, n) -> x.question(7, 0, 3, 2, n), -1);
        for (int who : Edge.upTo(4)) {
            on.refused("V is W " + who, x -> x.question(0, 0, who, 0, who), -1);
        }
        Check.at("promise 10: NONE if one can't be (sort 1: w the PICTURE)");
        on.outside("picture", 0, 1, (x, n) -> x.question(0, 1, n, 0, -1), -1);
        on.outside("picture, v as it", 0, 1, (x, n) -> x.question(0, 1, n, 0, n), -1);
        on.outside("thing of a picture", 0, 2, (x, n) -> x.question(0, 1, 0, n, -1), -1);
        on.outside("scene of a picture", 0, 7, (x, n) -> x.question(n, 1, 0, 0, -1), -1);
        Check.at("promise 10: the least and the greatest, V not asked of a PICTURE");
        Edge fresh = new Edge(Counted::calls);
        fresh.answers("the least", x -> x.question(0, 0, 0, 0, -1), 0);
        fresh.answers("the greatest", x -> x.question(7, 0, 3, 2, 2), 0);
        fresh.answers("V 3", x -> x.question(7, 0, 2, 2, 3), 0);
        fresh.answers("V 0", x -> x.question(7, 0, 1, 2, 0), 0);
        for (int v : new int[] {Integer.MIN_VALUE, -2, -1, 0, 1, 3, 4, Integer.MAX_VALUE}) {
            fresh.answers("picture 0, v " + v, x -> x.question(0, 1, 0, 0, v), 0);
            fresh.answers("picture 1, v " + v, x -> x.question(7, 1, 1, 2, v), 0);
        }
    }

    private static void questionFull() {
        Check.at("promise 10: NONE if there are twelve");
        for (int many : new int[] {0, 1, 10, 11}) {
            new Edge(x -> Given.questions(x, many)).answers("behind " + many, x -> x.question(0, 0, 0, 0, -1), many);
        }
        Edge full = new Edge(x -> {
            Given.filled(x);
            Given.questions(x, 8);
        });
        full.answers("twelve", x -> x.look(0), 12);
        full.refused("the 13th, LOOK", x -> x.question(0, 0, 0, 0, -1), -1);
        full.refused("the 13th, PICTURE", x -> x.question(7, 1, 1, 2, 0), -1);
        full.refused("one that can't be", x -> x.question(8, 0, 0, 0, -1), -1);
        full.answers("the last one", x -> x.says(11, 9), 0);
        full.answers("behind the last one", x -> x.says(12, 9), -2);
    }

    private static void questionOfASceneAsItIs() {
        Check.at("promise 10: a SCENE (as it is when asked)");
        Counted x = new Counted();
        x.question(7, 0, 3, 2, -1);
        x.child(0, 0, 0, 0);
        Check.law(x, 0, "rule 1 1;");
        Check.due("of an empty one", x.ask(0, 0, 0), -1);
        Check.scene(x, 7, "come 3;put 3 2 1;");
        Check.due("of another one", x.ask(0, 0, 0), 1);
        Check.scene(x, 7, "");
        Check.due("of an empty one again", x.ask(0, 0, 0), -1);
        Check.due("what was answered stays", x.answer(1, 3), 1);
    }

    private static void saysRefused() {
        Check.at("promise 11: NONE - 1 if one can't be");
        Edge on = new Edge(Given::filled);
        on.outside("question", 0, 3, (x, n) -> x.says(n, 0), -2);
        on.outside("rule", 0, 9, (x, n) -> x.says(0, n), -2);
        on.outside("rule of the last", 0, 9, (x, n) -> x.says(3, n), -2);
        new Edge(Counted::calls).outside("without QUESTIONS", 0, -1, (x, n) -> x.says(n, 0), -2);
        new Edge(x -> Given.questions(x, 12)).outside("with twelve", 0, 11, (x, n) -> x.says(n, 9), -2);
    }

    private static void saysNothing() {
        Check.at("promise 11: what RULES say of a THING that is nowhere, in PICTURES that are not taken");
        for (int sort = 0; sort < 2; sort++) {
            for (int v : new int[] {-1, 0}) {
                Counted x = new Counted();
                x.question(0, sort, 1, 2, v);
                for (int rule = 0; rule < 9; rule++) {
                    Check.due("rule " + rule, x.says(0, rule), -1);
                }
                Check.due("tells nothing", x.says(0, 9), 0);
            }
        }
        Check.at("promise 11: one MOVE alone: ahead of it NONE");
        Counted x = new Counted();
        Check.scene(x, 0, "come 0;put 0 0 0;snap 1;");
        x.question(0, 0, 1, 0, -1);
        x.question(0, 0, 0, 0, 1);
        x.question(0, 1, 0, 0, -1);
        x.question(0, 1, 1, 0, -1);
        // THERE HELD LAST PUT WRONG OWN SECOND FIRST RIGHT TELLS
        int[][] due = {{0, -1, -1, -1, -1, 0, -1, 0, -1, 1}, {0, 0, 0, 0, 0, -1, -1, 0, 0, 0},
            {0, -1, -1, -1, -1, 0, -1, 0, -1, 1}, {0, 0, 0, 0, -1, 0, 0, 0, 0, 0}};
        for (int q = 0; q < 4; q++) {
            for (int rule = 0; rule < 10; rule++) {
                Check.due("says(" + q + ", " + rule + ")", x.says(q, rule), due[q][rule]);
            }
        }
    }

    // ================= CHILDREN and their WEIGHTS

    private static void childRefused() {
        Check.at("promise 12: NONE if one can't be");
        Edge on = new Edge(Given::filled);
        on.outside("law", 0, 3, (x, n) -> x.child(n, 0, 0, 0), -1);
        on.outside("months", 0, 120, (x, n) -> x.child(0, n, 0, 0), -1);
        on.outside("words", 0, 9, (x, n) -> x.child(0, 0, n, 0), -1);
        on.outside("sort", 0, 1, (x, n) -> x.child(0, 0, 0, n), -1);
        on.outside("law, all else the greatest", 0, 3, (x, n) -> x.child(n, 120, 9, 1), -1);
        on.outside("months, all else the greatest", 0, 120, (x, n) -> x.child(3, n, 9, 1), -1);
        on.outside("words, all else the greatest", 0, 9, (x, n) -> x.child(3, 120, n, 1), -1);
        on.outside("sort, all else the greatest", 0, 1, (x, n) -> x.child(3, 120, 9, n), -1);
        on.answers("the least", x -> x.child(0, 0, 0, 0), 3);
        on.answers("the greatest", x -> x.child(3, 120, 9, 1), 3);
    }

    private static void childFull() {
        Check.at("promise 12: NONE if there are 40");
        for (int many : new int[] {0, 1, 38, 39}) {
            new Edge(x -> Given.children(x, many)).answers("behind " + many, x -> x.child(0, 0, 0, 0), many);
        }
        Edge full = new Edge(x -> {
            Given.filled(x);
            Given.children(x, 37);
        });
        full.answers("forty", x -> x.look(1), 40);
        full.refused("the 41st", x -> x.child(0, 0, 0, 0), -1);
        full.refused("the 41st, the greatest", x -> x.child(3, 120, 9, 1), -1);
        full.answers("the last one answers", x -> x.told(39, 0, 0, 0), 5);
        full.answers("one behind it does not", x -> x.told(40, 0, 0, 0), -1);
    }

    private static void weightRefused() {
        Check.at("promise 13: NONE if one can't be");
        Edge on = new Edge(Given::filled);
        on.outside("child", 0, 2, (x, n) -> x.weight(n, 0, 0, 0), -1);
        on.outside("question", 0, 3, (x, n) -> x.weight(0, n, 0, 0), -1);
        on.outside("how", 0, 3, (x, n) -> x.weight(0, 0, n, 0), -1);
        on.outside("rule", 0, 8, (x, n) -> x.weight(0, 0, 0, n), -1);
        on.outside("child, all else the greatest", 0, 2, (x, n) -> x.weight(n, 3, 3, 8), -1);
        on.outside("question, all else the greatest", 0, 3, (x, n) -> x.weight(2, n, 3, 8), -1);
        on.outside("how, all else the greatest", 0, 3, (x, n) -> x.weight(2, 3, n, 8), -1);
        on.outside("rule, all else the greatest", 0, 8, (x, n) -> x.weight(2, 3, 3, n), -1);
        on.refused("the greatest", x -> x.weight(2, 3, 3, 8), 50);
        on.refused("the least", x -> x.weight(0, 0, 0, 0), 0);
        new Edge(x -> Given.questions(x, 1)).refused("without CHILDREN", x -> x.weight(0, 0, 0, 0), -1);
        new Edge(x -> Given.children(x, 1)).refused("without QUESTIONS", x -> x.weight(0, 0, 0, 0), -1);
    }

    /** A CHILD of 120 months, 9 words, sort 1 and a QUESTION of an empty SCENE, with LAW 0. */
    private static Counted oldest(String law) {
        Counted x = new Counted();
        x.question(0, 0, 0, 0, -1);
        x.child(0, 120, 9, 1);
        Check.due("read " + law, Check.law(x, 0, law) >= 0, true);
        return x;
    }

    private static void weightCut() {
        Check.at("promise 13: WEIGHTS are cut to 0 .. 99, PULL to 0 .. 100");
        int[][] due = {{-9999, 0, 0}, {-1, 0, 0}, {0, 0, 0}, {1, 1, 1}, {98, 98, 98}, {99, 99, 99}, {100, 99, 100},
            {101, 99, 100}, {9999, 99, 100}};
        for (int[] d : due) {
            String e = d[0] < 0 ? "0-" + -d[0] : "" + d[0];
            Counted x = oldest("pull " + e + ";rule 0 " + e + ";rule 7 " + e + ";");
            Check.due("WEIGHT of " + e, x.weight(0, 0, 0, 0), d[1]);
            Check.due("WEIGHT of " + e, x.weight(0, 0, 0, 7), d[1]);
            Check.due("PULL of " + e, x.weight(0, 0, 0, 8), d[2]);
        }
    }

    private static void amount(String e, int due) {
        Counted x = oldest("pull " + e + ";");
        Check.due(e, x.weight(0, 0, 0, 8), Math.max(0, Math.min(100, due)));
        for (int n : new int[] {-1, 0, 1}) {
            // Compared as an int that was not cut: below, alike or above.
            String so = "pull 1 when " + e + "=" + signed(due + n) + ";";
            Check.due(so, oldest(so).weight(0, 0, 0, 8), n == 0 ? 1 : 0);
        }
    }

    /** Any int as an E: without brackets, by its parts of 9999 and less. */
    private static String signed(int n) {
        String sign = n < 0 ? "-" : "+";
        long rest = Math.abs((long) n);
        long high = rest / 9999 / 9999;
        long middle = rest / 9999 % 9999;
        return "0" + sign + high + "*9999*9999" + sign + middle + "*9999" + sign + rest % 9999;
    }

    private static void weightWraps() {
        Check.at("promise 13: ints, which wrap; / goes towards 0");
        amount("9999*9999*9999", 9999 * 9999 * 9999);
        amount("9999*9999*9999*9999", 9999 * 9999 * 9999 * 9999);
        amount("2048*1024*1024", Integer.MIN_VALUE);
        amount("2048*1024*1024-1", Integer.MAX_VALUE);
        amount("2048*1024*1024-1+1", Integer.MIN_VALUE);
        amount("0-2048*1024*1024", Integer.MIN_VALUE);
        amount("2048*1024*1024*2", 0);
        amount("2048*1024*1024*2+7", 7);
        amount("2048*1024*1024/1", Integer.MIN_VALUE);
        amount("2048*1024*1024/2", -1073741824);
        amount("2048*1024*1024/9999", -214769);
        amount("2048*1024*1024/3", -715827882);
        amount("0-7/2", -3);
        amount("0-8/3", -2);
        amount("7/2-8/3", 1);
        amount("1/9999", 0);
        amount("9999/9999", 1);
        amount("9998/9999*9999", 0);
        amount("9999*9999/9999/9999", 1);
        Check.due("less goes down from the least", oldest("pull 1 when 2048*1024*1024<0-9999;").weight(0, 0, 0, 8), 1);
        Check.due("above the greatest", oldest("pull 1 when 2048*1024*1024-1>9999*9999;").weight(0, 0, 0, 8), 1);
        // Less is no difference below 0: the least is below the greatest, though that less this wraps.
        Check.due("least below greatest", oldest("pull 1 when 2048*1024*1024<2048*1024*1024-1;").weight(0, 0, 0, 8),
                1);
        Check.due("greatest not below least", oldest("pull 1 when 2048*1024*1024-1<2048*1024*1024;")
                .weight(0, 0, 0, 8), 0);
        Check.due("greatest above least", oldest("pull 1 when 2048*1024*1024-1>2048*1024*1024;").weight(0, 0, 0, 8),
                1);
    }

    private static void weightLines() {
        Check.at("promise 13: E of its first line whose B is so (or that has none), 0 without one");
        Counted x = oldest("");
        for (int rule = 0; rule < 9; rule++) {
            Check.due("an empty LAW", x.weight(0, 0, 0, rule), 0);
        }
        x = oldest("rule 0 1 when 1<1;rule 0 2 when how=3;rule 0 3 when how>0;rule 0 4;rule 0 5;rule 1 6 when 1>1;"
                + "pull 7 when 1>1;pull 8 when how=0;pull 9;pull 10;");
        int[] due = {4, 3, 3, 2};
        for (int how = 0; how < 4; how++) {
            Check.due("the first that is so", x.weight(0, 0, how, 0), due[how]);
            Check.due("none that is so", x.weight(0, 0, how, 1), 0);
            Check.due("no line", x.weight(0, 0, how, 2), 0);
            Check.due("PULL", x.weight(0, 0, how, 8), how == 0 ? 8 : 9);
        }
        // A first line that is so and comes to 0 or below is the first all the same.
        x = oldest("rule 3 0;rule 3 5;rule 4 0-5;rule 4 5;pull 0;pull 5;");
        Check.due("0 first", x.weight(0, 0, 0, 3), 0);
        Check.due("below 0 first", x.weight(0, 0, 0, 4), 0);
        Check.due("PULL 0 first", x.weight(0, 0, 0, 8), 0);
        // Told anew with lines that are shorter, or longer, none of what was is left.
        x = oldest("rule 0 1+2+3+4+5 when 1+1+1+1+1=5 and 2<3;rule 1 7+8+9+9 when not 1=2;pull 20-1-1-1-1;");
        Check.due("long lines", x.weight(0, 0, 0, 0) * 10000 + x.weight(0, 0, 0, 1) * 100 + x.weight(0, 0, 0, 8),
                153316);
        Check.law(x, 0, "rule 0 1;rule 1 2;pull 3;");
        Check.due("short ones", x.weight(0, 0, 0, 0) * 10000 + x.weight(0, 0, 0, 1) * 100 + x.weight(0, 0, 0, 8),
                10203);
        Check.law(x, 0, "rule 0 1+2+3+4+5;pull 7+8+9+9 when 1=2;rule 1 3*4-5;pull 6;");
        Check.due("long ones again", x.weight(0, 0, 0, 0) * 10000 + x.weight(0, 0, 0, 1) * 100
                + x.weight(0, 0, 0, 8), 150706);
        // The 16th line alone.
        x = oldest("rule 0 1 when 1<1;".repeat(15) + "rule 0 6;");
        Check.due("the 16th line", x.weight(0, 0, 0, 0), 6);
    }

    private static void weightDeep() {
        Check.at("promise 13: B with eight open, each of them behind an or and an and that wait");
        for (int open = 0; open <= 8; open++) {
            for (int inmost = 0; inmost < 2; inmost++) {
                StringBuilder b = new StringBuilder("pull 5 when ");
                for (int i = 0; i < open; i++) {
                    b.append("1<1 or 1=1 and (");
                }
                b.append("1<1 or 1=1 and 9-2*3=").append(inmost == 1 ? 3 : 4).append("+0*2");
                b.append(")".repeat(open)).append(';');
                Check.due(b.toString(), oldest(b.toString()).weight(0, 0, 0, 8), inmost == 1 ? 5 : 0);
                String nots = "pull 5 when " + "not ".repeat(open) + "1=" + inmost + ";";
                boolean so = open % 2 == 0 ? inmost == 1 : inmost == 0;
                Check.due(nots, oldest(nots).weight(0, 0, 0, 8), so ? 5 : 0);
            }
        }
    }

    private static void weightGiven() {
        Check.at("promise 13: months, words, sort of the CHILD, how, moves, picture, the least and the greatest");
        Counted x = new Counted();
        StringBuilder moved = new StringBuilder("come 0;put 0 0 0;");
        for (int i = 0; i < 22; i++) {
            moved.append("move 0 0 ").append(i % 4).append(';');
        }
        Check.scene(x, 3, moved.toString());
        x.question(0, 0, 0, 0, -1);
        x.question(3, 1, 0, 0, -1);
        x.child(0, 0, 0, 0);
        x.child(0, 120, 9, 1);
        Check.law(x, 0, "rule 0 months-21;rule 1 words;rule 2 how;rule 3 moves;rule 4 sort;rule 5 picture;");
        int[] least = {0, 0, 0, 0, 0, 0};
        int[] greatest = {99, 9, 3, 23, 1, 1};
        for (int rule = 0; rule < 6; rule++) {
            Check.due("the least " + rule, x.weight(0, 0, 0, rule), least[rule]);
            Check.due("the greatest " + rule, x.weight(1, 1, 3, rule), greatest[rule]);
        }
        Check.due("moves of the same SCENE in a LOOK", x.weight(0, 0, 3, 3), 0);
        // Acts that came to nothing are no MOVES; those of all THINGS count.
        Check.scene(x, 0, "come 0;move 0 0 1;put 1 0 1;put 0 0 1;put 0 0 2;put 0 1 1;move 0 1 1;put 0 2 0;tell 0 1 0 1;");
        Check.due("four MOVES", x.weight(0, 0, 0, 3), 4);
    }

    // ================= ANSWERS

    private static void askRefused() {
        Check.at("promise 14: NONE - 1, and no DRAW, if one can't be");
        Edge on = new Edge(Given::filled);
        on.outside("child", 0, 2, (x, n) -> x.ask(n, 0, 0), -2);
        on.outside("question", 0, 3, (x, n) -> x.ask(0, n, 0), -2);
        on.outside("how", 0, 3, (x, n) -> x.ask(0, 0, n), -2);
        on.outside("child, all else the greatest", 0, 2, (x, n) -> x.ask(n, 3, 3), -2);
        on.outside("question, all else the greatest", 0, 3, (x, n) -> x.ask(2, n, 3), -2);
        on.outside("how, all else the greatest", 0, 3, (x, n) -> x.ask(2, 3, n), -2);
        new Edge(x -> Given.questions(x, 1)).refused("without CHILDREN", x -> x.ask(0, 0, 0), -2);
        new Edge(x -> Given.children(x, 1)).refused("without QUESTIONS", x -> x.ask(0, 0, 0), -2);
    }

    private static void askFull() {
        Check.at("promise 14: NONE - 1, and no DRAW, if there are 300 ANSWERS");
        Edge full = new Edge(x -> {
            Given.filled(x);
            Given.answers(x, 296);
        });
        full.answers("300", x -> x.look(2), 300);
        full.refused("the 301st", x -> x.ask(0, 0, 0), -2);
        full.refused("the 301st, by no RULE", x -> x.ask(1, 3, 3), -2);
        Counted x = new Counted();
        Given.questions(x, 1);
        Given.children(x, 1);
        Given.answers(x, 299);
        x.state(5);
        Check.due("the 300th", x.ask(0, 0, 0), Given.drawn(Given.stateBehind(5), 4));
        int state = x.look(5);
        Check.due("two DRAWS", state, Given.stateBehind(Given.stateBehind(5)));
        Check.due("the 301st", x.ask(0, 0, 0), -2);
        Check.due("no DRAW", x.look(5), state);
        Check.due("300", x.look(2), 300);
        // Gone back to an IMAGE that has fewer, there is room again.
        x.image(true);
        Check.due("still full", x.ask(0, 0, 0), -2);
    }

    /** Lets the next DRAW be of the highest 24 bits told. */
    private static void drawNext(Counted x, int bits) {
        x.state(Given.stateAhead(bits << 8));
    }

    private static void askSums() {
        Check.at("promise 14: the first RULE for which the sum up to it, it included, is above the DRAW");
        // FIRST alone says 0, all others 1: each one's RULE is told by answer().
        int[] weights = {2, 0, 3, 1, 0, 0, 4, 1};
        int[] due = {0, 0, 2, 2, 2, 3, 6, 6, 6, 6, 7};
        Counted x = new Counted();
        Check.scene(x, 0, Given.FIRST_ALONE);
        x.question(0, 0, 0, 0, -1);
        x.child(0, 0, 0, 0);
        StringBuilder law = new StringBuilder();
        for (int rule = 0; rule < 8; rule++) {
            law.append("rule ").append(rule).append(' ').append(weights[rule]).append(';');
        }
        Check.law(x, 0, law.toString());
        int told = 0;
        for (int d : new int[] {0, 1, 2, 4, 5, 6, 9, 10, 11, 21, 11 * 1525201, 11 * 1525201 - 1, 0xffffff}) {
            drawNext(x, d);
            int rule = due[d % 11];
            Check.due("DRAW " + d, x.ask(0, 0, 0), rule == 7 ? 0 : 1);
            Check.due("its RULE by " + d, x.answer(told, 4), rule);
            told++;
        }
        // One WEIGHT of 1: a DRAW of 1 is 0. The greatest WEIGHTS: 792 together.
        Check.law(x, 0, "rule 7 1;");
        drawNext(x, 0xffffff);
        Check.due("of 1", x.ask(0, 0, 0), 0);
        Check.due("FIRST", x.answer(told, 4), 7);
        told++;
        StringBuilder most = new StringBuilder();
        for (int rule = 0; rule < 8; rule++) {
            most.append("rule ").append(rule).append(" 9999;");
        }
        Check.law(x, 0, most.toString());
        for (int d : new int[] {0, 98, 99, 197, 198, 692, 693, 791, 792, 890, 891}) {
            drawNext(x, d);
            int rule = d % 792 / 99;
            Check.due("of 792: " + d, x.ask(0, 0, 0), rule == 7 ? 0 : 1);
            Check.due("its RULE by " + d, x.answer(told, 4), rule);
            told++;
        }
    }

    private static void askPull() {
        Check.at("promise 14: a DRAW of 100: if that is below PULL, it is PULLED: the answer is THERE");
        for (int pull : new int[] {0, 1, 50, 99, 100, 101}) {
            Counted x = new Counted();
            Check.scene(x, 0, Given.FIRST_ALONE);
            x.question(0, 0, 0, 0, -1);
            x.child(0, 0, 0, 0);
            x.child(1, 0, 0, 0);
            Check.law(x, 0, "rule 7 1;pull " + pull + ";");
            Check.law(x, 1, "pull " + pull + ";");
            int told = 0;
            for (int d : new int[] {0, 1, 49, 50, 98, 99}) {
                // The second DRAW is this one; the first is whatever comes ahead of it.
                int second = (700 + d) << 8;
                int first = Given.stateAhead(second);
                boolean pulled = d < pull;
                x.state(Given.stateAhead(first));
                Check.due("PULL " + pull + ", DRAW " + d, x.ask(0, 0, 0), pulled ? 1 : 0);
                Check.due("RULE", x.answer(told, 4), 7);
                Check.due("PULLED", x.answer(told, 5), pulled ? 1 : 0);
                Check.due("STATE", x.look(5), second);
                told++;
                // Without WEIGHTS, too: a BOX by the first DRAW, by no RULE.
                x.state(Given.stateAhead(first));
                Check.due("by no RULE", x.ask(1, 0, 0), pulled ? 1 : Given.drawn(first, 4));
                Check.due("no RULE", x.answer(told, 4), -1);
                Check.due("PULLED", x.answer(told, 5), pulled ? 1 : 0);
                told++;
            }
        }
    }

    private static void askNone() {
        Check.at("promise 14: an answer of NONE is kept, by a RULE, and PULLED to a THING AT none");
        Counted x = new Counted();
        x.question(0, 0, 0, 0, -1);
        x.child(0, 0, 0, 0);
        x.child(1, 0, 0, 0);
        Check.law(x, 0, "rule 7 1;");
        Check.law(x, 1, "pull 100;");
        Check.due("FIRST of nothing", x.ask(0, 0, 3), -1);
        Check.due("PULLED to none", x.ask(1, 0, 3), -1);
        Check.due("both are kept", x.look(2), 2);
        int[][] due = {{0, 0, 3, -1, 7, 0}, {1, 0, 3, -1, -1, 1}};
        for (int what = 0; what < 6; what++) {
            Check.due("the first " + what, x.answer(0, what), due[0][what]);
            Check.due("the second " + what, x.answer(1, what), due[1][what]);
        }
    }

    private static void toldRefused() {
        Check.at("promise 15: NONE if one can't be (a BOX or NONE)");
        Edge on = new Edge(Given::filled);
        on.outside("child", 0, 2, (x, n) -> x.told(n, 0, 0, 0), -1);
        on.outside("question", 0, 3, (x, n) -> x.told(0, n, 0, 0), -1);
        on.outside("how", 0, 3, (x, n) -> x.told(0, 0, n, 0), -1);
        on.outside("box", -1, 3, (x, n) -> x.told(0, 0, 0, n), -1);
        on.outside("child, all else the greatest", 0, 2, (x, n) -> x.told(n, 3, 3, 3), -1);
        on.outside("question, all else the greatest", 0, 3, (x, n) -> x.told(2, n, 3, 3), -1);
        on.outside("how, all else the greatest", 0, 3, (x, n) -> x.told(2, 3, n, 3), -1);
        on.outside("box, all else the greatest", -1, 3, (x, n) -> x.told(2, 3, 3, n), -1);
        on.answers("NONE", x -> x.told(0, 0, 0, -1), 5);
        on.answers("the greatest", x -> x.told(2, 3, 3, 3), 5);
        new Edge(x -> Given.questions(x, 1)).refused("without CHILDREN", x -> x.told(0, 0, 0, 0), -1);
        new Edge(x -> Given.children(x, 1)).refused("without QUESTIONS", x -> x.told(0, 0, 0, 0), -1);
    }

    private static void toldFull() {
        Check.at("promise 15: NONE if there are 300");
        Edge full = new Edge(x -> {
            Given.filled(x);
            Given.answers(x, 296);
        });
        full.refused("the 301st", x -> x.told(0, 0, 0, 0), -1);
        full.refused("the 301st, NONE", x -> x.told(2, 3, 3, -1), -1);
        Edge nearly = new Edge(x -> {
            Given.filled(x);
            Given.answers(x, 295);
        });
        nearly.answers("the 300th", x -> x.told(0, 0, 0, 0), 300);
        Counted x = new Counted();
        Given.filled(x);
        Check.due("told", x.told(0, 0, 0, 0), 5);
        Check.due("no DRAW", x.look(5), -5);
    }

    private static void answerRefused() {
        Check.at("promise 16: NONE - 1 if there is none such, or another what");
        Edge on = new Edge(Given::filled);
        on.outside("answer", 0, 3, (x, n) -> x.answer(n, 0), -2);
        on.outside("what", 0, 5, (x, n) -> x.answer(0, n), -2);
        on.outside("what of the last", 0, 5, (x, n) -> x.answer(3, n), -2);
        new Edge(Counted::calls).outside("without ANSWERS", 0, -1, (x, n) -> x.answer(n, 0), -2);
        Edge full = new Edge(x -> {
            Given.questions(x, 1);
            Given.children(x, 1);
            Given.answers(x, 300);
        });
        full.outside("answer of 300", 0, 299, (x, n) -> x.answer(n, 3), -2);
        full.refused("the last of 300", x -> x.answer(299, 3), 299 % 5 - 1);
        full.refused("the first of 300", x -> x.answer(0, 3), -1);
    }

    private static void answerEdges() {
        Check.at("promise 16: of the least and the greatest CHILD, QUESTION, HOW and BOX");
        Counted x = new Counted();
        Given.questions(x, 12);
        Given.children(x, 40);
        x.told(39, 11, 3, 3);
        x.told(0, 0, 0, -1);
        x.told(0, 11, 3, 0);
        int[][] due = {{39, 11, 3, 3, -1, 0}, {0, 0, 0, -1, -1, 0}, {0, 11, 3, 0, -1, 0}};
        for (int i = 0; i < 3; i++) {
            for (int what = 0; what < 6; what++) {
                Check.due("answer(" + i + ", " + what + ")", x.answer(i, what), due[i][what]);
            }
        }
    }

    private static void chanceRefused() {
        Check.at("promise 17: NONE if one can't be");
        Edge on = new Edge(Given::filled);
        on.outside("law", 0, 3, (x, n) -> x.chance(n, 0, 0, 0, 0), -1);
        on.outside("child", 0, 2, (x, n) -> x.chance(0, n, 0, 0, 0), -1);
        on.outside("question", 0, 3, (x, n) -> x.chance(0, 0, n, 0, 0), -1);
        on.outside("how", 0, 3, (x, n) -> x.chance(0, 0, 0, n, 0), -1);
        on.outside("box", -1, 3, (x, n) -> x.chance(0, 0, 0, 0, n), -1);
        on.outside("law, all else the greatest", 0, 3, (x, n) -> x.chance(n, 2, 3, 3, 3), -1);
        on.outside("child, all else the greatest", 0, 2, (x, n) -> x.chance(3, n, 3, 3, 3), -1);
        on.outside("question, all else the greatest", 0, 3, (x, n) -> x.chance(3, 2, n, 3, 3), -1);
        on.outside("how, all else the greatest", 0, 3, (x, n) -> x.chance(3, 2, 3, n, 3), -1);
        on.outside("box, all else the greatest", -1, 3, (x, n) -> x.chance(3, 2, 3, 3, n), -1);
        new Edge(x -> Given.questions(x, 1)).refused("without CHILDREN", x -> x.chance(0, 0, 0, 0, 0), -1);
        new Edge(x -> Given.children(x, 1)).refused("without QUESTIONS", x -> x.chance(0, 0, 0, 0, 0), -1);
    }

    private static void chances(Counted x, String what, int... due) {
        for (int box = -1; box < 4; box++) {
            Check.due(what + ", " + box, x.chance(0, 0, 0, 0, box), due[box + 1]);
        }
    }

    private static void chanceEdges() {
        Check.at("promise 17: CHANCE without WEIGHTS, with no PULL, with all, of all WEIGHTS");
        Counted x = new Counted();
        Check.scene(x, 0, Given.FIRST_ALONE);
        x.question(0, 0, 0, 0, -1);
        x.child(1, 0, 0, 0);
        chances(x, "an empty LAW", 0, 250, 250, 250, 250);
        Check.law(x, 0, "pull 100;");
        chances(x, "PULL 100 without WEIGHTS", 0, 0, 1000, 0, 0);
        Check.law(x, 0, "pull 1;");
        chances(x, "PULL 1 without WEIGHTS", 0, 247, 99 * 10 / 4 + 10, 247, 247);
        Check.law(x, 0, "pull 99;");
        chances(x, "PULL 99 without WEIGHTS", 0, 2, (1 + 99 * 4) * 10 / 4, 2, 2);
        Check.law(x, 0, "rule 7 1;");
        chances(x, "FIRST alone", 0, 1000, 0, 0, 0);
        Check.law(x, 0, "rule 7 1;pull 100;");
        chances(x, "PULL 100", 0, 0, 1000, 0, 0);
        Check.law(x, 0, "rule 7 1;pull 99;");
        chances(x, "PULL 99", 0, 10, 990, 0, 0);
        Check.law(x, 0, "rule 0 99;rule 1 99;rule 2 99;rule 3 99;rule 4 99;rule 5 99;rule 6 99;rule 7 1;");
        chances(x, "1 of 694", 0, 1, 998, 0, 0);
        Check.law(x, 0, "rule 0 99;rule 1 99;rule 2 99;rule 3 99;rule 4 99;rule 5 99;rule 6 99;rule 7 99;pull 1;");
        chances(x, "99 of 792 and PULL 1", 0, 99 * 99 * 10 / 792, (99 * 693 + 792) * 10 / 792, 0, 0);
        Check.at("promise 17: CHANCE of NONE, of a THING that is nowhere");
        Check.scene(x, 0, "");
        Check.law(x, 0, "");
        chances(x, "an empty LAW", 0, 250, 250, 250, 250);
        Check.law(x, 0, "pull 40;");
        chances(x, "PULL to none", 400, 150, 150, 150, 150);
        Check.law(x, 0, "rule 3 2;");
        chances(x, "all say NONE", 1000, 0, 0, 0, 0);
    }

    // ================= what parts RULES

    private static void partedRefused() {
        Check.at("promise 18: NONE if one can't be (the same)");
        Edge on = new Edge(Given::filled);
        on.outside("a", 0, 7, (x, n) -> x.parted(n, 0), -1);
        on.outside("b", 0, 7, (x, n) -> x.parted(0, n), -1);
        on.outside("a beside the greatest", 0, 7, (x, n) -> x.parted(n, 7), -1);
        on.outside("b beside the greatest", 0, 7, (x, n) -> x.parted(7, n), -1);
        for (int rule : Edge.upTo(8)) {
            on.refused("the same " + rule, x -> x.parted(rule, rule), -1);
        }
        on.refused("RIGHT is no RULE", x -> x.parted(8, 9), -1);
    }

    private static void partedEdges() {
        Check.at("promise 18: without QUESTIONS, by the first, by the twelfth, by all twelve");
        Counted x = new Counted();
        Check.due("without QUESTIONS", x.parted(0, 7), 0);
        Check.scene(x, 0, Given.FIRST_ALONE);
        for (int q = 0; q < 12; q++) {
            x.question(0, 0, 0, 0, -1);
            Check.due("by " + (q + 1), x.parted(7, 0), (1 << q + 1) - 1);
            Check.due("by none", x.parted(1, 0), 0);
        }
        Counted y = new Counted();
        Check.scene(y, 0, Given.FIRST_ALONE);
        for (int q = 0; q < 12; q++) {
            y.question(q == 11 ? 0 : 1, 0, 0, 0, -1);
        }
        Check.due("by the twelfth", y.parted(0, 7), 2048);
        Check.due("by none", y.parted(0, 1), 0);
    }

    private static void fewestRefused() {
        Check.at("promise 19: NONE if one can't be (a set of RULES 1 .. 255)");
        Edge on = new Edge(Given::filled);
        on.outside("rules", 1, 255, (x, n) -> x.fewest(n), -1);
        on.refused("257 has RULE 0, but one that is none", x -> x.fewest(257), -1);
        on.refused("-255", x -> x.fewest(-255), -1);
        on.refused("a set without any", x -> x.fewest(0), -1);
    }

    private static void fewestEdges() {
        Check.at("promise 19: NONE if there is none; without couples no QUESTION is needed");
        Counted x = new Counted();
        for (int many = 0; many < 2; many++) {
            for (int rule = 0; rule < 8; rule++) {
                Check.due("one RULE " + rule, x.fewest(1 << rule), 0);
            }
            Check.due("two RULES, none parts them", x.fewest(3), -1);
            Check.due("all", x.fewest(255), -1);
            x.question(0, 0, 0, 0, -1);
        }
        Counted y = new Counted();
        Check.scene(y, 0, Given.FIRST_ALONE);
        for (int q = 0; q < 12; q++) {
            y.question(q == 11 ? 0 : 1, 0, 0, 0, -1);
        }
        Check.due("the twelfth alone", y.fewest(1 + 128), 2048);
        Check.due("one couple that none parts", y.fewest(1 + 2 + 128), -1);
        Check.at("promise 19: all couples of all eight RULES, the last one, too");
        Counted last = new Counted();
        Check.scene(last, 0, "come 0;come 1;put 0 0 3;move 0 0 2;tell 0 1 0 3;leave 1;move 0 0 0;move 0 0 1;");
        Check.scene(last, 1, Given.FIRST_ALONE);
        last.question(0, 0, 0, 0, 1);
        last.question(0, 0, 1, 0, 0);
        // 1 1 1 1 1 3 3 3 and 1 3 2 - 0 1 3 3: SECOND and FIRST alone are alike.
        Check.due("6 and 7 alike", last.fewest(255), -1);
        Check.due("without 7", last.fewest(127), 3);
        Check.due("without 6", last.fewest(191), 3);
        last.question(1, 0, 0, 0, -1);
        Check.due("one more for them", last.fewest(255), 7);
        Check.due("one alone for them", last.fewest(64 + 128), 4);
        Check.at("promise 19: of several the least as a number");
        Counted z = new Counted();
        Check.scene(z, 0, Given.FIRST_ALONE);
        for (int q = 0; q < 12; q++) {
            z.question(0, 0, 0, 0, -1);
        }
        Check.due("the first of twelve", z.fewest(1 + 128), 1);
    }

    private static void makeRefused() {
        Check.at("promise 20: NONE if one can't be, or there is none");
        Edge on = new Edge(Given::filled);
        on.outside("question", 0, 3, (x, n) -> x.make(n, 0, 1), -1);
        on.outside("a", 0, 7, (x, n) -> x.make(0, n, 1), -1);
        on.outside("a, beside THERE", 0, 7, (x, n) -> x.make(0, n, 0), -1);
        on.outside("b", 0, 7, (x, n) -> x.make(0, 1, n), -1);
        on.outside("question, all else the greatest", 0, 3, (x, n) -> x.make(n, 7, 6), -1);
        for (int rule : Edge.upTo(8)) {
            on.refused("the same " + rule, x -> x.make(0, rule, rule), -1);
        }
        on.refused("parted already", x -> x.make(0, 0, 1), 0);
        on.refused("nobody HERE who could", x -> x.make(1, 0, 7), -1);
        on.refused("an act is found, and not kept", x -> x.make(3, 7, 0), 100 + 36 + 8 + 1);
        new Edge(Counted::calls).refused("without QUESTIONS", x -> x.make(0, 0, 1), -1);
    }

    private static void makeEdges() {
        Check.at("promise 20: come W, leave W, move W T B, in this order, by numbers");
        // The only one HERE moves the only THING there is; AT 0, the first move that parts FIRST is to 1.
        for (int w = 0; w < 4; w++) {
            for (int thing = 0; thing < 3; thing++) {
                for (int box = 0; box < 4; box++) {
                    Counted x = new Counted();
                    Check.scene(x, 0, "come " + w + ";put " + w + " " + thing + " " + box + ";");
                    x.question(0, 0, w, thing, -1);
                    Check.due("by " + w + ", " + thing + " AT " + box, x.make(0, 7, 0),
                            100 + 12 * w + 4 * thing + (box == 0 ? 1 : 0));
                    Check.due("two RULES that are one here", x.make(0, 1, 0), -1);
                    Check.due("the SCENE stays", x.after(0, thing, w, 5), 1);
                }
            }
        }
        Check.at("promise 20: NONE if there is none: nobody HERE, nothing AT a BOX");
        Counted x = new Counted();
        Check.scene(x, 1, "come 0;put 0 0 0;leave 0;");
        Check.scene(x, 2, "come 0;come 1;come 2;come 3;");
        x.question(0, 0, 0, 0, -1);
        x.question(1, 0, 0, 0, -1);
        x.question(2, 0, 0, 0, 1);
        for (int q = 0; q < 3; q++) {
            for (int a = 0; a < 8; a++) {
                for (int b = 0; b < 8; b++) {
                    Check.due("make(" + q + ", " + a + ", " + b + ")", x.make(q, a, b), -1);
                }
            }
        }
    }

    private static void makeFull() {
        Check.at("promise 20: NONE if SCENE has 24 acts");
        String put = "come 0;put 0 0 0;";
        for (int acts : new int[] {2, 3, 22, 23, 24}) {
            Counted x = new Counted();
            Check.due("acts", Check.scene(x, 0, put + "come 0;".repeat(acts - 2)), acts);
            x.question(0, 0, 0, 0, -1);
            Check.due("with " + acts, x.make(0, 7, 0), acts < 24 ? 101 : -1);
            // Parted already: come 0 would be the 25th act, too.
            Check.scene(x, 0, put + "move 0 0 1;" + "come 0;".repeat(Math.max(0, acts - 3)));
            Check.due("parted already, with " + acts, x.make(0, 7, 0), acts < 24 ? 0 : -1);
        }
    }
}
