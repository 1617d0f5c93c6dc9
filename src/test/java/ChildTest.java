/** Promises 10 to 20: QUESTIONS, RULES, CHILDREN, ANSWERS, CHANCES, and what parts RULES. */
public final class ChildTest {
    /** 0 puts the thing into 1, leaves; 1 moves it to 2. A picture was taken between. */
    private static final String MOVED = "come 0;come 1;put 0 0 1;snap 0;leave 0;move 1 0 2;";
    /** As it was, but 0 is back and was told that it is in 3, by 1 who knows better. */
    private static final String TOLD = "come 0;come 1;put 0 0 1;leave 0;move 1 0 2;come 0;tell 1 0 0 3;";

    private ChildTest() {
    }

    public static void main(String[] args) {
        question();
        says();
        saysAsItIs();
        child();
        weight();
        arithmetic();
        ask();
        askNone();
        told();
        answer();
        chance();
        parted();
        fewest();
        make();
        Check.close();
    }

    private static Counted two() {
        Counted x = new Counted();
        Check.scene(x, 0, MOVED);
        Check.scene(x, 1, TOLD);
        return x;
    }

    private static void question() {
        Check.at("promise 10");
        Counted x = two();
        int[] bad = {Integer.MIN_VALUE, -2, 8, Integer.MAX_VALUE};
        for (int b : bad) {
            Check.due("scene " + b, x.question(b, 0, 0, 0, -1), -1);
            Check.due("sort " + b, x.question(0, b, 0, 0, -1), -1);
            Check.due("w " + b, x.question(0, 0, b, 0, -1), -1);
            Check.due("thing " + b, x.question(0, 0, 0, b, -1), -1);
            Check.due("v " + b, x.question(0, 0, 0, 0, b), -1);
            Check.due("picture " + b, x.question(0, 1, b, 0, -1), -1);
            Check.due("thing of a picture " + b, x.question(0, 1, 0, b, -1), -1);
        }
        Check.due("scene -1", x.question(-1, 0, 0, 0, -1), -1);
        Check.due("sort 2", x.question(0, 2, 0, 0, -1), -1);
        Check.due("sort -1", x.question(0, -1, 0, 0, -1), -1);
        Check.due("w 4", x.question(0, 0, 4, 0, -1), -1);
        Check.due("w -1", x.question(0, 0, -1, 0, -1), -1);
        Check.due("thing 3", x.question(0, 0, 0, 3, -1), -1);
        Check.due("thing -1", x.question(0, 0, 0, -1, -1), -1);
        Check.due("v 4", x.question(0, 0, 0, 0, 4), -1);
        Check.due("v is w", x.question(0, 0, 2, 0, 2), -1);
        Check.due("picture 2", x.question(0, 1, 2, 0, -1), -1);
        Check.due("picture -1", x.question(0, 1, -1, 0, -1), -1);
        Check.due("none came", x.look(0), 0);
        Check.due("first", x.question(0, 0, 0, 0, -1), 0);
        Check.due("of an empty scene", x.question(7, 0, 3, 2, 2), 1);
        Check.due("picture, v not asked", x.question(0, 1, 1, 2, 99), 2);
        Check.due("picture, v as the picture", x.question(0, 1, 1, 2, 1), 3);
        for (int i = 4; i < 12; i++) {
            Check.due("number " + i, x.question(0, 0, 0, 0, 1), i);
        }
        Check.due("the 13th", x.question(0, 0, 0, 0, 1), -1);
        Check.due("twelve", x.look(0), 12);
    }

    private static void saysAll(Counted x, int q, int... due) {
        for (int rule = 0; rule < due.length; rule++) {
            Check.due("says(" + q + ", " + rule + ")", x.says(q, rule), due[rule]);
        }
    }

    private static void says() {
        Check.at("promise 11");
        Counted x = two();
        x.question(0, 0, 0, 0, -1);
        x.question(0, 0, 0, 0, 1);
        x.question(0, 1, 0, 0, -1);
        x.question(0, 0, 1, 0, 0);
        x.question(1, 0, 0, 0, 1);
        x.question(1, 0, 1, 0, 0);
        x.question(0, 1, 1, 0, -1);
        x.question(5, 0, 0, 1, 2);
        //         THERE HELD LAST PUT WRONG OWN SECOND FIRST RIGHT TELLS
        saysAll(x, 0, 2, 1, 1, 1, 1, 2, 1, 1, 1, 1);
        saysAll(x, 1, 2, 1, 1, 1, 1, 2, 1, 1, 1, 1);
        saysAll(x, 2, 2, 1, 1, 1, 1, 2, 1, 1, 1, 1);
        saysAll(x, 3, 2, 2, 2, 2, 2, 1, 1, 1, 2, 0);
        saysAll(x, 4, 2, 3, 1, 1, 1, 2, 3, 1, 3, 1);
        saysAll(x, 5, 2, 2, 2, 2, 2, 3, 3, 1, 2, 0);
        saysAll(x, 6, 2, -1, -1, -1, 1, 2, -1, 1, -1, 1);
        saysAll(x, 7, -1, -1, -1, -1, -1, -1, -1, -1, -1, 0);
        int[] bad = {-1, 10, Integer.MIN_VALUE, Integer.MAX_VALUE};
        for (int b : bad) {
            Check.due("rule " + b, x.says(0, b), -2);
            Check.due("question " + b, x.says(b, 0), -2);
        }
        Check.due("question 8", x.says(8, 0), -2);
        Counted z = new Counted();
        Check.scene(z, 2, "come 0;put 0 1 2;put 0 2 3;snap 1;move 0 1 0;");
        z.question(2, 1, 1, 1, -1);
        z.question(2, 1, 1, 2, -1);
        z.question(2, 1, 0, 2, -1);
        saysAll(z, 0, 0, 2, 2, 2, 2, 0, 2, 2, 2, 1);
        saysAll(z, 1, 3, 3, 3, 3, -1, 3, 3, 3, 3, 0);
        saysAll(z, 2, 3, -1, -1, -1, -1, 3, -1, 3, -1, 1);
        // 0 moves it last: all rules but WRONG, which turns only for one who did not see.
        Counted y = new Counted();
        Check.scene(y, 3, "come 0;come 1;put 1 2 0;move 0 2 3;leave 0;move 1 2 1;leave 1;come 0;lift 0 1;");
        y.question(3, 0, 0, 2, 1);
        y.question(3, 0, 1, 2, -1);
        saysAll(y, 0, 1, 1, 1, 3, 1, 1, 3, 0, 1, 0);
        saysAll(y, 1, 1, 1, 1, 1, 1, 1, 1, 0, 1, 0);
    }

    private static void saysAsItIs() {
        Check.at("promise 11, a SCENE as it is when asked");
        Counted x = two();
        x.question(0, 0, 0, 0, -1);
        x.question(1, 0, 0, 0, -1);
        Check.due("another scene", Check.scene(x, 0, "come 0;put 0 0 3;"), 2);
        saysAll(x, 0, 3, 3, 3, 3, 3, 3, 3, 3, 3, 0);
        Check.due("the other question", x.says(1, 1), 3);
        Check.due("a fault", Check.scene(x, 0, "come 0;put 0 0 2;x"), -1);
        Check.due("as it was", x.says(0, 0), 3);
    }

    private static void child() {
        Check.at("promise 12");
        Counted x = new Counted();
        int[][] bad = {{4, 0, 0, 0}, {-1, 0, 0, 0}, {0, -1, 0, 0}, {0, 121, 0, 0}, {0, 0, -1, 0}, {0, 0, 10, 0},
            {0, 0, 0, -1}, {0, 0, 0, 2}, {0, Integer.MAX_VALUE, 0, 0}, {Integer.MIN_VALUE, 0, 0, 0}};
        for (int[] b : bad) {
            Check.due("child", x.child(b[0], b[1], b[2], b[3]), -1);
        }
        Check.due("none", x.look(1), 0);
        for (int i = 0; i < 40; i++) {
            Check.due("child " + i, x.child(i % 4, 3 * i, i % 10, i % 2), i);
        }
        Check.due("the greatest months", x.child(3, 120, 9, 1), -1);
        Check.due("forty", x.look(1), 40);
        Counted y = new Counted();
        Check.due("the edges", y.child(3, 120, 9, 1), 0);
        Check.due("the edges", y.child(0, 0, 0, 0), 1);
    }

    private static void weight() {
        Check.at("promise 13");
        Counted x = two();
        x.question(0, 0, 0, 0, -1);
        x.question(0, 1, 0, 0, -1);
        Check.law(x, 1, "rule 3 5 when months<48;rule 3 7;rule 3 9;rule 0 100;rule 1 0-5;rule 2 99;"
                + "pull 101;pull 7;");
        Check.law(x, 2, "rule 0 months;rule 1 words;rule 2 how;rule 3 moves;rule 4 sort+1;rule 5 picture;"
                + "rule 6 5 when picture=1;pull months-words when sort=0;");
        int a = x.child(1, 47, 3, 0);
        int b = x.child(1, 48, 3, 0);
        int c = x.child(2, 60, 7, 1);
        int d = x.child(2, 61, 8, 0);
        Check.due("first line that is so", x.weight(a, 0, 0, 3), 5);
        Check.due("the next one", x.weight(b, 0, 0, 3), 7);
        Check.due("cut to 99", x.weight(a, 0, 0, 0), 99);
        Check.due("cut to 0", x.weight(a, 0, 0, 1), 0);
        Check.due("99", x.weight(a, 0, 0, 2), 99);
        Check.due("no line", x.weight(a, 0, 0, 4), 0);
        Check.due("pull cut to 100", x.weight(a, 0, 0, 8), 100);
        Check.due("months", x.weight(c, 0, 2, 0), 60);
        Check.due("words", x.weight(c, 0, 2, 1), 7);
        Check.due("how", x.weight(c, 0, 2, 2), 2);
        Check.due("how 3", x.weight(c, 0, 3, 2), 3);
        Check.due("moves", x.weight(c, 0, 2, 3), 2);
        Check.due("sort", x.weight(c, 0, 2, 4), 2);
        Check.due("sort", x.weight(d, 0, 2, 4), 1);
        Check.due("picture", x.weight(c, 0, 2, 5), 0);
        Check.due("picture", x.weight(c, 1, 2, 5), 1);
        Check.due("when picture", x.weight(c, 0, 2, 6), 0);
        Check.due("when picture", x.weight(c, 1, 2, 6), 5);
        Check.due("pull of no line that is so", x.weight(c, 0, 0, 8), 0);
        Check.due("pull", x.weight(d, 0, 0, 8), 53);
        Check.scene(x, 0, "come 0;put 0 0 1;put 0 1 1;put 0 1 2;move 0 2 0;move 0 0 3;");
        Check.due("moves of all things, none that came to nothing", x.weight(c, 0, 2, 3), 3);
        Check.scene(x, 0, "come 0;put 0 2 1;move 0 2 1;");
        Check.due("moves of another thing", x.weight(c, 0, 2, 3), 2);
        int[] bad = {-1, 4, Integer.MIN_VALUE, Integer.MAX_VALUE};
        for (int n : bad) {
            Check.due("child " + n, x.weight(n, 0, 0, 0), -1);
            Check.due("question " + n, x.weight(0, n == 4 ? 2 : n, 0, 0), -1);
            Check.due("how " + n, x.weight(0, 0, n, 0), -1);
            Check.due("rule " + n, x.weight(0, 0, 0, n == 4 ? 9 : n), -1);
        }
    }

    private static void amount(Counted x, String e, int due) {
        Check.due("read " + e, Check.law(x, 0, "pull " + e + ";"), 1);
        Check.due(e, x.weight(0, 0, 0, 8), due);
    }

    private static void so(Counted x, String b, boolean due) {
        Check.due("read " + b, Check.law(x, 0, "pull 1 when " + b + ";"), 1);
        Check.due(b, x.weight(0, 0, 0, 8), due ? 1 : 0);
    }

    private static void arithmetic() {
        Check.at("promise 13, E and B");
        Counted x = new Counted();
        x.question(0, 0, 0, 0, -1);
        x.child(0, 36, 5, 1);
        amount(x, "2+3*4", 14);
        amount(x, "2*3+4", 10);
        amount(x, "20-3-4", 13);
        amount(x, "20-3+4", 21);
        amount(x, "20-12/4/3*2+1", 19);
        amount(x, "7/2*2", 6);
        amount(x, "2*7/2", 7);
        amount(x, "10-months/5", 3);
        amount(x, "0-7/2+5", 2);
        amount(x, "months*words-150", 30);
        so(x, "1<2", true);
        so(x, "2<1", false);
        so(x, "1<1", false);
        so(x, "1>1", false);
        so(x, "2>1", true);
        so(x, "1>2", false);
        so(x, "1=1", true);
        so(x, "1=2", false);
        so(x, "1+1=2", true);
        so(x, "2=1+1", true);
        so(x, "1=1 or 1=1 and 1=2", true);
        so(x, "1=2 and 1=1 or 1=1", true);
        so(x, "1=2 and (1=1 or 1=1)", false);
        so(x, "(1=1 or 1=1) and 1=2", false);
        so(x, "1=2 or 1=2 or 1=1", true);
        so(x, "1=1 or 1=2 or 1=2", true);
        so(x, "1=2 or 1=1 or 1=2 and 1=2", true);
        so(x, "1=1 and 1=1 and 1=2", false);
        so(x, "not 1=2", true);
        so(x, "not not 1=2", false);
        so(x, "not 1=1 or 1=1", true);
        so(x, "not (1=1 or 1=1)", false);
        so(x, "not 1=2 and 1=2", false);
        so(x, "not (1=2 and 1=2)", true);
        so(x, "months>35 and months<37 and words=5 and sort=1", true);
        // The least int by * alone, and a part of it towards 0.
        so(x, "2048*1024*1024<0", true);
        so(x, "2048*1024*1024/3=0-7158*1000*100-2788*10-2", true);
        so(x, "2048*1024*1024-1>0", true);
        so(x, "2048*1024*1024*2=0", true);
        so(x, "9999*9999*9999>0", 9999 * 9999 * 9999 > 0);
    }

    /** The DRAWS, told anew. */
    private static int draw(int[] state, int m) {
        state[0] = 1664525 * state[0] + 1013904223;
        return (state[0] >>> 8) % m;
    }

    private static void ask() {
        Check.at("promise 14");
        Counted x = two();
        x.question(1, 0, 0, 0, 1);
        // says of question 0: 2 3 1 1 1 2 3 1
        Check.law(x, 0, "rule 1 30;rule 2 50;rule 5 20;pull 40;");
        x.child(0, 40, 1, 0);
        int[] state = {12345};
        x.state(12345);
        boolean[] seen = new boolean[16];
        for (int i = 0; i < 100; i++) {
            int d = draw(state, 100);
            int rule = d < 30 ? 1 : d < 80 ? 2 : 5;
            int box = rule == 1 ? 3 : rule == 2 ? 1 : 2;
            boolean pulled = draw(state, 100) < 40;
            Check.due("ask " + i, x.ask(0, 0, i % 4), pulled ? 2 : box);
            Check.due("rule", x.answer(i, 4), rule);
            Check.due("pulled", x.answer(i, 5), pulled ? 1 : 0);
            Check.due("state", x.look(5), state[0]);
            seen[rule] = true;
            seen[pulled ? 8 : 9] = true;
        }
        Counted y = two();
        y.question(0, 0, 0, 0, -1);
        Check.law(y, 1, "pull 50;");
        y.child(1, 40, 1, 0);
        y.state(state[0]);
        for (int i = 0; i < 100; i++) {
            int box = draw(state, 4);
            boolean pulled = draw(state, 100) < 50;
            Check.due("by no rule " + i, y.ask(0, 0, 0), pulled ? 2 : box);
            Check.due("rule", y.answer(i, 4), -1);
            Check.due("pulled", y.answer(i, 5), pulled ? 1 : 0);
            seen[10 + box] = true;
        }
        for (int k : new int[] {1, 2, 5, 8, 9, 10, 11, 12, 13}) {
            Check.due("every one was drawn " + k, seen[k], true);
        }
    }

    private static void askNone() {
        Check.at("promise 14, none");
        Counted x = two();
        x.question(0, 0, 0, 0, -1);
        x.question(2, 0, 0, 0, -1);
        x.child(0, 40, 1, 0);
        int[] bad = {-1, 4, Integer.MIN_VALUE, Integer.MAX_VALUE};
        for (int n : bad) {
            Check.due("child " + n, x.ask(n, 0, 0), -2);
            Check.due("question " + n, x.ask(0, n, 0), -2);
            Check.due("how " + n, x.ask(0, 0, n), -2);
        }
        Check.due("no draw", x.look(5), 0);
        Check.due("no answer", x.look(2), 0);
        // A rule may say NONE, and pulled one may answer NONE.
        Check.law(x, 0, "rule 1 5;");
        Check.due("held by none", x.ask(0, 1, 0), -1);
        Check.due("kept", x.answer(0, 3), -1);
        Check.due("by the rule", x.answer(0, 4), 1);
        Check.law(x, 0, "pull 100;");
        Check.due("pulled to none", x.ask(0, 1, 0), -1);
        Check.due("pulled", x.answer(1, 5), 1);
        for (int i = 2; i < 300; i++) {
            x.told(0, 0, 0, 0);
        }
        int was = x.look(5);
        Check.due("the 301st", x.ask(0, 0, 0), -2);
        Check.due("no draw", x.look(5), was);
        Check.due("300", x.look(2), 300);
    }

    private static void told() {
        Check.at("promise 15");
        Counted x = two();
        x.question(0, 0, 0, 0, -1);
        x.child(0, 40, 1, 0);
        int[] bad = {-1, 4, Integer.MIN_VALUE, Integer.MAX_VALUE};
        for (int n : bad) {
            Check.due("child " + n, x.told(n, 0, 0, 0), -1);
            Check.due("question " + n, x.told(0, n, 0, 0), -1);
            Check.due("how " + n, x.told(0, 0, n, 0), -1);
            Check.due("box " + n, x.told(0, 0, 0, n == -1 ? -2 : n), -1);
        }
        Check.due("none yet", x.look(2), 0);
        Check.due("NONE", x.told(0, 0, 3, -1), 1);
        Check.due("box 3", x.told(0, 0, 0, 3), 2);
        Check.due("no draw", x.look(5), 0);
        for (int i = 3; i <= 300; i++) {
            Check.due("told " + i, x.told(0, 0, 0, 0), i);
        }
        Check.due("told 301", x.told(0, 0, 0, 0), -1);
    }

    private static void answer() {
        Check.at("promise 16");
        Counted x = two();
        x.question(0, 0, 0, 0, -1);
        x.question(1, 0, 0, 0, -1);
        x.child(0, 40, 1, 0);
        x.child(0, 41, 2, 1);
        Check.law(x, 0, "rule 7 3;");
        x.told(1, 0, 2, 3);
        x.ask(0, 1, 3);
        int[] due = {1, 0, 2, 3, -1, 0};
        int[] due2 = {0, 1, 3, 1, 7, 0};
        for (int what = 0; what < 6; what++) {
            Check.due("answer(0, " + what + ")", x.answer(0, what), due[what]);
            Check.due("answer(1, " + what + ")", x.answer(1, what), due2[what]);
        }
        int[] bad = {-1, 2, Integer.MIN_VALUE, Integer.MAX_VALUE};
        for (int n : bad) {
            Check.due("answer " + n, x.answer(n, 0), -2);
            Check.due("what " + n, x.answer(0, n == 2 ? 6 : n), -2);
        }
        // It stays as it was given, whatever comes of the scene.
        Check.scene(x, 1, "");
        Check.due("kept", x.answer(1, 3), 1);
    }

    private static void chance() {
        Check.at("promise 17");
        Counted x = two();
        x.question(1, 0, 0, 0, 1);
        x.question(5, 0, 0, 0, -1);
        // says of question 0: 2 3 1 1 1 2 3 1
        Check.law(x, 0, "rule 1 3;rule 6 2;rule 2 1 when how=1;rule 5 2;pull months/2;");
        Check.law(x, 2, "pull 30;");
        x.child(3, 20, 1, 0);
        x.child(3, 200 / 2, 1, 0);
        Check.due("3", x.chance(0, 0, 0, 0, 3), 90 * 5 * 10 / 7);
        Check.due("2, where it is", x.chance(0, 0, 0, 0, 2), (90 * 2 + 10 * 7) * 10 / 7);
        Check.due("1", x.chance(0, 0, 0, 0, 1), 0);
        Check.due("1, asked how 1", x.chance(0, 0, 0, 1, 1), 90 * 10 / 8);
        Check.due("NONE", x.chance(0, 0, 0, 0, -1), 0);
        Check.due("of an older one", x.chance(0, 1, 0, 0, 3), 50 * 5 * 10 / 7);
        Check.due("without lines", x.chance(1, 0, 0, 0, 0), 250);
        Check.due("without lines, NONE", x.chance(1, 0, 0, 0, -1), 0);
        Check.due("pull without weights", x.chance(2, 0, 0, 0, 2), (70 + 30 * 4) * 10 / 4);
        Check.due("pull without weights", x.chance(2, 0, 0, 0, 1), 175);
        Check.due("pull to none", x.chance(2, 0, 1, 0, -1), 300);
        Check.due("all say none", x.chance(0, 0, 1, 0, -1), 1000);
        Check.due("its own law is not asked", x.weight(0, 0, 0, 8), 0);
        int[] bad = {-1, 4, Integer.MIN_VALUE, Integer.MAX_VALUE};
        for (int n : bad) {
            Check.due("law " + n, x.chance(n, 0, 0, 0, 0), -1);
            Check.due("child " + n, x.chance(0, n, 0, 0, 0), -1);
            Check.due("question " + n, x.chance(0, 0, n, 0, 0), -1);
            Check.due("how " + n, x.chance(0, 0, 0, n, 0), -1);
            Check.due("box " + n, x.chance(0, 0, 0, 0, n == -1 ? -2 : n), -1);
        }
        Check.due("no draw", x.look(5), 0);
    }

    private static void parted() {
        Check.at("promise 18");
        Counted x = two();
        Check.due("no questions", x.parted(0, 1), 0);
        x.question(0, 0, 0, 0, -1);
        x.question(1, 0, 0, 0, 1);
        x.question(1, 0, 1, 0, 0);
        x.question(0, 1, 1, 0, -1);
        // 0: 2 1 1 1 1 2 1 1   1: 2 3 1 1 1 2 3 1   2: 2 2 2 2 2 3 3 1   3: 2 - - - 1 2 - 1
        Check.due("0 1", x.parted(0, 1), 1 + 2 + 8);
        Check.due("1 0", x.parted(1, 0), 1 + 2 + 8);
        Check.due("0 5", x.parted(0, 5), 4);
        Check.due("1 2", x.parted(1, 2), 2);
        Check.due("2 3", x.parted(2, 3), 0);
        Check.due("4 7", x.parted(4, 7), 4);
        Check.due("6 7", x.parted(6, 7), 2 + 4 + 8);
        for (int r = 0; r < 8; r++) {
            Check.due("the same", x.parted(r, r), -1);
        }
        int[] bad = {-1, 8, Integer.MIN_VALUE, Integer.MAX_VALUE};
        for (int n : bad) {
            Check.due("a " + n, x.parted(n, 0), -1);
            Check.due("b " + n, x.parted(0, n), -1);
        }
    }

    private static void fewest() {
        Check.at("promise 19");
        Counted x = two();
        Check.due("one rule without questions", x.fewest(128), 0);
        Check.due("two without questions", x.fewest(3), -1);
        x.question(0, 0, 0, 0, -1);
        x.question(1, 0, 0, 0, 1);
        x.question(1, 0, 1, 0, 0);
        x.question(0, 1, 1, 0, -1);
        // 0: 2 1 1 1 1 2 1 1   1: 2 3 1 1 1 2 3 1   2: 2 2 2 2 2 3 3 1   3: 2 - - - 1 2 - 1
        Check.due("0 1", x.fewest(1 + 2), 1);
        Check.due("0 1 2", x.fewest(1 + 2 + 4), 2);
        Check.due("0 5", x.fewest(1 + 32), 4);
        Check.due("0 1 6: 1 and 6 by the third alone", x.fewest(1 + 2 + 64), 1 + 4);
        Check.due("0 1 4 7", x.fewest(1 + 2 + 16 + 128), 2 + 4);
        Check.due("2 3: none", x.fewest(4 + 8), -1);
        Check.due("all: none", x.fewest(255), -1);
        Check.due("one", x.fewest(16), 0);
        Check.due("the first alone", x.fewest(1), 0);
        int[] bad = {0, -1, 256, Integer.MIN_VALUE, Integer.MAX_VALUE};
        for (int n : bad) {
            Check.due("rules " + n, x.fewest(n), -1);
        }
        // Fewest before least: the last question alone parts all that the first two part together.
        Counted y = new Counted();
        Check.scene(y, 0, "come 0;come 1;put 0 0 1;leave 0;move 1 0 2;");
        Check.scene(y, 1, "come 0;come 1;put 0 0 1;move 1 0 2;");
        Check.scene(y, 2, TOLD);
        y.question(0, 0, 0, 0, -1);
        y.question(1, 0, 0, 0, -1);
        y.question(2, 0, 0, 0, -1);
        // 0: 2 1 1 1 1 2 1 1   1: 2 2 2 1 2 2 2 1   2: 2 3 1 1 1 2 3 1
        Check.due("0 1 3", y.fewest(1 + 2 + 8), 4);
        Check.due("0 1 2 3", y.fewest(1 + 2 + 4 + 8), 2 + 4);
        Check.due("0 2 3", y.fewest(1 + 4 + 8), 1 + 2);
        // All eight, each question needed:
        // 3 0 3 3 3 3 0 3   3 3 3 - 3 0 0 3   1 0 0 0 3 1 0 0   1 1 1 1 1 0 0 0
        Counted z = new Counted();
        Check.scene(z, 0, "come 0;come 1;put 0 0 3;tell 1 0 0 0;");
        Check.scene(z, 1, "come 0;come 1;put 0 0 0;leave 0;move 1 0 3;move 1 0 1;");
        z.question(0, 0, 0, 0, 1);
        z.question(0, 0, 1, 0, 0);
        z.question(1, 0, 0, 0, 1);
        Check.due("2 and 7 alike", z.fewest(255), -1);
        z.question(1, 0, 1, 0, 0);
        z.question(1, 0, 1, 0, 0);
        Check.due("all eight", z.fewest(255), 15);
        Check.due("5 6 7", z.fewest(32 + 64 + 128), 1 + 2);
    }

    private static void make() {
        Check.at("promise 20");
        Counted x = two();
        x.question(0, 0, 0, 0, -1);
        x.question(0, 0, 1, 0, 0);
        x.question(0, 1, 0, 0, -1);
        x.question(4, 0, 0, 0, -1);
        x.question(6, 0, 0, 1, -1);
        Check.due("parted already", x.make(0, 0, 1), 0);
        // 1 alone is here: 1 sees all its moves, 0 none. 1 moves it to 0: HELD 1, LAST 1.
        Check.due("nothing parts them", x.make(0, 1, 2), -1);
        Check.due("the same", x.make(0, 0, 0), -1);
        // FIRST is 1, WRONG is where it was ahead: behind any move of 1 it is 2.
        Check.due("move 1 0 0", x.make(0, 4, 7), 112);
        // SECOND of 0 by none is HELD; THERE and OWN of the picture are one.
        Check.due("picture", x.make(2, 0, 5), -1);
        Check.due("picture, FIRST and where it is in it", x.make(2, 7, 1), -1);
        Check.due("picture, ahead and in it", x.make(2, 4, 1), 112);
        // 1 who moves it, LAST and WRONG alike; by 0, who is away, OWN is 1 still.
        Check.due("parted already, v", x.make(1, 0, 5), 0);
        Check.due("OWN and FIRST: none", x.make(1, 5, 7), -1);
        Check.due("empty scene", x.make(3, 0, 7), -1);
        Check.scene(x, 6, "come 3;come 2;put 2 1 2;");
        // For 0, who is not here, all is NONE but THERE and FIRST; they part behind a move of 2 to 0.
        Check.due("move 2 1 0", x.make(4, 0, 7), 100 + 24 + 4);
        Check.scene(x, 6, "come 3;put 3 1 0;");
        Check.due("move 3 1 1", x.make(4, 0, 7), 100 + 36 + 4 + 1);
        Check.due("move 3 1 0 lets them say unlike", x.make(4, 0, 4), 0);
        Check.scene(x, 6, "come 0;put 0 1 0;");
        Check.due("move 0 1 0 does not", x.make(4, 4, 7), 105);
        Check.due("who sees all its moves", x.make(4, 0, 4), -1);
        Check.due("move 0 1 1", x.make(4, 0, 7), 105);
        Check.scene(x, 6, "come 1;put 1 1 0;move 1 1 1;come 0;");
        Check.due("move 0 1 0", x.make(4, 3, 0), 0);
        x.question(6, 0, 1, 1, -1);
        Check.due("move 0 1 0", x.make(5, 3, 0), 104);
        Check.scene(x, 6, "come 0;come 1;put 0 0 1;put 1 1 1;");
        x.question(6, 0, 0, 0, -1);
        Check.due("move 0 0 0", x.make(6, 1, 7), 100);
        Check.due("move 1 0 0", x.make(6, 1, 3), 112);
        Check.scene(x, 6, "come 0;come 1;wear 0 0;put 0 0 1;put 1 1 1;");
        Check.due("0 does not see 1 move it", x.make(6, 0, 1), 112);
        Check.scene(x, 6, "come 0;put 0 1 0;");
        StringBuilder full = new StringBuilder("come 0;put 0 1 0;");
        for (int i = 0; i < 21; i++) {
            full.append("come 0;");
        }
        Check.scene(x, 6, full.toString());
        Check.due("23 acts", x.make(4, 0, 7), 105);
        Check.scene(x, 6, full + "come 0;");
        Check.due("24 acts", x.make(4, 0, 7), -1);
        Check.due("the scene stays", x.after(6, 1, 0, 5), 1);
        Counted y = two();
        y.question(0, 0, 0, 0, 1);
        Check.due("SECOND stays FIRST", y.make(0, 6, 7), -1);
        Check.scene(y, 0, "come 0;come 1;wear 1 1;doff 1;put 1 0 1;wear 0 1;");
        Check.due("who has worn the clear one", y.make(0, 6, 0), -1);
        Check.scene(y, 0, "come 0;come 1;wear 1 0;doff 1;put 1 0 1;wear 0 1;");
        Check.due("who has worn the other one", y.make(0, 6, 0), 112);
        int[] bad = {-1, 8, Integer.MIN_VALUE, Integer.MAX_VALUE};
        for (int n : bad) {
            Check.due("question " + n, x.make(n, 0, 1), -1);
            Check.due("a " + n, x.make(0, n, 1), -1);
            Check.due("b " + n, x.make(0, 0, n), -1);
        }
        Check.due("question 7", x.make(7, 0, 1), -1);
    }
}
