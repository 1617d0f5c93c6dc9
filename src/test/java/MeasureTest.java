/** Promises 21 to 24 and 29 to 32: what is counted of CHILDREN, ANSWERS and LAWS. */
public final class MeasureTest {
    private static final int[] BAD = {-2, 9, 50, Integer.MIN_VALUE, Integer.MAX_VALUE};

    private MeasureTest() {
    }

    public static void main(String[] args) {
        odds();
        need();
        pulls();
        beside();
        sorts();
        curve();
        turn();
        score();
        next();
        Check.close();
    }

    /**
     * Questions, what the RULES say to them, RIGHT, and 1 if they TELL something:
     * 0 a look:    2 1 1 1 1 2 1 1, 1, 1
     * 1 a picture: 2 1 1 1 1 2 1 1, 1, 1
     * 2 a look:    2 2 2 2 2 1 1 1, 2, 0
     * 3 a look:    2 3 1 1 1 2 3 1, 3, 1
     * 4 a picture of nothing: 2 - - - 1 2 - 1, -, 1
     * 5 a look for what is nowhere: - - - - - - - -, -, 0
     * 6 a picture taken last: 2 2 2 2 1 2 2 1, 2, 0
     */
    private static Counted seven() {
        Counted x = new Counted();
        Check.scene(x, 0, "come 0;come 1;put 0 0 1;snap 0;leave 0;move 1 0 2;");
        Check.scene(x, 1, "come 0;come 1;put 0 0 1;leave 0;move 1 0 2;come 0;tell 1 0 0 3;snap 1;");
        x.question(0, 0, 0, 0, -1);
        x.question(0, 1, 0, 0, -1);
        x.question(0, 0, 1, 0, 0);
        x.question(1, 0, 0, 0, 1);
        x.question(0, 1, 1, 0, -1);
        x.question(0, 0, 0, 1, -1);
        x.question(1, 1, 1, 0, -1);
        return x;
    }

    private static void odds() {
        Check.at("promise 21");
        Counted x = seven();
        for (int i = 0; i < 4; i++) {
            x.child(0, 40 + 6 * i, 1, 0);
        }
        for (int r = 0; r < 8; r++) {
            Check.due("none asked", x.odds(0, r), 125);
        }
        Check.due("none asked, the least", x.odds(0, 8), 0);
        x.told(0, 0, 0, 1);
        // 9 for 1 2 3 4 6 7, 1 for 0 5: 56 together.
        Check.due("1", x.odds(0, 1), 160);
        Check.due("7", x.odds(0, 7), 160);
        Check.due("0", x.odds(0, 0), 17);
        Check.due("5", x.odds(0, 5), 17);
        Check.due("its rule", x.odds(0, 8), 1);
        x.told(1, 0, 0, 0);
        x.told(0, 3, 3, 3);
        // 81 for 1 6, 9 for 2 3 4 7, 1 for 0 5: 200 together.
        Check.due("1", x.odds(0, 1), 405);
        Check.due("6", x.odds(0, 6), 405);
        Check.due("2", x.odds(0, 2), 45);
        Check.due("0", x.odds(0, 0), 5);
        Check.due("its rule", x.odds(0, 8), 1);
        Check.due("by no rule at all", x.odds(1, 4), 125);
        // NONE said counts as any other answer: 9 for 1 2 3 6.
        x.told(2, 4, 0, -1);
        Check.due("NONE", x.odds(2, 6), 225);
        Check.due("NONE", x.odds(2, 0), 25);
        // First twelve alone.
        for (int i = 0; i < 12; i++) {
            x.told(3, 3, 0, 3);
        }
        for (int i = 0; i < 30; i++) {
            x.told(3, 3, 0, 2);
        }
        Check.due("twelve", x.odds(3, 6), 499);
        Check.due("twelve", x.odds(3, 0), 0);
        Check.due("its rule", x.odds(3, 8), 1);
        x.child(0, 2, 1, 0);
        for (int i = 0; i < 14; i++) {
            x.told(4, 3, 0, i < 6 ? 3 : 2);
        }
        // Six times 3 for 1 6, six times 2 for 0 5; the 13th and the 14th do not count.
        Check.due("six and six", x.odds(4, 1), 249);
        Check.due("six and six", x.odds(4, 0), 249);
        Check.due("six and six", x.odds(4, 8), 0);
        Check.scene(x, 1, "come 0;put 0 0 2;move 0 0 3;");
        Check.due("a SCENE as it is when asked", x.odds(3, 0), 199);
        for (int b : BAD) {
            Check.due("child " + b, x.odds(b, 0), -1);
            Check.due("rule " + b, x.odds(0, b), -1);
        }
        Check.due("child 5", x.odds(5, 0), -1);
        Check.due("child -1", x.odds(-1, 0), -1);
        Check.due("rule -1", x.odds(0, -1), -1);
        Counted y = seven();
        y.child(0, 1, 1, 1);
        for (int q : new int[] {3, 0, 3, 2}) {
            y.told(0, q, 1, y.says(q, 6));
        }
        Check.due("the sixth", y.odds(0, 8), 6);
    }

    private static void need() {
        Check.at("promise 22");
        Counted x = new Counted();
        Check.due("without questions", x.need(7, 125), 0);
        Check.due("without questions", x.need(7, 126), -1);
        x = seven();
        // Rule 1: 125; 9/56: 160; 81/488: 165; 729/3088: 236; 6561/9568: 685; then rules 1 2 3 6 keep up.
        int[][] due = {{1, 0}, {125, 0}, {126, 1}, {160, 1}, {161, 2}, {165, 2}, {166, 3}, {236, 3}, {237, 4},
            {685, 4}};
        for (int[] d : due) {
            Check.due("need(1, " + d[0] + ")", x.need(1, d[0]), d[1]);
        }
        // Rule 0: 9/24: 375; 81/168: 482.
        Check.due("need(0, 375)", x.need(0, 375), 1);
        Check.due("need(0, 376)", x.need(0, 376), 2);
        Check.due("need(0, 482)", x.need(0, 482), 2);
        Check.due("need(0, 483)", x.need(0, 483), 3);
        Check.due("need(0, 1000)", x.need(0, 1000), -1);
        int[] bad = {-1, 8, Integer.MIN_VALUE, Integer.MAX_VALUE};
        for (int b : bad) {
            Check.due("rule " + b, x.need(b, 1), -1);
        }
        int[] badOdds = {0, -1, 1001, Integer.MIN_VALUE, Integer.MAX_VALUE};
        for (int b : badOdds) {
            Check.due("odds " + b, x.need(0, b), -1);
        }
        // Twelve of one kind: rules 0 and 5 stay alike, 482 is not reached before two, 499 at last.
        Counted y = new Counted();
        Check.scene(y, 0, "come 0;come 1;put 0 0 1;snap 0;leave 0;move 1 0 2;");
        for (int i = 0; i < 12; i++) {
            y.question(0, 0, 0, 0, -1);
        }
        Check.due("499", y.need(0, 499), 4);
        Check.due("500", y.need(0, 500), -1);
    }

    private static void pulls() {
        Check.at("promise 23");
        Counted x = seven();
        for (int what = 0; what < 5; what++) {
            Check.due("none " + what, x.pulls(-1, what), what < 2 ? 0 : -1);
        }
        x.child(0, 1, 1, 0);
        x.told(0, 1, 0, 2);
        x.told(0, 2, 0, 2);
        x.told(0, 5, 0, -1);
        Check.due("pictures and what tells nothing do not count", x.pulls(-1, 0), 0);
        int[] boxes = {2, 1, 2, 2, 0, 1, -1, 2, 1, 1};
        for (int i = 0; i < boxes.length; i++) {
            x.told(0, i % 2 == 0 ? 0 : 3, i < 5 ? 1 : 2, boxes[i]);
        }
        // How 1: 5 answers, 3 THERE, root 2. How 2: 5 answers, 1 THERE. All: 10 answers, 4 THERE, root 3.
        int[] one = {5, 3, 600, 100, 1000};
        int[] two = {5, 1, 200, 0, 700};
        int[] all = {10, 4, 400, 67, 733};
        for (int what = 0; what < 5; what++) {
            Check.due("pulls(1, " + what + ")", x.pulls(1, what), one[what]);
            Check.due("pulls(2, " + what + ")", x.pulls(2, what), two[what]);
            Check.due("pulls(-1, " + what + ")", x.pulls(-1, what), all[what]);
            Check.due("pulls(3, " + what + ")", x.pulls(3, what), what < 2 ? 0 : -1);
        }
        for (int b : BAD) {
            Check.due("how " + b, x.pulls(b, 0), -1);
            Check.due("what " + b, x.pulls(1, b), -1);
        }
        Check.due("how 4", x.pulls(4, 0), -1);
        Check.due("what 5", x.pulls(1, 5), -1);
        Check.due("what -1", x.pulls(1, -1), -1);
        for (int i = 0; i < 6; i++) {
            x.told(0, 0, 0, 3);
        }
        Check.due("root of 16", x.pulls(-1, 4), 250 + 250);
        Counted y = seven();
        y.child(0, 1, 1, 0);
        y.told(0, 0, 1, 2);
        Check.due("the first", y.pulls(1, 2), 1000);
        y.told(0, 0, 1, 2);
        y.told(0, 0, 1, 1);
        Check.due("two of three", y.pulls(1, 2), 666);
        // Asked ones count as told ones.
        Check.law(x, 0, "pull 100;");
        x.ask(0, 0, 3);
        Check.due("asked", x.pulls(3, 1), 1);
    }

    private static void beside() {
        Check.at("promise 24");
        Counted x = seven();
        for (int i = 0; i < 12; i++) {
            x.child(0, 1, 1, 0);
        }
        for (int what = 0; what < 5; what++) {
            Check.due("none " + what, x.beside(what), 0);
        }
        // Look alone counts for none; pictures alone neither.
        x.told(0, 0, 0, 1);
        x.told(1, 1, 0, 1);
        x.told(1, 2, 0, 2);
        x.told(0, 6, 0, 2);
        Check.due("both asked by none", x.beside(0) + x.beside(1) + x.beside(2) + x.beside(3), 0);
        for (int c = 2; c < 5; c++) {
            x.told(c, 0, 0, 1);
            x.told(c, 1, 0, 1);
        }
        x.told(5, 4, 0, 1);
        x.told(5, 3, 0, 2);
        int[] due = {3, 0, 0, 1, 1};
        for (int what = 0; what < 5; what++) {
            Check.due("beside(" + what + ")", x.beside(what), due[what]);
        }
        // The last one counts: 4 looks wrongly now; what tells nothing changes nothing.
        x.told(4, 3, 0, 1);
        x.told(4, 2, 0, 0);
        int[] due2 = {2, 0, 1, 1, 1};
        for (int what = 0; what < 5; what++) {
            Check.due("beside(" + what + ")", x.beside(what), due2[what]);
        }
        x.told(3, 4, 0, 2);
        x.told(3, 6, 0, 2);
        int[] due3 = {1, 1, 1, 1, 0};
        for (int what = 0; what < 5; what++) {
            Check.due("beside(" + what + ")", x.beside(what), due3[what]);
        }
        x.told(3, 4, 0, -1);
        Check.due("right is NONE", x.beside(0), 2);
        x.told(6, 0, 0, 0);
        x.told(6, 1, 0, 1);
        Check.due("two of five", x.beside(4), 0);
        for (int b : BAD) {
            Check.due("what " + b, x.beside(b), -1);
        }
        Counted y = seven();
        y.child(0, 1, 1, 0);
        y.told(0, 0, 0, 1);
        y.told(0, 1, 0, 1);
        Check.due("the first child", y.beside(0), 1);
        Check.due("one that passes both", y.beside(4), 1);
        y.told(0, 1, 0, 0);
        Check.due("look alone", y.beside(1), 1);
        Check.due("one that passes one alone", y.beside(4), 0);
        for (int c = 1; c < 4; c++) {
            y.child(0, 1, 1, 0);
            y.told(c, 0, 0, 0);
            y.told(c, 1, 0, 0);
            Check.due("one of " + (c + 1), y.beside(4), c < 3 ? 0 : 1);
        }
        y.told(3, 0, 0, 1);
        y.told(3, 1, 0, 1);
        Check.due("one of four: the sum of all", y.beside(4), 1);
        y.child(0, 1, 1, 0);
        y.told(4, 0, 0, 0);
        y.told(4, 1, 0, 1);
        Check.due("two of five", y.beside(4), 0);
        Check.due("what 5", x.beside(5), -1);
        Check.due("what -1", x.beside(-1), -1);
    }

    private static void sorts() {
        Check.at("promise 29");
        Counted x = seven();
        int[] sort = {0, 0, 0, 1, 1, 1};
        for (int s : sort) {
            x.child(0, 1, 1, s);
        }
        x.told(0, 0, 0, 2); // fails, by 0
        x.told(1, 0, 0, 1); // passes
        x.told(2, 1, 0, 2); // has no look that tells something
        x.told(2, 2, 0, 0);
        x.told(3, 3, 0, 1); // fails, by 2: 2 3 4 7 say so
        x.told(4, 0, 0, 2); // fails, then passes
        x.told(4, 3, 0, 3);
        x.told(5, 0, 0, 1); // passes, then fails, by 0 at last
        x.told(5, 3, 0, 2);
        x.told(5, 1, 0, 2);
        Check.due("sorts(0, 8)", x.sorts(0, 8), 1);
        Check.due("sorts(1, 8)", x.sorts(1, 8), 2);
        int[] of0 = {1, 0, 0, 0, 0, 0, 0, 0};
        int[] of1 = {1, 0, 1, 0, 0, 0, 0, 0};
        for (int r = 0; r < 8; r++) {
            Check.due("sorts(0, " + r + ")", x.sorts(0, r), of0[r]);
            Check.due("sorts(1, " + r + ")", x.sorts(1, r), of1[r]);
        }
        for (int b : BAD) {
            Check.due("sort " + b, x.sorts(b, 0), -1);
            Check.due("rule " + b, x.sorts(0, b), -1);
        }
        Check.due("sort 2", x.sorts(2, 0), -1);
        Check.due("sort -1", x.sorts(-1, 8), -1);
        Check.due("rule -1", x.sorts(0, -1), -1);
    }

    private static void curve() {
        Check.at("promise 30");
        Counted x = seven();
        int[] months = {0, 5, 6, 11, 12, 120, 119};
        for (int m : months) {
            x.child(0, m, 1, 0);
        }
        for (int c = 0; c < 7; c++) {
            x.told(c, 0, 0, 1);
            x.told(c, 3, 0, c % 2 == 0 ? 3 : 1);
            x.told(c, 1, 0, 1);
            x.told(c, 2, 0, 2);
        }
        x.told(5, 3, 0, -1);
        int[][] due = {{0, 4, 3}, {1, 4, 3}, {2, 2, 2}, {3, 0, 0}, {19, 2, 2}, {20, 3, 1}};
        for (int[] d : due) {
            Check.due("curve(" + d[0] + ", 0)", x.curve(d[0], 0), d[1]);
            Check.due("curve(" + d[0] + ", 1)", x.curve(d[0], 1), d[2]);
        }
        Check.due("turn", x.curve(-1, 0), -1);
        for (int b : new int[] {-2, 21, Integer.MIN_VALUE, Integer.MAX_VALUE}) {
            Check.due("step " + b, x.curve(b, 0), -2);
            Check.due("what " + b, x.curve(0, b), -2);
            Check.due("what of TURN " + b, x.curve(-1, b), -2);
        }
        Check.due("what 2", x.curve(0, 2), -2);
        Check.due("what -1", x.curve(0, -1), -2);
    }

    private static void turn() {
        Check.at("promise 30, TURN");
        Counted x = seven();
        Check.due("none", x.curve(-1, 0), -1);
        for (int s = 0; s <= 20; s++) {
            x.child(0, 6 * s, 1, 0);
        }
        x.told(20, 0, 0, 1);
        Check.due("20", x.curve(-1, 0), 20);
        x.told(4, 0, 0, 1);
        Check.due("4", x.curve(-1, 1), 4);
        x.told(9, 0, 0, 2);
        Check.due("9 is not so", x.curve(-1, 0), 20);
        x.told(9, 0, 0, 1);
        Check.due("half of 9", x.curve(-1, 0), 4);
        x.told(0, 3, 0, 3);
        Check.due("the very first", x.curve(-1, 0), 0);
        x.told(20, 0, 0, 2);
        x.told(20, 0, 0, 2);
        Check.due("the last is not so", x.curve(-1, 0), -1);
    }

    private static void score() {
        Check.at("promise 31");
        Counted x = seven();
        Check.due("no answers", x.score(3), 0);
        Check.due("no answers", x.score(-1), 0);
        x.child(3, 40, 1, 0);
        x.child(3, 60, 1, 0);
        // Question 3: 2 3 1 1 1 2 3 1.
        Check.law(x, 0, "rule 1 1;");
        Check.law(x, 1, "rule 1 1;rule 0 3;");
        Check.law(x, 2, "rule 1 1 when months>50;rule 0 1 when not months>50;");
        x.told(0, 3, 0, 3);
        // 1000: 90 and 488 * 10 / 512. 250: 70 and 122 * 10 / 128.
        Check.due("1000", x.score(0), 99);
        Check.due("250", x.score(1), 79);
        Check.due("0", x.score(2), -50);
        Check.due("by box", x.score(3), 79);
        Check.due("best", x.score(-1), 0);
        x.told(1, 3, 0, 3);
        Check.due("as of that child", x.score(2), -50 + 99);
        x.told(0, 3, 0, 2);
        Check.due("1000 1000 0", x.score(0), 99 + 99 - 50);
        // 750: 90 and 238 * 10 / 512.
        Check.due("250 250 750", x.score(1), 79 + 79 + 94);
        Check.due("best", x.score(-1), 1);
        Check.law(x, 0, "rule 1 1;rule 0 3;");
        Check.due("of several the least", x.score(-1), 0);
        // How counts, too; the first two answers leave -100 behind.
        Check.law(x, 3, "rule 0 1 when how=2;rule 1 5 when how=0;rule 0 5 when how=0;");
        Check.due("500 500 500", x.score(3), 3 * (80 + 244 * 10 / 256));
        x.told(0, 3, 2, 1);
        Check.due("how 2: 0", x.score(3), 3 * 89 - 50);
        Counted y = seven();
        y.child(0, 40, 1, 0);
        y.told(0, 3, 0, 3);
        // 1000 / 792: 1; 2000 / 694: 2; 3: 3000 / 795; 4 to 8 likewise.
        Check.law(y, 0, "rule 1 1;rule 0 99;rule 2 99;rule 3 99;rule 4 99;rule 5 99;rule 7 99;rule 6 0;");
        Check.due("c 1", y.chance(0, 0, 3, 0, 3), 1);
        Check.due("level of 1", y.score(0), 0);
        Check.law(y, 0, "rule 1 2;rule 0 99;rule 2 99;rule 3 99;rule 4 99;rule 5 99;rule 7 99;");
        Check.due("c 3", y.chance(0, 0, 3, 0, 3), 3);
        Check.due("level of 3", y.score(0), 15);
        Check.law(y, 0, "rule 1 1;rule 0 99;rule 2 99;rule 3 99;rule 4 99;rule 5 4;");
        Check.due("c 2", y.chance(0, 0, 3, 0, 3), 2);
        Check.due("level of 2", y.score(0), 10);
        for (int b : BAD) {
            Check.due("law " + b, y.score(b), -1000000);
        }
        Check.due("law 4", y.score(4), -1000000);
        Check.due("law -2", y.score(-2), -1000000);
    }

    private static void next() {
        Check.at("promise 32");
        Counted x = new Counted();
        x.child(0, 40, 1, 0);
        Check.due("without questions", x.next(0, 1, 0, 0, 0), -1);
        Check.due("without questions", x.next(0, 1, 0, 0, 1), -1);
        x = seven();
        Check.due("without children", x.next(0, 1, 0, 0, 0), -1);
        x.child(3, 40, 1, 0);
        Check.due("alike: the least", x.next(0, 1, 0, 0, 0), 0);
        Check.due("alike", x.next(0, 1, 0, 0, 1), 0);
        Check.law(x, 0, "rule 1 1;");
        Check.law(x, 1, "rule 2 1;rule 1 1 when how=1;");
        Check.law(x, 2, "rule 4 1;");
        // 1 and 2 part question 3 alone.
        Check.due("question 3", x.next(0, 1, 0, 0, 0), 3);
        Check.due("wholly apart", x.next(0, 1, 0, 0, 1), 2000);
        Check.due("half apart", x.next(0, 1, 0, 1, 1), 1000);
        Check.due("asked how 3", x.next(0, 1, 0, 3, 1), 2000);
        // 1 and 4 part 3, 4 (NONE against 1) and 6.
        Check.due("of several the least", x.next(0, 2, 0, 0, 0), 3);
        Check.due("either way", x.next(2, 0, 0, 0, 0), 3);
        Check.due("far", x.next(2, 0, 0, 0, 1), 2000);
        // 2 and 4 part 4 first, NONE counts as an answer.
        Check.due("NONE", x.next(1, 2, 0, 0, 0), 4);
        Check.due("NONE", x.next(1, 2, 0, 0, 1), 2000);
        // Without lines: 250 each: from 1000 of one box 750 and three times 250; from NONE 1000 and all.
        Check.due("without lines", x.next(0, 3, 0, 0, 0), 4);
        Check.due("without lines", x.next(0, 3, 0, 0, 1), 2000);
        Check.due("the same law", x.next(1, 1, 0, 0, 1), 0);
        Check.due("the same law", x.next(1, 1, 0, 0, 0), 0);
        for (int b : BAD) {
            Check.due("one " + b, x.next(b, 0, 0, 0, 0), -1);
            Check.due("two " + b, x.next(0, b, 0, 0, 0), -1);
            Check.due("child " + b, x.next(0, 1, b, 0, 0), -1);
            Check.due("how " + b, x.next(0, 1, 0, b, 0), -1);
            Check.due("what " + b, x.next(0, 1, 0, 0, b), -1);
        }
        Check.due("one 4", x.next(4, 1, 0, 0, 0), -1);
        Check.due("two -1", x.next(0, -1, 0, 0, 0), -1);
        Check.due("child 1", x.next(0, 1, 1, 0, 0), -1);
        Check.due("how 4", x.next(0, 1, 0, 4, 0), -1);
        Check.due("how -1", x.next(0, 1, 0, -1, 0), -1);
        Check.due("what 2", x.next(0, 1, 0, 0, 2), -1);
        Check.due("what -1", x.next(0, 1, 0, 0, -1), -1);
    }
}
