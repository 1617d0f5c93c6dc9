/** The boundary cases that promises 1 to 6 name: STATE, the TAPE, TEXTS and their FAULTS. */
public final class EdgeTapeTest {
    /** Each act's KEYWORD, and how many there are of what its numbers tell. */
    private static final String[] ACTS = {"come", "leave", "put", "move", "tell", "lift", "wear", "doff", "snap"};
    private static final int[][] OF = {{4}, {4}, {4, 3, 4}, {4, 3, 4}, {4, 4, 3, 4}, {4, 4}, {4, 2}, {4}, {2}};

    private EdgeTapeTest() {
    }

    public static void main(String[] args) {
        newObject();
        newObjectBesideAnother();
        state();
        drawsWrap();
        feedFull();
        feedEdges();
        end();
        textRefused();
        textPlaces();
        textEmpty();
        textFull();
        textFaultKeeps();
        faultWhat();
        faultNone();
        tokens();
        endOfText();
        partsOfActs();
        partsOfLaws();
        acts25();
        lines17();
        open9();
        firstByPlace();
        Check.close();
    }

    private static void newObject() {
        Check.at("promise 1: no SCENES, no CHILDREN");
        for (int scene = 0; scene < 8; scene++) {
            Counted x = new Counted();
            for (int who = 0; who < 4; who++) {
                for (int thing = 0; thing < 3; thing++) {
                    for (int what = 0; what < 10; what++) {
                        Check.due("after", x.after(scene, thing, who, what), what == 4 || what == 5 ? 0 : -1);
                    }
                    for (int other = 0; other < 4; other++) {
                        Check.due("thinks", x.thinks(scene, who, other, thing), who == other ? -2 : -1);
                    }
                }
                for (int what = 0; what < 4; what++) {
                    Check.due("here", x.here(scene, who, what), 0);
                }
            }
        }
        Counted x = new Counted();
        Check.due("no CHILDREN", x.look(1), 0);
        Check.due("no first CHILD", x.odds(0, 0), -1);
        Check.due("no TAPE", x.end(1), false);
        Check.due("an empty TAPE", x.end(0), true);
        Check.due("no QUESTIONS to be parted by", x.parted(0, 7), 0);
        Check.due("all WAYS", x.way(24), 0);
        Check.due("no HOUSES", x.houses(0), -1);
        for (int law = 0; law < 4; law++) {
            Check.due("a CHILD of each LAW", x.child(law, 0, 0, 0), law);
        }
        Check.due("a QUESTION", x.question(0, 0, 0, 0, -1), 0);
        for (int law = 0; law < 4; law++) {
            for (int rule = 0; rule < 9; rule++) {
                Check.due("an empty LAW", x.weight(law, 0, 0, rule), 0);
            }
        }
    }

    private static void newObjectBesideAnother() {
        Check.at("promise 1: a new object has nothing of another one");
        Edge fresh = new Edge(x -> { });
        Edge later = new Edge(x -> Given.filled(new Counted()));
        fresh.answers("look", x -> x.look(1), 0);
        later.answers("look", x -> x.look(1), 0);
        later.answers("STATE", x -> x.look(5), 0);
        later.answers("says", x -> x.says(0, 0), -2);
        later.answers("after", x -> x.after(0, 0, 0, 0), -1);
        later.answers("TAPE", x -> x.end(1) ? 1 : 0, 0);
        later.answers("fault", x -> x.fault(0), 0);
        later.answers("image", x -> x.image(false) ? 1 : 0, 0);
    }

    private static void state() {
        Check.at("promise 2: STATE is told: what it was");
        Counted x = new Counted();
        int was = 0;
        for (int v : new int[] {Integer.MAX_VALUE, Integer.MIN_VALUE, -1, 1, 0, Integer.MAX_VALUE}) {
            Check.due("state(" + v + ")", x.state(v), was);
            Check.due("look(5)", x.look(5), v);
            was = v;
        }
    }

    private static void drawsWrap() {
        Check.at("promise 2: a DRAW wraps, and is its highest 24 bits without sign");
        Counted x = new Counted();
        x.question(0, 0, 0, 0, -1);
        x.child(0, 0, 0, 0);
        // The lowest 8 bits do not count: 0 .. 255 is a DRAW of 0.
        int[][] due = {{0, 0}, {255, 0}, {256, 1}, {1023, 3}, {1024, 0}, {0x7fffffff, 3}, {0x80000000, 0},
            {0x800001ff, 1}, {0xffffffff, 3}, {0xfffffeff, 2}};
        for (int[] d : due) {
            int first = d[0];
            x.state(Given.stateAhead(first));
            Check.due("the DRAW turned round", Given.stateBehind(Given.stateAhead(first)), first);
            Check.due("a BOX by STATE " + first, x.ask(0, 0, 0), d[1]);
            Check.due("two DRAWS", x.look(5), Given.stateBehind(first));
        }
        // From the greatest STATE and the least one: 1664525 (2^31 - 1) + 1013904223, and from 2^31.
        for (int v : new int[] {Integer.MAX_VALUE, Integer.MIN_VALUE, -1, 0}) {
            x.state(v);
            int next = Given.stateBehind(v);
            Check.due("from " + v, x.ask(0, 0, 0), Given.drawn(next, 4));
            Check.due("STATE behind " + v, x.look(5), Given.stateBehind(next));
        }
    }

    private static void feedFull() {
        Check.at("promise 3: NONE, and nothing comes, if there would be more than 500");
        for (int n : new int[] {481, 482, 499, 500}) {
            Edge on = new Edge(x -> Given.tapeOf(x, n));
            on.refused("feed at " + n, x -> x.feed(-1, 0x23232323, 0, 7, 0x3b3b3b3b), -1);
        }
        for (int n : new int[] {0, 1, 461, 479, 480}) {
            Edge on = new Edge(x -> Given.tapeOf(x, n));
            on.answers("feed at " + n, x -> x.feed(0, 0, 0, 0, 0), n + 20);
        }
        Counted x = new Counted();
        for (int i = 0; i < 25; i++) {
            x.feed(0x20202020, 0x20202020, 0x20202020, 0x20202020, 0x20202020);
        }
        for (int i = 0; i < 3; i++) {
            Check.due("refused again and again", x.feed(0, 0, 0, 0, 0), -1);
        }
        Check.due("500 blanks", x.text(0, 0), 0);
        Check.due("empty then", x.feed(0, 0, 0, 0, 0), 20);
    }

    private static void feedEdges() {
        Check.at("promise 3: twenty bytes, of each number the highest first");
        // Each byte alone is a sign that can't stand there: its place is told.
        for (int place = 0; place < 20; place++) {
            Counted x = new Counted();
            int[] n = new int[5];
            for (int i = 0; i < 20; i++) {
                n[i / 4] = n[i / 4] << 8 | (i == place ? 255 : 10);
            }
            Check.due("feed", x.feed(n[0], n[1], n[2], n[3], n[4]), 20);
            Check.due("text", x.text(0, 0), -1);
            Check.due("place", x.fault(1), place);
        }
        // No byte but a blank is passed over: 10 and 32.
        for (int b = 0; b < 256; b++) {
            Counted x = new Counted();
            int all = b << 24 | b << 16 | b << 8 | b;
            x.feed(all, all, all, all, all);
            boolean blank = b == 10 || b == 32;
            Check.due("twenty bytes " + b, x.text(b % 2, 0), blank ? 0 : -1);
            Check.due("fault of " + b, x.fault(0), blank ? 0 : 1);
            Check.due("place of " + b, x.fault(1), blank ? -1 : 0);
        }
    }

    private static void end() {
        Check.at("promise 4: false, changing nothing, if it has not so many, or n is below 0");
        for (int n : new int[] {0, 1, 7, 20, 499, 500}) {
            Edge on = new Edge(x -> Given.tapeOf(x, n));
            on.outside("end at " + n + ":", 0, n, (x, m) -> x.end(m) ? 1 : 0, 0);
            // As many as it has: true, and it stays as it was.
            on.refused("end of all " + n, x -> x.end(n) ? 1 : 0, 1);
            on.answers("end of none", x -> x.end(0) ? 1 : 0, 1);
        }
        new Edge(Given::filled).outside("end", 0, 7, (x, m) -> x.end(m) ? 1 : 0, 0);
        Check.at("promise 4: the TAPE has its first n bytes alone");
        Counted x = new Counted();
        Given.tapeOf(x, 500);
        for (int n = 499; n >= 7; n -= 4) {
            Check.due("end(" + n + ")", x.end(n), true);
            Check.due("end(" + (n + 1) + ") then", x.end(n + 1), false);
        }
        Check.due("the first seven", x.text(0, 0), 1);
        Check.due("the first seven", x.here(0, 2, 0), 1);
        Check.due("none is left", x.end(1), false);
    }

    private static void textRefused() {
        Check.at("promise 5: NONE: no such one (fault() tells 0), the TAPE is empty");
        Edge on = new Edge(Given::filled);
        for (int k : Edge.outside(0, 7)) {
            on.refusedText("text(0, " + k + ")", x -> x.text(0, k), 0, -1);
        }
        for (int k : Edge.outside(0, 3)) {
            on.refusedText("text(1, " + k + ")", x -> x.text(1, k), 0, -1);
        }
        for (int sort : Edge.outside(0, 1)) {
            on.refusedText("text(" + sort + ", 0)", x -> x.text(sort, 0), 0, -1);
            on.refusedText("text(" + sort + ", 3)", x -> x.text(sort, 3), 0, -1);
        }
        // Whatever the TAPE has, a FAULT too, it is no FAULT of a text that there is not.
        Edge spoiled = new Edge(x -> {
            Given.filled(x);
            Check.tape(x, "#;");
        });
        spoiled.refusedText("text(0, 8) with a sign that can't stand", x -> x.text(0, 8), 0, -1);
        spoiled.refusedText("text(1, 4) with a sign that can't stand", x -> x.text(1, 4), 0, -1);
        Edge empty = new Edge(Counted::calls);
        empty.refusedText("text(0, 8) of nothing", x -> x.text(0, 8), 0, -1);
        empty.refusedText("text(0, -1) of nothing", x -> x.text(0, -1), 0, -1);
    }

    private static void textPlaces() {
        Check.at("promise 5: SCENE k (k 0 .. 7) or LAW k (0 .. 3)");
        Counted x = new Counted();
        x.question(0, 0, 0, 0, -1);
        for (int k = 0; k < 8; k++) {
            Check.due("SCENE " + k, Check.scene(x, k, "come 0;put 0 0 " + k % 4 + ";"), 2);
        }
        for (int k = 0; k < 4; k++) {
            Check.due("LAW " + k, Check.law(x, k, "rule 0 " + (k + 5) + ";"), 1);
            x.child(k, 0, 0, 0);
        }
        for (int k = 0; k < 8; k++) {
            Check.due("SCENE " + k, x.after(k, 0, 0, 0), k % 4);
        }
        for (int k = 0; k < 4; k++) {
            Check.due("LAW " + k, x.weight(k, 0, 0, 0), k + 5);
        }
        for (int k = 0; k < 8; k += 7) {
            Check.scene(x, k, "come 3;");
            for (int other = 0; other < 8; other++) {
                boolean same = other != k && other != 0;
                Check.due("SCENE " + other + " beside " + k, x.after(other, 0, 0, 0), same ? other % 4 : -1);
            }
        }
        for (int k = 0; k < 4; k += 3) {
            Check.law(x, k, "pull 1;");
            for (int other = 0; other < 4; other++) {
                boolean same = other != k && other != 0;
                Check.due("LAW " + other + " beside " + k, x.weight(other, 0, 0, 0), same ? other + 5 : 0);
            }
        }
    }

    private static void textEmpty() {
        Check.at("promise 5: how many acts or lines, of an empty TAPE and of blanks alone");
        for (String nothing : new String[] {"", " ", "\n", " \n \n\n  "}) {
            Counted x = new Counted();
            Check.scene(x, 7, "come 0;put 0 0 1;");
            Check.law(x, 3, "rule 0 5;pull 7;");
            x.question(7, 0, 0, 0, -1);
            x.child(3, 0, 0, 0);
            Check.due("no acts", Check.scene(x, 7, nothing), 0);
            Check.due("no fault", x.fault(0), 0);
            Check.due("no place", x.fault(1), -1);
            Check.due("the SCENE is empty", x.after(7, 0, 0, 5), 0);
            Check.due("nobody is HERE", x.here(7, 0, 0), 0);
            Check.due("no lines", Check.law(x, 3, nothing), 0);
            Check.due("the LAW is empty", x.weight(0, 0, 0, 0), 0);
            Check.due("no PULL", x.weight(0, 0, 0, 8), 0);
        }
    }

    /** A line of 500 signs: less is taken from "first", and 1 is added as often as it takes. */
    private static String longLine(String first) {
        int ones = (500 - first.length() - 1) / 2;
        String line = first + "+1".repeat(ones);
        return line + " ".repeat(499 - line.length()) + ";";
    }

    private static void textFull() {
        Check.at("promise 5: a TAPE of 500, 24 acts, 16 lines");
        Counted x = new Counted();
        x.question(0, 0, 0, 0, -1);
        x.child(0, 0, 0, 0);
        String line = longLine("pull 0-200");
        Check.due("500 signs", line.length(), 500);
        Check.due("one line", Check.law(x, 0, line), 1);
        Check.due("0 - 200 + 244", x.weight(0, 0, 0, 8), 44);
        Check.due("one line", Check.law(x, 0, longLine("pull 9 when 241<1")), 1);
        Check.due("241 below 242", x.weight(0, 0, 0, 8), 9);
        Check.due("one line", Check.law(x, 0, longLine("pull 9 when 242<1")), 1);
        Check.due("242 not below 242", x.weight(0, 0, 0, 8), 0);
        String conditions = "pull 3 when " + "0<1 and ".repeat(60) + "0<1;";
        Check.due("61 conditions", Check.law(x, 0, conditions), 1);
        Check.due("all are so", x.weight(0, 0, 0, 8), 3);
        Check.due("and one that is not", Check.law(x, 0, conditions.replace("0<1;", "1<1;")), 1);
        Check.due("not all are so", x.weight(0, 0, 0, 8), 0);
        String act = "tell 3 2 2 3;";
        Check.due("24 of the longest acts", Check.scene(x, 0, act.repeat(24)), 24);
        StringBuilder lines = new StringBuilder();
        for (int i = 0; i < 16; i++) {
            lines.append("rule ").append(i % 8).append(' ').append(i + 1).append(" when how=").append(i / 8).append(';');
        }
        Check.due("16 lines", Check.law(x, 0, lines.toString()), 16);
        for (int rule = 0; rule < 8; rule++) {
            Check.due("one of the first eight", x.weight(0, 0, 0, rule), rule + 1);
            Check.due("one of the last eight", x.weight(0, 0, 1, rule), rule + 9);
            Check.due("none of both", x.weight(0, 0, 2, rule), 0);
        }
        // What was longer leaves nothing behind.
        Check.due("one line", Check.law(x, 0, "rule 7 2;"), 1);
        Check.due("the others are gone", x.weight(0, 0, 1, 6), 0);
        Check.due("the new one", x.weight(0, 0, 1, 7), 2);
        Check.due("24 acts", Check.scene(x, 0, "come 0;".repeat(23) + "come 3;"), 24);
        Check.due("the last one", x.here(0, 3, 0), 1);
        Check.due("one act", Check.scene(x, 0, "come 1;"), 1);
        Check.due("the last one is gone", x.here(0, 3, 0), 0);
    }

    private static void textFaultKeeps() {
        Check.at("promise 5: a FAULT (the TEXT stays as it was; the TAPE is empty)");
        String[] scenes = {"come 0;put 0 0 3;x", "x", "come 0", "come 4;", "tell 0 0 0 0;", "come 0;".repeat(25)};
        int[][] sceneFaults = {{1, 17}, {1, 0}, {1, 6}, {2, 5}, {2, 7}, {3, 168}};
        for (int i = 0; i < scenes.length; i++) {
            String text = scenes[i];
            Edge on = filledAnd(text);
            on.refusedText("SCENE 0 by " + text, x -> x.text(0, 0), sceneFaults[i][0], sceneFaults[i][1]);
            on.refusedText("SCENE 7 by " + text, x -> x.text(0, 7), sceneFaults[i][0], sceneFaults[i][1]);
        }
        String[] laws = {"rule 0 9;pull 100;x", "pull 1/0;", "rule 8 1;", "pull 1;".repeat(17), "rule 0 9",
            "pull 1 when (((((((((1=1)))))))));"};
        int[][] lawFaults = {{1, 18}, {2, 7}, {2, 5}, {3, 112}, {1, 8}, {3, 20}};
        for (int i = 0; i < laws.length; i++) {
            String text = laws[i];
            Edge on = filledAnd(text);
            on.refusedText("LAW 0 by " + text, x -> x.text(1, 0), lawFaults[i][0], lawFaults[i][1]);
            on.refusedText("LAW 3 by " + text, x -> x.text(1, 3), lawFaults[i][0], lawFaults[i][1]);
        }
        // A TEXT for the other sort has none of the KEYWORDS of this one.
        filledAnd("rule 0 1;").refusedText("a line in a SCENE", x -> x.text(0, 1), 1, 0);
        filledAnd("come 0;").refusedText("an act in a LAW", x -> x.text(1, 1), 1, 0);
    }

    private static Edge filledAnd(String text) {
        return new Edge(x -> {
            Given.filled(x);
            x.end(0);
            Check.tape(x, text);
        });
    }

    private static void faultWhat() {
        Check.at("promise 6: NONE for another what");
        new Edge(Given::filled).outside("fault", 0, 1, (x, n) -> x.fault(n), -1);
        new Edge(Counted::calls).outside("fault of none", 0, 1, (x, n) -> x.fault(n), -1);
    }

    private static void faultNone() {
        Check.at("promise 6: of the latest text(): 0 without a FAULT, its place NONE");
        Counted x = new Counted();
        noFault(x, "before any text");
        Check.scene(x, 0, "come 4;");
        fault(x, "a FAULT", 2, 5);
        x.feed(0, 0, 0, 0, 0);
        x.end(0);
        x.end(-1);
        fault(x, "no text came since", 2, 5);
        Check.scene(x, 0, "come 3;");
        noFault(x, "a good one");
        Check.law(x, 0, "pull 1/0;");
        fault(x, "another FAULT", 2, 7);
        x.text(0, 8);
        noFault(x, "no such SCENE");
        Check.law(x, 3, "come;");
        fault(x, "one at the very first place", 1, 0);
        x.text(2, 0);
        noFault(x, "no such sort");
        x.text(1, 0);
        noFault(x, "an empty one");
    }

    private static void fault(Counted x, String when, int what, int place) {
        Check.due(when + ", the FAULT", x.fault(0), what);
        Check.due(when + ", its place", x.fault(1), place);
    }

    private static void noFault(Counted x, String when) {
        fault(x, when, 0, -1);
    }

    /** A text of one sort, its answer, and its FAULT if that is NONE. */
    private static void read(int sort, String text, int due, int what, int place) {
        Counted x = new Counted();
        Check.tape(x, text);
        Check.due("text of " + text, x.text(sort, 0), due);
        fault(x, text, what, place);
        Check.due("an empty TAPE behind " + text, x.end(1), false);
    }

    private static void good(int sort, String text, int due) {
        read(sort, text, due, 0, -1);
    }

    private static void bad(int sort, String text, int what, int place) {
        read(sort, text, -1, what, place);
    }

    private static void tokens() {
        Check.at("promise 6, TOKENS: NUMBERS of 1 to 4 digits or none, KEYWORDS or none");
        good(0, "come 0;come 00;come 000;come 0000;", 4);
        bad(0, "come 00000;", 1, 5);
        bad(0, "come 00000000000000000000;", 1, 5);
        bad(0, "come 99999;", 1, 5);
        bad(0, "come 9999;", 2, 5);
        good(1, "pull 9999;pull 0;", 2);
        bad(1, "pull 10000;", 1, 5);
        bad(1, "pull 4294967296;", 1, 5);
        bad(1, "pull 1/00000;", 1, 7);
        // Digits of two NUMBERS do not stand together, whatever is between.
        bad(0, "come 0 0;", 1, 7);
        bad(0, "come 0\n0;", 1, 7);
        bad(1, "pull 99 99;", 1, 8);
        for (String word : new String[] {"come", "leave", "put", "move", "tell", "lift", "wear", "doff", "snap"}) {
            bad(0, word.toUpperCase() + " 0;", 1, 0);
            bad(0, word.substring(0, word.length() - 1) + " 0;", 1, 0);
            bad(0, word + "s 0;", 1, 0);
            bad(0, word.substring(1) + " 0;", 1, 0);
            bad(1, word + " 0;", 1, 0);
        }
        for (String word : new String[] {"rule", "pull", "when", "or", "and", "not", "months", "words", "how",
            "moves", "sort", "picture"}) {
            bad(0, word + " 0;", 1, 0);
            bad(0, "come " + word + ";", 1, 5);
        }
        for (String word : new String[] {"months", "words", "how", "moves", "sort", "picture"}) {
            good(1, "pull " + word + ";", 1);
            bad(1, "pull " + word.toUpperCase() + ";", 1, 5);
            bad(1, "pull " + word + "s;", 1, 5);
            bad(1, "pull " + word.substring(0, word.length() - 1) + ";", 1, 5);
            bad(1, word + " 1;", 1, 0);
            bad(1, "rule " + word + " 1;", 1, 5);
        }
        // A sign, a KEYWORD and a NUMBER end where another one begins.
        good(0, "come0;leave1;put2 2 3;snap1;", 4);
        good(1, "rule7months*2when(how<3)and not(sort=1)or words>moves;pull1;", 2);
        bad(0, "come 1e;", 1, 6);
        bad(1, "pull 1x;", 1, 6);
        bad(1, "pull 2months;", 1, 6);
        bad(1, "pull <1;", 1, 5);
    }

    private static void endOfText() {
        Check.at("promise 6: what can't stand there (the end: the text's length)");
        bad(0, "come", 1, 4);
        bad(0, "come 0", 1, 6);
        bad(0, "come 0   \n", 1, 10);
        bad(0, "  come", 1, 6);
        bad(0, "tell 0 1 2", 1, 10);
        bad(0, "snap", 1, 4);
        bad(1, "rule", 1, 4);
        bad(1, "rule 0", 1, 6);
        bad(1, "rule 0 1", 1, 8);
        bad(1, "pull 1 when", 1, 11);
        bad(1, "pull 1 when not", 1, 15);
        bad(1, "pull 1 when (", 1, 13);
        bad(1, "pull 1 when (1=1", 1, 16);
        bad(1, "pull 1 when 1=1 and", 1, 19);
        bad(1, "pull 1 when 1=1 or ", 1, 19);
        bad(1, "pull 1 when 1", 1, 13);
        bad(1, "pull 1 when 1<", 1, 14);
        bad(1, "pull 1+", 1, 7);
        bad(1, "pull 1*", 1, 7);
        bad(1, "pull 1/", 1, 7);
        bad(0, " ".repeat(496) + "come", 1, 500);
        bad(0, "come" + " ".repeat(496), 1, 500);
        bad(1, " ".repeat(493) + "pull 12", 1, 500);
        good(0, " ".repeat(493) + "come 3;", 1);
        bad(0, " ".repeat(499) + ";", 1, 499);
        // The TAPE may have been cut: its end is the text's.
        Counted x = new Counted();
        Check.tape(x, "come 0;come 1;");
        x.end(13);
        Check.due("cut by one", x.text(0, 0), -1);
        fault(x, "cut by one", 1, 13);
    }

    private static void partsOfActs() {
        Check.at("promise 6: 2 (at the NUMBER) a WHO, THING, BOX, SCREEN, PICTURE that there is not");
        for (int a = 0; a < ACTS.length; a++) {
            for (int part = 0; part < OF[a].length; part++) {
                for (int n = 0; n < OF[a][part]; n++) {
                    boolean twice = ACTS[a].equals("tell") && (part == 1 && n == 0 || part == 0 && n == 1);
                    if (!twice) {
                        good(0, act(a, part, "" + n, ";"), 1);
                        good(0, act(a, part, "000" + n, ";"), 1);
                    }
                }
                int place = act(a, part, "|", "").indexOf('|');
                for (int n : new int[] {OF[a][part], OF[a][part] + 1, 10, 9999}) {
                    bad(0, act(a, part, "" + n, ";"), 2, place);
                    bad(0, act(a, part, "" + n, ""), 2, place);
                }
                bad(0, act(a, part, "-1", ";"), 1, place);
                bad(0, act(a, part, "00000", ";"), 1, place);
                bad(0, act(a, part, "come", ";"), 1, place);
            }
            // One number too few, one too many.
            String all = act(a, 0, "0", "");
            bad(0, all + " 0;", 1, all.length() + 1);
            String few = all.substring(0, all.lastIndexOf(' '));
            bad(0, few + ";", 1, few.length());
        }
        Check.at("promise 6: 2 (at the NUMBER) in tell the same WHO twice");
        for (int w = 0; w < 4; w++) {
            bad(0, "tell " + w + " " + w + " 0 0;", 2, 7);
            bad(0, "tell " + w + " 000" + w + " 0 0;", 2, 7);
            bad(0, "tell " + w + " " + w, 2, 7);
            for (int v = 0; v < 4; v++) {
                if (v != w) {
                    good(0, "tell " + w + " " + v + " 2 3;", 1);
                }
            }
        }
    }

    /** An act with one part told; the others are 0, but 1 for the second WHO of tell. */
    private static String act(int a, int part, String told, String behind) {
        StringBuilder s = new StringBuilder(ACTS[a]);
        for (int i = 0; i < OF[a].length; i++) {
            String other = ACTS[a].equals("tell") && i == 1 ? "1" : "0";
            s.append(' ').append(i == part ? told : other);
        }
        return s.append(behind).toString();
    }

    private static void partsOfLaws() {
        Check.at("promise 6: 2 (at the NUMBER) a RULE that there is not");
        for (int n = 0; n < 8; n++) {
            good(1, "rule " + n + " 1;", 1);
        }
        for (int n : new int[] {8, 9, 10, 9999}) {
            bad(1, "rule " + n + " 1;", 2, 5);
            bad(1, "rule " + n, 2, 5);
        }
        bad(1, "rule -1 1;", 1, 5);
        Check.at("promise 6: 2 (at the NUMBER) a part by 0");
        for (String zero : new String[] {"0", "00", "000", "0000"}) {
            bad(1, "pull 1/" + zero + ";", 2, 7);
            bad(1, "pull 1/ \n" + zero + ";", 2, 9);
            bad(1, "rule 0 months*2/" + zero + "+1;", 2, 16);
            bad(1, "pull 1 when 1/" + zero + "=1;", 2, 14);
            bad(1, "pull 1 when 1=1/" + zero + ";", 2, 16);
        }
        good(1, "pull 1/1;pull 1/9999;pull 1/0001;pull 0/1;pull 1*0/1;pull 1-0;", 6);
        bad(1, "pull 1/how;", 1, 7);
        bad(1, "pull 1//1;", 1, 7);
        bad(1, "pull 1/-1;", 1, 7);
    }

    private static void acts25() {
        Check.at("promise 6: 3 (at its KEYWORD) the 25th act");
        String full = "come 0;".repeat(24);
        good(0, full, 24);
        good(0, full + " \n ", 24);
        for (String word : ACTS) {
            bad(0, full + word, 3, 168);
            bad(0, full + "\n " + word + " 9;", 3, 170);
        }
        // At one place the least; what is ahead of it is first.
        for (String none : new String[] {"rule 0 1;", "0", ";", "comes 0;", "#", "("}) {
            bad(0, full + none, 1, 168);
        }
        bad(0, "come 0;".repeat(23) + "come 4;come 0;", 2, 166);
        bad(0, "come 0;".repeat(23) + "come 0 come 0;", 1, 168);
        bad(0, "come 0;".repeat(70), 3, 168);
    }

    private static void lines17() {
        Check.at("promise 6: 3 (at its KEYWORD) the 17th line of a LAW");
        String full = "rule 0 1;".repeat(15) + "pull 1;";
        good(1, full, 16);
        good(1, full + " ", 16);
        bad(1, full + "rule 0 1;", 3, 142);
        bad(1, full + "\npull", 3, 143);
        for (String none : new String[] {"come 0;", "when", "0", ";", "rules 0 1;", "months", "#"}) {
            bad(1, full + none, 1, 142);
        }
        bad(1, "rule 0 1;".repeat(15) + "pull 1/0;pull 1;", 2, 142);
        bad(1, "pull 1;".repeat(71), 3, 112);
    }

    private static void open9() {
        Check.at("promise 6: 3 (at it) the 9th ( or not that is open");
        for (int nots = 0; nots <= 8; nots++) {
            String eight = "not ".repeat(nots) + "(".repeat(8 - nots);
            String shut = ")".repeat(8 - nots);
            good(1, "pull 1 when " + eight + "1=1" + shut + ";", 1);
            bad(1, "pull 1 when " + eight + "(1=1)" + shut + ";", 3, 12 + eight.length());
            bad(1, "pull 1 when " + eight + "not 1=1" + shut + ";", 3, 12 + eight.length());
            // What is closed is open no more: by ) or, for not, by the end of what it denies.
            good(1, "pull 1 when " + eight + "1=1" + shut + " and " + eight + "1=1" + shut + " or " + eight + "1=1"
                    + shut + ";", 1);
            bad(1, "pull 1 when " + eight + "1=1" + shut + " and " + eight + "(1=1", 3,
                    12 + 2 * eight.length() + 3 + shut.length() + 5);
            // Each line begins with none.
            good(1, ("pull 1 when " + eight + "1=1" + shut + ";").repeat(10), 10);
        }
        for (int open = 0; open < 8; open++) {
            String some = "(".repeat(open);
            String shut = ")".repeat(open);
            good(1, "pull 1 when " + some + "not 1=1 and " + "(".repeat(8 - open) + "1=1" + ")".repeat(8 - open)
                    + shut + ";", 1);
            bad(1, "pull 1 when " + some + "not 1=1 and " + "(".repeat(9 - open) + "1=1", 3, 12 + some.length() + 12
                    + 8 - open);
        }
        bad(1, "pull 1 when " + "(".repeat(8) + "1=1)))))))", 1, 30);
        bad(1, "pull 1 when " + "(".repeat(8) + "1=1)))))))));", 1, 31);
        bad(1, "pull 1 when " + "(".repeat(400), 3, 20);
        bad(1, "pull 1 when " + "not ".repeat(100), 3, 44);
    }

    private static void firstByPlace() {
        Check.at("promise 6: the first by its place");
        bad(0, "come 4;come 00000;x", 2, 5);
        bad(0, "come 00000;come 4;x", 1, 5);
        bad(0, "x;come 4;", 1, 0);
        bad(0, "put 4 3 4;", 2, 4);
        bad(0, "put 0 3 4;", 2, 6);
        bad(0, "put 0 0 4;", 2, 8);
        bad(0, "tell 4 4 3 4;", 2, 5);
        bad(0, "tell 0 0 3 4;", 2, 7);
        bad(1, "rule 8 1/0;", 2, 5);
        bad(1, "rule 0 1/0 when ((((((((((1=1;", 2, 9);
        bad(1, "rule 0 1 when (((((((((1/0=1;", 3, 22);
        bad(1, "rule 0 1 when ((((((((1/0=1;", 2, 24);
        bad(1, "rule 0 1 when 1 ((((((((((;", 1, 16);
    }
}
