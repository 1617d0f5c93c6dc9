/** Promises 1 to 6: a new object, STATE, the TAPE, TEXTS and their FAULTS. */
public final class TapeTest {
    private TapeTest() {
    }

    public static void main(String[] args) {
        newObject();
        state();
        feed();
        end();
        text();
        tokens();
        laws();
        faultsOfScenes();
        faultsOfLaws();
        Check.close();
    }

    private static void newObject() {
        Check.at("promise 1");
        Counted x = new Counted();
        for (int what = 0; what <= 6; what++) {
            Check.due("look(" + what + ")", x.look(what), 0);
        }
        for (int scene = 0; scene < 8; scene++) {
            Check.due("after " + scene, x.after(scene, 0, 0, 0), -1);
            Check.due("moves " + scene, x.after(scene, 2, 3, 5), 0);
            Check.due("here " + scene, x.here(scene, 0, 0), 0);
        }
        Check.due("says", x.says(0, 0), -2);
        Check.due("answer", x.answer(0, 0), -2);
        Check.due("weight", x.weight(0, 0, 0, 0), -1);
        Check.due("score", x.score(0), 0);
        Check.due("best law", x.score(-1), 0);
        Check.due("turn", x.curve(-1, 0), -1);
        Check.due("image", x.image(false), false);
        Check.due("fault", x.fault(0), 0);
        Check.due("place", x.fault(1), -1);
    }

    private static void state() {
        Check.at("promise 2");
        Counted x = new Counted();
        Check.due("state(7)", x.state(7), 0);
        Check.due("state(MIN)", x.state(Integer.MIN_VALUE), 7);
        Check.due("look(5)", x.look(5), Integer.MIN_VALUE);
        Check.due("state(-1)", x.state(-1), Integer.MIN_VALUE);
        Check.due("state(0)", x.state(0), -1);
        // A DRAW: 1013904223 from 0; its highest 24 bits are 3960563, and 3960563 % 4 is 3.
        x.question(0, 0, 0, 0, -1);
        x.child(0, 0, 0, 0);
        Check.due("ask", x.ask(0, 0, 0), 3);
        Check.due("two draws", x.state(0), 1664525 * 1013904223 + 1013904223);
        // The highest bits are without sign.
        int drawn = 1664525 * 700000000 + 1013904223;
        Check.due("below 0", drawn < 0, true);
        x.state(700000000);
        Check.due("ask", x.ask(0, 0, 0), (int) ((drawn & 0xffffffffL) / 256 % 4));
    }

    private static void feed() {
        Check.at("promise 3");
        Counted x = new Counted();
        // "come 3;leave 2;    " the highest byte first
        Check.due("feed", x.feed(0x636f6d65, 0x20333b6c, 0x65617665, 0x20323b20, 0x20202020), 20);
        Check.due("text", x.text(0, 0), 2);
        Check.due("here", x.here(0, 3, 0), 1);
        for (int i = 1; i <= 25; i++) {
            Check.due("feed " + i, x.feed(-1, -1, -1, -1, -1), 20 * i);
        }
        Check.due("feed above 500", x.feed(0, 0, 0, 0, 0), -1);
        Check.due("end(500)", x.end(500), true);
        Check.due("end(481)", x.end(481), true);
        Check.due("feed to 501", x.feed(0, 0, 0, 0, 0), -1);
        Check.due("nothing came", x.end(482), false);
        Check.due("end(480)", x.end(480), true);
        Check.due("feed to 500", x.feed(0, 0, 0, 0, 0), 500);
        Check.due("bytes of 255 are none", x.text(0, 0), -1);
        Check.due("fault", x.fault(0), 1);
        Check.due("place", x.fault(1), 0);
        Check.due("empty again", x.feed(0, 0, 0, 0, 0), 20);
    }

    private static void end() {
        Check.at("promise 4");
        Counted x = new Counted();
        Check.due("end(0)", x.end(0), true);
        Check.due("end(1)", x.end(1), false);
        Check.due("end(-1)", x.end(-1), false);
        Check.due("end(MIN)", x.end(Integer.MIN_VALUE), false);
        Check.due("end(MAX)", x.end(Integer.MAX_VALUE), false);
        Check.tape(x, "come 0;leave 0;");
        Check.due("end(15)", x.end(15), true);
        Check.due("end(16)", x.end(16), false);
        Check.due("end(7)", x.end(7), true);
        Check.due("end(8)", x.end(8), false);
        Check.due("end(-1)", x.end(-1), false);
        Check.tape(x, "come 1;");
        Check.due("text", x.text(0, 0), 2);
        Check.due("the first stayed", x.here(0, 0, 0), 1);
        Check.due("the new came behind", x.here(0, 1, 0), 1);
        Check.due("emptied", x.end(1), false);
    }

    private static void text() {
        Check.at("promise 5");
        Counted x = new Counted();
        Check.due("empty", x.text(0, 0), 0);
        Check.due("empty law", x.text(1, 3), 0);
        Check.due("blanks", Check.scene(x, 0, " \n  \n"), 0);
        Check.due("one", Check.scene(x, 7, "come 0;"), 1);
        Check.due("nine kinds", Check.scene(x, 6,
                "come 0;leave 1;put 0 0 0;move 0 0 1;tell 0 1 2 3;lift 0 1;wear 3 1;doff 3;snap 1;"), 9);
        Check.due("as it was", Check.scene(x, 7, "leave 0;come"), -1);
        Check.due("as it was", x.here(7, 0, 0), 1);
        Check.due("TAPE emptied", x.feed(0, 0, 0, 0, 0), 20);
        x.end(0);
        int[][] none = {{0, 8}, {0, -1}, {1, 4}, {1, -1}, {2, 0}, {-1, 0}, {Integer.MAX_VALUE, Integer.MIN_VALUE}};
        for (int[] n : none) {
            Check.scene(x, 0, "?");
            Check.due("a fault", x.fault(0), 1);
            Check.tape(x, "?");
            Check.due("text(" + n[0] + ", " + n[1] + ")", x.text(n[0], n[1]), -1);
            Check.due("no fault", x.fault(0), 0);
            Check.due("no place", x.fault(1), -1);
            Check.due("emptied", x.feed(0, 0, 0, 0, 0), 20);
            x.end(0);
        }
        StringBuilder most = new StringBuilder();
        for (int i = 0; i < 24; i++) {
            most.append("come 0;");
        }
        Check.due("24 acts", Check.scene(x, 0, most.toString()), 24);
        Check.due("another one in its place", Check.scene(x, 0, "come 1;"), 1);
        Check.due("another one in its place", x.here(0, 0, 0), 0);
        StringBuilder lines = new StringBuilder();
        for (int i = 0; i < 16; i++) {
            lines.append("rule 0 1;");
        }
        Check.due("16 lines", Check.law(x, 0, lines.toString()), 16);
    }

    private static void tokens() {
        Check.at("promise 5, tokens");
        Counted x = new Counted();
        Check.due("no blanks", Check.scene(x, 0, "come0;put0 0 1;"), 2);
        Check.due("many blanks", Check.scene(x, 0, "\n come \n 0 \n;  "), 1);
        Check.due("zeroes in front", Check.scene(x, 0, "come 0003;"), 1);
        Check.due("zeroes in front", x.here(0, 3, 0), 1);
        fault(x, 0, "come 00003;", 1, 5);
        fault(x, 0, "Come 0;", 1, 0);
        fault(x, 0, "comes 0;", 1, 0);
        fault(x, 0, "com 0;", 1, 0);
        fault(x, 0, "comeleave 0;", 1, 0);
        fault(x, 0, "comea 0;", 1, 0);
        fault(x, 0, "comez 0;", 1, 0);
        fault(x, 0, "comeA 0;", 1, 0);
        fault(x, 0, "comeZ 0;", 1, 0);
        fault(x, 0, "come@ 0;", 1, 4);
        fault(x, 0, "come[ 0;", 1, 4);
        fault(x, 0, "come` 0;", 1, 4);
        fault(x, 0, "come{ 0;", 1, 4);
        fault(x, 0, "come 0/;", 1, 6);
        fault(x, 0, "come 0:;", 1, 6);
        fault(x, 0, "come\t0;", 1, 4);
        fault(x, 0, "come 0;\r", 1, 7);
        fault(x, 0, "come 0,", 1, 6);
        fault(x, 0, "come 0\u00e9;", 1, 6);
        fault(x, 0, "come -1;", 1, 5);
        fault(x, 0, "come 0x;", 1, 6);
        fault(x, 1, "pull monthS;", 1, 5);
        fault(x, 1, "pull come;", 1, 5);
    }

    private static void fault(Counted x, int sort, String text, int what, int place) {
        Check.tape(x, text);
        Check.due("text of " + text, x.text(sort, 0), -1);
        Check.due("fault of " + text, x.fault(0), what);
        Check.due("place in " + text, x.fault(1), place);
        Check.due("fault(2)", x.fault(2), -1);
        Check.due("fault(-1)", x.fault(-1), -1);
    }

    private static void laws() {
        Check.at("promise 5, laws");
        Counted x = new Counted();
        Check.due("all that there is", Check.law(x, 0,
                "rule 0 months+words*how-moves/2 when sort=0 and picture<1 or not (1>2);pull 9999;"), 2);
        Check.due("8 open", Check.law(x, 0, "pull 1 when not (not (not (not (1=1))));"), 1);
        Check.due("8 open, and again", Check.law(x, 0,
                "pull 1 when ((((((((1=1)))))))) and not not not not not not not not 1=1;"), 1);
        Check.due("a not ends with what it denies", Check.law(x, 0,
                "pull 1 when not 1=1 and not 1=1 and not 1=1 and not 1=1 and not 1=1 and (not 1=1 and "
                + "not 1=1 and not 1=1 and not 1=1 and not 1=1);"), 1);
        Check.due("/ behind *", Check.law(x, 0, "pull 2*3/4*months/0005;"), 1);
    }

    private static void faultsOfScenes() {
        Check.at("promise 6, scenes");
        Counted x = new Counted();
        Check.due("before any", x.fault(0), 0);
        Check.due("before any", x.fault(1), -1);
        fault(x, 0, "come", 1, 4);
        fault(x, 0, "come  \n", 1, 7);
        fault(x, 0, "come;", 1, 4);
        fault(x, 0, "come 0", 1, 6);
        fault(x, 0, ";", 1, 0);
        fault(x, 0, "come 0;;", 1, 7);
        fault(x, 0, "come 4;", 2, 5);
        fault(x, 0, "come 9999", 2, 5);
        fault(x, 0, "leave 4;", 2, 6);
        fault(x, 0, "put 4 0 0;", 2, 4);
        fault(x, 0, "put 0 3 0;", 2, 6);
        fault(x, 0, "put 0 0 4;", 2, 8);
        fault(x, 0, "put 0 0;", 1, 7);
        fault(x, 0, "put 0 0 0 0;", 1, 10);
        fault(x, 0, "move 4 0 0;", 2, 5);
        fault(x, 0, "move 3 3 0;", 2, 7);
        fault(x, 0, "move 3 2 4;", 2, 9);
        fault(x, 0, "tell 4 0 0 0;", 2, 5);
        fault(x, 0, "tell 0 4 0 0;", 2, 7);
        fault(x, 0, "tell 2 2 0 0;", 2, 7);
        fault(x, 0, "tell 2 02 3 0;", 2, 7);
        fault(x, 0, "tell 2 1 3 0;", 2, 9);
        fault(x, 0, "tell 2 1 2 4;", 2, 11);
        fault(x, 0, "tell 2 ;", 1, 7);
        fault(x, 0, "lift 4 0;", 2, 5);
        fault(x, 0, "lift 0 4;", 2, 7);
        fault(x, 0, "wear 4 0;", 2, 5);
        fault(x, 0, "wear 0 2;", 2, 7);
        fault(x, 0, "doff 4;", 2, 5);
        fault(x, 0, "snap 2;", 2, 5);
        fault(x, 0, "snap 1 1;", 1, 7);
        fault(x, 0, "rule 0 1;", 1, 0);
        fault(x, 0, "come 0;pull 1;", 1, 7);
        fault(x, 0, "come (0);", 1, 5);
        fault(x, 0, "come 5 #", 2, 5);
        fault(x, 0, "come # 5", 1, 5);
        StringBuilder full = new StringBuilder();
        for (int i = 0; i < 24; i++) {
            full.append("snap 0;");
        }
        fault(x, 0, full + "snap 0;", 3, 168);
        fault(x, 0, full + " snap", 3, 169);
        fault(x, 0, full + "rule", 1, 168);
        fault(x, 0, full + "0", 1, 168);
        fault(x, 0, full.substring(7) + "snap 2;snap 0;", 2, 166);
        Check.due("good again", Check.scene(x, 0, "come 0;"), 1);
        Check.due("no fault", x.fault(0), 0);
        Check.due("no place", x.fault(1), -1);
    }

    private static void faultsOfLaws() {
        Check.at("promise 6, laws");
        Counted x = new Counted();
        fault(x, 1, "come 0;", 1, 0);
        fault(x, 1, "rule", 1, 4);
        fault(x, 1, "rule 0", 1, 6);
        fault(x, 1, "rule 0;", 1, 6);
        fault(x, 1, "rule 8 1;", 2, 5);
        fault(x, 1, "rule months 1;", 1, 5);
        fault(x, 1, "pull;", 1, 4);
        fault(x, 1, "pull 1", 1, 6);
        fault(x, 1, "pull 10000;", 1, 5);
        fault(x, 1, "pull 1+;", 1, 7);
        fault(x, 1, "pull +1;", 1, 5);
        fault(x, 1, "pull 1-;", 1, 7);
        fault(x, 1, "pull 1*;", 1, 7);
        fault(x, 1, "pull (1);", 1, 5);
        fault(x, 1, "pull 1/0;", 2, 7);
        fault(x, 1, "pull 1/ 0000", 2, 8);
        fault(x, 1, "pull 1/months;", 1, 7);
        fault(x, 1, "pull 1/;", 1, 7);
        fault(x, 1, "pull 1 2;", 1, 7);
        fault(x, 1, "pull 1 when;", 1, 11);
        fault(x, 1, "pull 1 when 1;", 1, 13);
        fault(x, 1, "pull 1 when 1=;", 1, 14);
        fault(x, 1, "pull 1 when 1=1=1;", 1, 15);
        fault(x, 1, "pull 1 when 1=1 and;", 1, 19);
        fault(x, 1, "pull 1 when or 1=1;", 1, 12);
        fault(x, 1, "pull 1 when (1=1;", 1, 16);
        fault(x, 1, "pull 1 when 1=1);", 1, 15);
        fault(x, 1, "pull 1 when (1);", 1, 14);
        fault(x, 1, "pull 1 when ();", 1, 13);
        fault(x, 1, "pull 1 when not;", 1, 15);
        fault(x, 1, "pull 1 when 1=1 when 1=1;", 1, 16);
        fault(x, 1, "pull 1 when 1<3/0;", 2, 16);
        fault(x, 1, "pull 1 when (((((((((1=1)))))))));", 3, 20);
        fault(x, 1, "pull 1 when ((((((((not 1=1))))))));", 3, 20);
        fault(x, 1, "pull 1 when not not not not not not not not (", 3, 44);
        fault(x, 1, "pull 1 when not (1=1 or (((((((1=2", 3, 30);
        fault(x, 1, "pull 1 when not (1=1 or ((((((1=2", 1, 33);
        fault(x, 1, "pull 1 when (1=1 or ((((((((1=2", 3, 27);
        StringBuilder full = new StringBuilder();
        for (int i = 0; i < 16; i++) {
            full.append("pull 1;");
        }
        fault(x, 1, full + "rule 9", 3, 112);
        fault(x, 1, full + "come", 1, 112);
        fault(x, 1, full + ";", 1, 112);
        Check.due("good again", Check.law(x, 3, full.toString()), 16);
        Check.due("no fault", x.fault(0), 0);
    }
}
