/** The boundary cases that promises 7 to 9, and the acts of a SCENE, name. */
public final class EdgeSceneTest {
    /** How # may stand: away, HERE, behind the clear SCREEN, behind the other one. */
    private static final String[] BEHIND = {"", "come #;", "come #;wear # 1;", "come #;wear # 0;"};

    private EdgeSceneTest() {
    }

    public static void main(String[] args) {
        afterRefused();
        whoAlways();
        afterEdges();
        afterNothing();
        manyMoves();
        thinksRefused();
        hereRefused();
        beginsAnew();
        comeLeave();
        putMoveNothing();
        putMoveLeast();
        tellNothing();
        liftNothing();
        liftEdges();
        liftWatched();
        screens();
        takesForSeeing();
        pictures();
        lastActCounts();
        Check.close();
    }

    private static Counted scene(String text) {
        Counted x = new Counted();
        Check.due("read " + text, Check.scene(x, 0, text) >= 0, true);
        return x;
    }

    /** Whether all that is told of SCENES 0 and 1 is alike. */
    private static boolean alike(String one, String two) {
        Counted x = scene(one);
        Check.due("read " + two, Check.scene(x, 1, two) >= 0, true);
        boolean same = true;
        for (int who = 0; who < 4; who++) {
            for (int thing = 0; thing < 3; thing++) {
                for (int what = 0; what < 10; what++) {
                    boolean ofThing = what == 0 || what > 4;
                    if (who == 0 || !ofThing) {
                        same &= x.after(0, thing, who, what) == x.after(1, thing, who, what);
                    }
                }
                for (int w = 0; w < 4; w++) {
                    if (w != who) {
                        same &= x.thinks(0, who, w, thing) == x.thinks(1, who, w, thing);
                    }
                }
            }
            for (int what = 0; what < 4; what++) {
                same &= x.here(0, who, what) == x.here(1, who, what);
            }
        }
        return same;
    }

    /** Behind a SCENE an act is nothing. */
    private static void nothing(String text, String... acts) {
        for (String act : acts) {
            Check.due(text + " and then " + act + " is nothing", alike(text, text + act), true);
        }
    }

    /** Behind a SCENE an act is something: a thing thought, a place, who is HERE. */
    private static void something(String text, String... acts) {
        for (String act : acts) {
            Check.due(text + " and then " + act + " is something", alike(text, text + act), false);
        }
    }

    private static void after(String text, int thing, int who, int... due) {
        Counted x = scene(text);
        for (int what = 0; what < due.length; what++) {
            Check.due("after(0, " + thing + ", " + who + ", " + what + ") of " + text, x.after(0, thing, who, what),
                    due[what]);
        }
    }

    private static void afterRefused() {
        Check.at("promise 7: NONE - 1 if one can't be, or another what");
        Edge on = new Edge(Given::filled);
        on.outside("scene", 0, 7, (x, n) -> x.after(n, 0, 0, 0), -2);
        on.outside("thing", 0, 2, (x, n) -> x.after(0, n, 0, 0), -2);
        on.outside("who", 0, 3, (x, n) -> x.after(0, 0, n, 1), -2);
        on.outside("what", 0, 9, (x, n) -> x.after(0, 0, 0, n), -2);
        on.outside("scene, all else the greatest", 0, 7, (x, n) -> x.after(n, 2, 3, 9), -2);
        on.outside("thing, all else the greatest", 0, 2, (x, n) -> x.after(7, n, 3, 9), -2);
        on.outside("who, all else the greatest", 0, 3, (x, n) -> x.after(7, 2, n, 9), -2);
        on.outside("what, all else the greatest", 0, 9, (x, n) -> x.after(7, 2, 3, n), -2);
        on.refused("all wrong", x -> x.after(8, 3, 4, 10), -2);
    }

    private static void whoAlways() {
        Check.at("promise 7: a THING and a WHO (always one)");
        Edge on = new Edge(Given::filled);
        for (int what : Edge.upTo(10)) {
            on.refused("who 4 for what " + what, x -> x.after(0, 0, 4, what), -2);
            on.refused("who NONE for what " + what, x -> x.after(0, 0, -1, what), -2);
        }
    }

    private static void afterEdges() {
        Check.at("promise 7: the least and the greatest SCENE, THING, WHO and what");
        Edge on = new Edge(Given::filled);
        int[] least = {2, 1, 1, 1, 0, 2, 1, -1, 1, 1};
        int[] greatest = {0, 0, 0, 0, 1, 1, -1, -1, -1, 0};
        for (int what : Edge.upTo(10)) {
            on.refused("0 0 0 " + what, x -> x.after(0, 0, 0, what), least[what]);
            on.refused("7 2 3 " + what, x -> x.after(7, 2, 3, what), greatest[what]);
        }
    }

    private static void afterNothing() {
        Check.at("promise 7: a THING that never had a MOVE");
        for (int thing = 0; thing < 3; thing++) {
            for (int who = 0; who < 4; who++) {
                after("", thing, who, -1, -1, -1, -1, 0, 0, -1, -1, -1, -1);
                after("come 0;snap 0;snap 1;wear 0 1;leave 0;", thing, who, -1, -1, -1, -1, 0, 0, -1, -1, -1, -1);
            }
        }
        // Told of it, one THINKS it somewhere: no MOVE of it was seen, it is AT none.
        after("come 0;come 1;tell 0 1 2 0;", 2, 1, -1, 0, -1, -1, 0, 0, -1, -1, -1, -1);
        Check.at("promise 7: where it was ahead of THERE, of one MOVE alone");
        after("come 0;put 0 0 3;", 0, 0, 3, 3, 3, 3, 1, 1, -1, -1, -1, 3);
        after("come 0;put 0 0 3;move 0 0 3;", 0, 0, 3, 3, 3, 3, 1, 2, -1, -1, 3, 3);
    }

    private static void manyMoves() {
        Check.at("promise 7: how many MOVES, with 24 acts");
        StringBuilder text = new StringBuilder("come 3;put 3 2 3;");
        for (int i = 0; i < 22; i++) {
            text.append("move 3 2 ").append(i % 4).append(';');
        }
        after(text.toString(), 2, 3, 1, 1, 1, 1, 1, 23, -1, -1, 0, 3);
        after(text.toString(), 2, 0, 1, -1, -1, -1, 0, 23, -1, -1, 0, 3);
        after(text.toString(), 1, 3, -1, -1, -1, -1, 0, 0, -1, -1, -1, -1);
    }

    private static void thinksRefused() {
        Check.at("promise 8: NONE - 1 if one can't be (the same WHO)");
        Edge on = new Edge(Given::filled);
        on.outside("scene", 0, 7, (x, n) -> x.thinks(n, 0, 1, 0), -2);
        on.outside("v", 0, 3, (x, n) -> x.thinks(0, n, 1, 0), -2);
        on.outside("w", 0, 3, (x, n) -> x.thinks(0, 0, n, 0), -2);
        on.outside("thing", 0, 2, (x, n) -> x.thinks(0, 0, 1, n), -2);
        on.outside("v, all else the greatest", 0, 3, (x, n) -> x.thinks(7, n, 3, 2), -2);
        on.outside("w, all else the greatest", 0, 3, (x, n) -> x.thinks(7, 3, n, 2), -2);
        for (int who : Edge.upTo(4)) {
            for (int scene : new int[] {0, 3, 7}) {
                on.refused("the same " + who, x -> x.thinks(scene, who, who, 0), -2);
            }
        }
        on.refused("the same that there is not", x -> x.thinks(0, 4, 4, 0), -2);
        on.refused("NONE twice", x -> x.thinks(0, -1, -1, 0), -2);
        Check.at("promise 8: the least and the greatest");
        on.refused("thinks(0, 0, 1, 0)", x -> x.thinks(0, 0, 1, 0), 1);
        on.refused("thinks(0, 1, 0, 0)", x -> x.thinks(0, 1, 0, 0), 1);
        on.refused("thinks(7, 3, 2, 2)", x -> x.thinks(7, 3, 2, 2), -1);
        on.refused("thinks(7, 2, 3, 2)", x -> x.thinks(7, 2, 3, 2), -1);
    }

    private static void hereRefused() {
        Check.at("promise 9: NONE if one can't be, or another what");
        Edge on = new Edge(Given::filled);
        on.outside("scene", 0, 7, (x, n) -> x.here(n, 0, 0), -1);
        on.outside("who", 0, 3, (x, n) -> x.here(0, n, 0), -1);
        on.outside("what", 0, 3, (x, n) -> x.here(0, 0, n), -1);
        on.outside("scene, all else the greatest", 0, 7, (x, n) -> x.here(n, 3, 3), -1);
        on.outside("who, all else the greatest", 0, 3, (x, n) -> x.here(7, n, 3), -1);
        on.outside("what, all else the greatest", 0, 3, (x, n) -> x.here(7, 3, n), -1);
        Check.at("promise 9: the least and the greatest");
        int[] due = {1, 1, 0, 1};
        for (int what : Edge.upTo(4)) {
            on.refused("here(7, 3, " + what + ")", x -> x.here(7, 3, what), due[what]);
            on.refused("here(0, 0, " + what + ")", x -> x.here(0, 0, what), 0);
        }
    }

    private static void beginsAnew() {
        Check.at("a SCENE goes from its beginning, whatever was asked before");
        Counted x = scene("come 0;come 1;wear 1 0;put 0 0 1;snap 0;tell 0 1 0 2;lift 0 1;");
        for (int i = 0; i < 3; i++) {
            Check.due("MOVES", x.after(0, 0, 0, 5), 1);
            Check.due("told", x.after(0, 0, 1, 1), 2);
            Check.due("an empty one between", x.after(1, 0, 1, 1), -1);
            Check.due("nobody HERE in it", x.here(1, 1, 0) + x.here(1, 1, 2), 0);
            Check.due("HERE in the first one", x.here(0, 1, 0) + x.here(0, 1, 2), 2);
        }
    }

    private static void comeLeave() {
        Check.at("come, leave: HERE or not; once more is nothing");
        nothing("", "leave 0;", "leave 3;", "doff 0;", "doff 3;");
        nothing("come 0;put 0 0 1;", "come 0;", "leave 1;", "doff 0;");
        nothing("come 0;put 0 0 1;leave 0;", "leave 0;", "leave 3;");
        something("come 0;", "leave 0;", "come 1;", "come 3;");
        for (int w = 0; w < 4; w++) {
            Counted x = scene("come " + w + ";");
            for (int other = 0; other < 4; other++) {
                Check.due("HERE", x.here(0, other, 0), other == w ? 1 : 0);
                Check.due("CAN SEE", x.here(0, other, 1), other == w ? 1 : 0);
            }
        }
    }

    private static void putMoveNothing() {
        Check.at("put: nothing, if W is not HERE, or T is AT a BOX");
        nothing("", "put 0 0 0;", "put 3 2 3;");
        nothing("come 0;", "put 1 0 0;", "put 3 2 3;");
        nothing("come 0;come 1;leave 0;", "put 0 0 0;");
        nothing("come 0;come 1;put 0 0 1;", "put 0 0 1;", "put 0 0 2;", "put 1 0 1;", "put 1 0 0;", "put 2 0 2;");
        nothing("come 0;put 0 0 0;move 0 0 3;", "put 0 0 0;", "put 0 0 3;");
        something("come 0;come 1;put 0 0 1;", "put 0 1 1;", "put 1 2 0;");
        something("come 0;", "put 0 0 0;", "put 0 2 3;");
        Check.at("move: nothing, if W is not HERE, or T is AT none");
        nothing("", "move 0 0 0;", "move 3 2 3;");
        nothing("come 0;", "move 0 0 0;", "move 1 0 0;");
        nothing("come 0;put 0 0 1;", "move 1 0 2;", "move 0 1 2;", "move 0 2 1;", "move 3 0 0;");
        nothing("come 0;come 1;put 0 0 1;leave 0;", "move 0 0 2;");
        something("come 0;put 0 0 1;", "move 0 0 1;", "move 0 0 0;");
    }

    private static void putMoveLeast() {
        Check.at("W, and each one that CAN SEE, SEES it: seen by W alone, by all four, by none else");
        after("come 0;put 0 0 0;", 0, 1, 0, -1, -1, -1, 0, 1, -1, -1, -1, 0);
        for (int who = 0; who < 4; who++) {
            after("come 0;come 1;come 2;come 3;put 0 0 0;move 3 0 3;", 0, who, 3, 3, 3,
                    who == 3 ? 3 : who == 0 ? 0 : -1, 1, 2, -1, -1, 0, 0);
        }
        Check.at("SAW the latest MOVE (all others did not)");
        // 1 saw the first, not the second; 2 the second alone; W behind a SCREEN its own.
        String text = "come 0;come 1;put 0 0 1;leave 1;come 2;wear 0 0;move 0 0 2;";
        after(text, 0, 0, 2, 2, 2, 2, 1, 2, -1, -1, 1, 1);
        after(text, 0, 1, 2, 1, 1, -1, 0, 2, -1, -1, 1, 1);
        after(text, 0, 2, 2, 2, 2, -1, 1, 2, -1, -1, 1, 1);
        after(text, 0, 3, 2, -1, -1, -1, 0, 2, -1, -1, 1, 1);
        Check.at("W PUT it there (last)");
        after("come 0;come 1;put 0 0 1;move 1 0 2;move 0 0 3;move 1 0 0;", 0, 0, 0, 0, 0, 3, 1, 4, -1, -1, 3, 1);
        after("come 0;come 1;put 0 0 1;move 1 0 2;move 0 0 3;move 1 0 0;", 0, 1, 0, 0, 0, 0, 1, 4, -1, -1, 3, 1);
    }

    private static void tellNothing() {
        Check.at("tell: nothing, if one of both is not HERE");
        nothing("", "tell 0 1 0 0;");
        nothing("come 0;", "tell 0 1 0 0;", "tell 1 0 0 0;", "tell 2 3 0 0;");
        nothing("come 0;come 1;leave 1;", "tell 0 1 0 0;", "tell 1 0 2 3;");
        nothing("come 0;come 1;come 2;put 2 0 1;leave 0;", "tell 0 1 0 0;", "tell 1 0 0 0;");
        something("come 0;come 1;", "tell 0 1 0 0;", "tell 1 0 2 3;");
        Check.at("tell: all HERE but V think so of V, and V of W; not one who is away");
        Counted x = scene("come 0;come 1;come 2;tell 2 1 1 0;");
        int[][] due = {{0, 1, 0}, {2, 1, 0}, {1, 2, 0}, {3, 1, -1}, {1, 0, -1}, {0, 2, -1}, {2, 0, -1}, {1, 3, -1}};
        for (int[] d : due) {
            Check.due(d[0] + " of " + d[1], x.thinks(0, d[0], d[1], 1), d[2]);
            Check.due(d[0] + " of " + d[1] + ", another thing", x.thinks(0, d[0], d[1], 0), -1);
        }
        Check.due("V", x.after(0, 1, 1, 1), 0);
        Check.due("not W", x.after(0, 1, 2, 1), -1);
        Check.due("not another one", x.after(0, 1, 0, 1), -1);
        Check.at("tell: one behind a SCREEN tells, is told, and hears");
        x = scene("come 0;come 1;come 2;wear 0 0;wear 1 0;wear 2 0;tell 0 1 0 3;");
        Check.due("is told", x.after(0, 0, 1, 1), 3);
        Check.due("hears", x.thinks(0, 2, 1, 0), 3);
        Check.due("of W", x.thinks(0, 1, 0, 0), 3);
    }

    private static void liftNothing() {
        Check.at("lift: nothing, if W is not HERE, or CAN not SEE");
        String put = "come 0;come 1;come 2;put 0 0 1;put 0 1 1;leave 1;move 0 0 2;";
        nothing(put, "lift 1 2;", "lift 3 1;", "lift 3 2;", "lift 1 1;");
        nothing(put + "come 1;wear 1 0;", "lift 1 2;", "lift 1 1;");
        something(put + "come 1;", "lift 1 2;", "lift 1 1;");
        something(put + "come 1;wear 1 1;", "lift 1 2;", "lift 1 1;");
        something(put + "come 1;wear 1 0;wear 1 1;", "lift 1 2;");
        something(put + "come 1;wear 1 0;doff 1;", "lift 1 2;");
        nothing(put + "come 1;wear 1 1;wear 1 0;", "lift 1 2;");
        Check.at("lift: an empty BOX of which nobody thinks anything");
        nothing(put + "come 1;", "lift 1 3;", "lift 1 0;");
        nothing("come 0;", "lift 0 0;", "lift 0 3;");
    }

    private static void liftEdges() {
        Check.at("lift: all THINGS AT B, in the least BOX and in the greatest");
        for (int box = 0; box < 4; box++) {
            String put = "";
            for (int thing = 0; thing < 3; thing++) {
                put += "put 0 " + thing + " " + box + ";";
            }
            String text = "come 0;" + put + "come 3;lift 3 " + box + ";";
            for (int thing = 0; thing < 3; thing++) {
                after(text, thing, 3, box, box, box, -1, 1, 1, -1, -1, -1, box);
                Check.due("0 of 3", scene(text).thinks(0, 0, 3, thing), box);
                Check.due("3 of 0", scene(text).thinks(0, 3, 0, thing), -1);
            }
            String gone = "come 0;come 3;" + put + "leave 3;move 0 0 " + (box + 1) % 4 + ";move 0 2 " + (box + 2) % 4
                    + ";come 3;lift 3 " + box + ";";
            Counted x = scene(gone);
            int[] thinks = {-1, box, -1};
            for (int thing = 0; thing < 3; thing++) {
                Check.due("what 3 THINKS", x.after(0, thing, 3, 1), thinks[thing]);
                Check.due("where 3 LAST saw it", x.after(0, thing, 3, 2), box);
                Check.due("SAW the latest MOVE", x.after(0, thing, 3, 4), thing == 1 ? 1 : 0);
                Check.due("what 0 THINKS that 3 THINKS", x.thinks(0, 0, 3, thing), thinks[thing]);
                Check.due("what 3 THINKS that 0 THINKS", x.thinks(0, 3, 0, thing), box);
            }
        }
    }

    private static void liftWatched() {
        Check.at("lift: each V (not W) that CAN SEE, of each WHO, THING and BOX");
        for (int v = 0; v < 4; v++) {
            for (int w = 0; w < 4; w++) {
                for (int thing = 0; thing < 3 && v != w; thing++) {
                    int box = (v + w + thing) % 4;
                    int other = (box + 1) % 4;
                    String part = " " + thing + " ";
                    String put = "come " + v + ";come " + w + ";put " + w + part + box + ";leave " + w + ";move " + v
                            + part + other + ";come " + w + ";";
                    lifted(put + "lift " + w + " " + other + ";", v, w, thing, other, box);
                    lifted(put + "lift " + w + " " + box + ";", v, w, thing, -1, box);
                    lifted(put + "lift " + w + " " + (box + 2) % 4 + ";", v, w, thing, box, box);
                    lifted(put + "lift " + v + " " + other + ";", v, w, thing, box, box);
                }
            }
        }
    }

    /** What V THINKS that W THINKS of a THING, what W THINKS that V THINKS; of the others, what was ahead. */
    private static void lifted(String text, int v, int w, int thing, int ofW, int ofV) {
        Counted x = scene(text);
        for (int t = 0; t < 3; t++) {
            Check.due("V of W: " + text, x.thinks(0, v, w, t), t == thing ? ofW : -1);
            Check.due("W of V: " + text, x.thinks(0, w, v, t), t == thing ? ofV : -1);
            for (int who = 0; who < 4; who++) {
                if (who != v && who != w) {
                    Check.due("V of one who is away: " + text, x.thinks(0, v, who, t), -1);
                    Check.due("one who is away of W: " + text, x.thinks(0, who, w, t), -1);
                }
            }
        }
    }

    private static void screens() {
        Check.at("one CAN SEE who is HERE and has no SCREEN on, or the clear one");
        int[] sees = {0, 1, 1, 0};
        for (int w = 0; w < 4; w++) {
            for (int how = 0; how < 4; how++) {
                Counted x = scene(BEHIND[how].replace("#", "" + w));
                Check.due("HERE " + how, x.here(0, w, 0), how > 0 ? 1 : 0);
                Check.due("CAN SEE " + how, x.here(0, w, 1), sees[how]);
                Check.due("has WORN 0", x.here(0, w, 2), how == 3 ? 1 : 0);
                Check.due("has WORN 1", x.here(0, w, 3), how == 2 ? 1 : 0);
            }
        }
        Check.at("wear: has it on in place of another one; doff: has none on; a SCREEN stays on one who leaves");
        nothing("come 0;wear 0 0;", "wear 0 0;");
        nothing("come 0;wear 0 1;", "wear 0 1;");
        something("come 0;wear 0 0;", "wear 0 1;", "doff 0;");
        something("come 0;wear 0 1;", "wear 0 0;");
        nothing("come 0;wear 0 0;", "leave 0;come 0;");
        nothing("come 0;wear 0 0;doff 0;", "doff 0;");
        something("", "wear 0 0;", "wear 3 1;");
    }

    /** V and W in every state there is, each with or without having WORN the clear one, 2 puts a thing. */
    private static void takesForSeeing() {
        Check.at("V TAKES W FOR SEEING");
        for (int how = 0; how < 4; how++) {
            for (int other = 0; other < 4; other++) {
                for (int knows = 0; knows < 4; knows++) {
                    String before = (knows % 2 == 1 ? "wear 0 1;doff 0;" : "") + (knows / 2 == 1 ? "wear 1 1;doff 1;" : "");
                    String text = before + BEHIND[how].replace("#", "0") + BEHIND[other].replace("#", "1")
                            + "come 2;put 2 1 3;";
                    Counted x = scene(text);
                    Check.due("0 of 1: " + text, x.thinks(0, 0, 1, 1), takes(how, other, knows % 2 == 1) ? 3 : -1);
                    Check.due("1 of 0: " + text, x.thinks(0, 1, 0, 1), takes(other, how, knows / 2 == 1) ? 3 : -1);
                    Check.due("0 of 2: " + text, x.thinks(0, 0, 2, 1), how == 1 || how == 2 ? 3 : -1);
                    Check.due("2 of 0: " + text, x.thinks(0, 2, 0, 1), how == 1 ? 3 : -1);
                    Check.due("0 of 3: " + text, x.thinks(0, 0, 3, 1), -1);
                }
            }
        }
    }

    private static boolean takes(int v, int w, boolean knewBefore) {
        boolean sees = v == 1 || v == 2;
        boolean knows = knewBefore || v == 2;
        return sees && (w == 1 || w == 2 && knows);
    }

    private static void pictures() {
        Check.at("PICTURES are not taken; snap: all THINGS where they are AT then (anew)");
        after("come 0;put 0 0 2;", 0, 0, 2, 2, 2, 2, 1, 1, -1, -1, -1, 2);
        after("snap 0;come 0;put 0 0 2;snap 1;", 0, 0, 2, 2, 2, 2, 1, 1, -1, 2, -1, 2);
        after("snap 1;come 0;put 0 0 2;snap 0;", 0, 0, 2, 2, 2, 2, 1, 1, 2, -1, -1, 2);
        after("come 0;put 0 2 0;snap 0;snap 1;move 0 2 3;snap 1;", 2, 0, 3, 3, 3, 3, 1, 2, 0, 3, 0, 0);
        nothing("come 0;put 0 2 0;snap 0;", "snap 0;");
        nothing("come 0;", "snap 0;", "snap 1;");
        something("come 0;put 0 2 0;snap 0;", "snap 1;");
        // Nobody need be HERE.
        something("come 0;put 0 2 0;leave 0;", "snap 0;");
    }

    private static void lastActCounts() {
        Check.at("a SCENE of 24 acts: the first and the last one count");
        Counted x = scene("come 3;" + "come 0;".repeat(22) + "put 3 2 3;");
        Check.due("the last", x.after(0, 2, 3, 0), 3);
        Check.due("the first", x.here(0, 3, 0), 1);
        Check.due("one who is HERE, too", x.after(0, 2, 0, 1), 3);
        x = scene("come 3;put 3 2 3;" + "leave 0;".repeat(21) + "snap 1;");
        Check.due("the last", x.after(0, 2, 3, 7), 3);
        Check.due("the other PICTURE", x.after(0, 2, 3, 6), -1);
    }
}
