/** Promises 33 and 34: THE IMAGE, and how many there are of all. */
public final class ImageTest {
    private ImageTest() {
    }

    public static void main(String[] args) {
        none();
        all();
        more();
        look();
        Check.close();
    }

    private static void none() {
        Check.at("promise 33, none");
        Counted x = new Counted();
        x.state(9);
        x.house(1, 1);
        Check.due("none", x.image(false), false);
        Check.due("nothing changed", x.look(5), 9);
        Check.due("nothing changed", x.look(4), 1);
        Check.due("none", x.look(6), 0);
        Check.due("taken", x.image(true), true);
        Check.due("there", x.look(6), 1);
        Check.due("back", x.image(false), true);
        Check.due("still there", x.look(6), 1);
    }

    private static Counted filled() {
        Counted x = new Counted();
        x.state(77);
        Check.scene(x, 0, "come 0;come 1;put 0 0 1;leave 0;move 1 0 2;");
        Check.scene(x, 7, "come 3;");
        Check.law(x, 0, "rule 1 5;pull months;");
        Check.law(x, 3, "rule 0 5;");
        x.question(0, 0, 0, 0, -1);
        x.child(0, 40, 3, 1);
        x.told(0, 0, 2, 1);
        x.eyes(300, 900);
        x.house(10, 5);
        return x;
    }

    private static void same(Counted x, String when) {
        int[] due = {1, 1, 1, 1, 1, 77, 1};
        for (int what = 0; what < 7; what++) {
            Check.due(when + ": look(" + what + ")", x.look(what), due[what]);
        }
        Check.due(when + ": scene 0", x.after(0, 0, 0, 5), 2);
        Check.due(when + ": scene 7", x.here(7, 3, 0), 1);
        Check.due(when + ": scene 1", x.here(1, 0, 0), 0);
        Check.due(when + ": says", x.says(0, 1), 1);
        Check.due(when + ": there", x.says(0, 0), 2);
        Check.due(when + ": law 0", x.weight(0, 0, 0, 1), 5);
        Check.due(when + ": pull", x.weight(0, 0, 0, 8), 40);
        Check.due(when + ": law 3", x.chance(3, 0, 0, 0, 2), 1000);
        Check.due(when + ": law 1", x.chance(1, 0, 0, 0, 2), 250);
        Check.due(when + ": answer", x.answer(0, 3), 1);
        Check.due(when + ": how", x.answer(0, 2), 2);
        Check.due(when + ": way", x.way(0), 1);
        Check.due(when + ": house", x.houses(10), 500);
        Check.due(when + ": no other one", x.houses(11), -1);
        Check.due(when + ": score", x.score(0), 91);
    }

    private static void spoil(Counted x, int how) {
        x.state(how);
        Check.scene(x, 0, "come 0;put 0 0 3;");
        Check.scene(x, 1, "come 0;");
        Check.scene(x, 7, "");
        Check.law(x, 0, "rule 2 1;");
        Check.law(x, 1, "rule 2 1;");
        Check.law(x, 3, "");
        for (int i = 0; i < how; i++) {
            x.question(1, 1, 1, 1, -1);
            x.child(2, 3, 4, 0);
            x.ask(0, 0, 1);
            x.told(0, 0, 0, 0);
            x.eyes(900, 1);
            x.house(7, 7);
        }
    }

    private static void all() {
        Check.at("promise 33, all");
        Counted x = filled();
        Check.due("taken", x.image(true), true);
        same(x, "taken");
        for (int how = 0; how < 4; how++) {
            spoil(x, how);
            Check.due("back", x.image(false), true);
            same(x, "back " + how);
        }
        // The TAPE and the latest FAULT are no part of it.
        Check.scene(x, 0, "come 9;");
        Check.tape(x, "come 2;");
        x.image(false);
        Check.due("fault", x.fault(0), 2);
        Check.due("place", x.fault(1), 5);
        Check.due("the tape stays", x.text(0, 2), 1);
        Check.due("the tape stays", x.here(2, 2, 0), 1);
        // Answers go on from the STATE that was.
        x.image(false);
        int first = x.ask(0, 0, 0);
        int state = x.look(5);
        x.image(false);
        Check.due("once more", x.ask(0, 0, 0), first);
        Check.due("once more", x.look(5), state);
    }

    private static void more() {
        Check.at("promise 33, anew");
        Counted x = filled();
        x.image(true);
        x.told(0, 0, 0, 2);
        x.image(true);
        x.told(0, 0, 0, 3);
        x.image(false);
        Check.due("the later one", x.look(2), 2);
        Check.due("the later one", x.answer(1, 3), 2);
        // What comes after going back takes the next places, and the image stays as it was.
        Check.due("told", x.told(0, 0, 0, 0), 3);
        Check.due("question", x.question(7, 0, 0, 0, -1), 1);
        Check.due("says", x.says(1, 0), -1);
        x.image(false);
        Check.due("gone again", x.says(1, 0), -2);
        Check.due("gone again", x.look(2), 2);
    }

    private static void look() {
        Check.at("promise 34");
        Counted x = new Counted();
        x.state(-5);
        for (int i = 0; i < 2; i++) {
            x.question(0, 0, 0, 0, -1);
        }
        for (int i = 0; i < 3; i++) {
            x.child(0, 0, 0, 0);
        }
        for (int i = 0; i < 4; i++) {
            x.told(0, 0, 0, 0);
        }
        for (int i = 0; i < 5; i++) {
            x.eyes(0, 0);
        }
        for (int i = 0; i < 6; i++) {
            x.house(1, 0);
        }
        int[] due = {2, 3, 4, 5, 6, -5, 0};
        for (int what = 0; what < 7; what++) {
            Check.due("look(" + what + ")", x.look(what), due[what]);
        }
        for (int b : new int[] {-1, 7, Integer.MIN_VALUE, Integer.MAX_VALUE}) {
            Check.due("look(" + b + ")", x.look(b), -1);
        }
    }
}
