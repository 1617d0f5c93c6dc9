/** Promises 7 to 9: what stands at the end of a SCENE. */
public final class SceneTest {
    private SceneTest() {
    }

    public static void main(String[] args) {
        moved();
        unmoved();
        screens();
        clearScreens();
        taking();
        telling();
        lifting();
        watching();
        pictures();
        otherThings();
        otherScenes();
        wrongInputs();
        Check.close();
    }

    private static Counted scene(String text) {
        Counted x = new Counted();
        Check.due("read " + text, Check.scene(x, 0, text) >= 0, true);
        return x;
    }

    private static void after(Counted x, int thing, int who, int... due) {
        for (int what = 0; what < due.length; what++) {
            Check.due("after(0, " + thing + ", " + who + ", " + what + ")", x.after(0, thing, who, what), due[what]);
        }
    }

    private static void moved() {
        Check.at("promise 7, moved");
        Counted x = scene("come 0;come 1;put 0 0 1;leave 0;move 1 0 2;move 1 0 3;");
        after(x, 0, 0, 3, 1, 1, 1, 0, 3, -1, -1, 2, 1);
        after(x, 0, 1, 3, 3, 3, 3, 1, 3, -1, -1, 2, 1);
        after(x, 0, 2, 3, -1, -1, -1, 0, 3, -1, -1, 2, 1);
        after(x, 1, 0, -1, -1, -1, -1, 0, 0, -1, -1, -1, -1);
        Check.at("promise 8, moved");
        Check.due("1 of 0", x.thinks(0, 1, 0, 0), 1);
        Check.due("0 of 1", x.thinks(0, 0, 1, 0), 1);
        Check.due("2 of 0", x.thinks(0, 2, 0, 0), -1);
        // Put again where it is: a MOVE all the same, and ahead of it the same BOX.
        x = scene("come 0;put 0 2 3;move 0 2 3;");
        after(x, 2, 0, 3, 3, 3, 3, 1, 2, -1, -1, 3, 3);
    }

    private static void unmoved() {
        Check.at("promise 7, nothing");
        after(scene("put 0 0 1;"), 0, 0, -1, -1, -1, -1, 0, 0, -1, -1, -1, -1);
        after(scene("come 0;move 0 0 1;"), 0, 0, -1, -1, -1, -1, 0, 0, -1, -1, -1, -1);
        after(scene("come 0;put 0 0 1;put 0 0 2;"), 0, 0, 1, 1, 1, 1, 1, 1, -1, -1, -1, 1);
        after(scene("come 0;put 0 0 1;leave 0;move 0 0 2;"), 0, 0, 1, 1, 1, 1, 1, 1, -1, -1, -1, 1);
        after(scene("come 0;leave 0;put 0 0 1;"), 0, 0, -1, -1, -1, -1, 0, 0, -1, -1, -1, -1);
        // Coming twice, leaving twice, leaving without having come.
        Counted x = scene("come 0;come 0;leave 1;leave 0;leave 0;come 1;put 1 1 0;");
        after(x, 1, 0, 0, -1, -1, -1, 0, 1, -1, -1, -1, 0);
        after(x, 1, 1, 0, 0, 0, 0, 1, 1, -1, -1, -1, 0);
        Check.at("promise 9, nobody");
        Check.due("here", x.here(0, 0, 0), 0);
        Check.due("here", x.here(0, 1, 0), 1);
        Check.due("here", x.here(0, 2, 0), 0);
    }

    private static void screens() {
        Check.at("promise 7, screens");
        // Behind the screen 1 does not see; a mover behind one sees what it moves.
        Counted x = scene("come 0;come 1;put 0 0 0;wear 1 0;move 0 0 1;move 1 0 2;");
        after(x, 0, 1, 2, 2, 2, 2, 1, 3, -1, -1, 1, 0);
        after(x, 0, 0, 2, 2, 2, 1, 1, 3, -1, -1, 1, 0);
        Check.at("promise 8, screens");
        Check.due("0 of the mover", x.thinks(0, 0, 1, 0), 2);
        // 1 saw that 0 saw the putting; then nothing of others.
        Check.due("1 of 0", x.thinks(0, 1, 0, 0), 0);
        Check.at("promise 9, screens");
        Check.due("sees", x.here(0, 0, 1), 1);
        Check.due("sees not", x.here(0, 1, 1), 0);
        Check.due("worn", x.here(0, 1, 2), 1);
        Check.due("not worn", x.here(0, 1, 3), 0);
        Check.due("not here", x.here(0, 2, 1), 0);
        x = scene("come 0;wear 0 0;wear 0 1;wear 2 0;doff 2;wear 3 1;");
        Check.due("in place of another", x.here(0, 0, 1), 1);
        Check.due("worn both", x.here(0, 0, 2) + x.here(0, 0, 3), 2);
        Check.due("worn while away", x.here(0, 2, 2), 1);
        Check.due("away one can't see", x.here(0, 3, 1), 0);
        x = scene("come 0;wear 0 1;wear 0 0;leave 0;come 0;");
        Check.due("it stays on", x.here(0, 0, 1), 0);
        x = scene("come 0;wear 0 0;doff 0;doff 1;");
        Check.due("doffed", x.here(0, 0, 1), 1);
        Check.due("still worn once", x.here(0, 0, 2), 1);
        Check.due("never worn", x.here(0, 1, 2), 0);
    }

    private static void clearScreens() {
        Check.at("promise 7, clear screens");
        Counted x = scene("come 0;come 1;wear 1 1;put 0 0 0;");
        after(x, 0, 1, 0, 0, 0, -1, 1, 1, -1, -1, -1, 0);
        Check.at("promise 8, clear screens");
        // 0 has not worn the clear one: 0 does not take 1 for seeing.
        Check.due("0 of 1", x.thinks(0, 0, 1, 0), -1);
        Check.due("1 of 0", x.thinks(0, 1, 0, 0), 0);
        x = scene("come 0;come 1;wear 0 1;doff 0;wear 1 1;put 0 0 0;");
        Check.due("0 knows it", x.thinks(0, 0, 1, 0), 0);
        x = scene("come 0;come 1;wear 0 0;doff 0;wear 1 1;put 0 0 0;");
        Check.due("0 knows the other one", x.thinks(0, 0, 1, 0), -1);
        // Alike from outside, but one behind screen 0 is not taken for seeing, though V has worn the clear one.
        x = scene("come 0;come 1;wear 0 1;wear 1 0;put 0 0 0;");
        Check.due("0 of 1 behind screen 0", x.thinks(0, 0, 1, 0), -1);
    }

    private static void taking() {
        Check.at("promise 8, who takes whom for seeing");
        Counted x = scene("come 0;come 1;come 2;wear 2 0;put 0 0 3;");
        Check.due("1 of 0", x.thinks(0, 1, 0, 0), 3);
        Check.due("1 of 2", x.thinks(0, 1, 2, 0), -1);
        Check.due("2 of 0", x.thinks(0, 2, 0, 0), -1);
        Check.due("0 of 1", x.thinks(0, 0, 1, 0), 3);
        Check.due("0 of 3", x.thinks(0, 0, 3, 0), -1);
        // A mover behind screen 0 takes no one for seeing, and is thought of by those who see.
        x = scene("come 0;come 1;wear 0 0;put 0 0 3;");
        Check.due("0 of 1", x.thinks(0, 0, 1, 0), -1);
        Check.due("1 of 0", x.thinks(0, 1, 0, 0), 3);
        // What was thought before stays where nothing is seen.
        x = scene("come 0;come 1;put 0 0 3;wear 0 0;move 0 0 2;");
        Check.due("0 of 1", x.thinks(0, 0, 1, 0), 3);
        Check.due("1 of 0", x.thinks(0, 1, 0, 0), 2);
        // Of a mover behind the clear one, too, by one who has not worn it.
        x = scene("come 0;come 1;wear 0 1;put 0 0 3;");
        Check.due("1 of 0", x.thinks(0, 1, 0, 0), 3);
    }

    private static void telling() {
        Check.at("promise 7, telling");
        Counted x = scene("come 0;come 1;come 2;wear 2 0;put 0 0 0;tell 0 1 0 2;tell 0 3 0 3;tell 3 0 0 3;");
        after(x, 0, 1, 0, 2, 0, -1, 1, 1, -1, -1, -1, 0);
        after(x, 0, 3, 0, -1, -1, -1, 0, 1, -1, -1, -1, 0);
        after(x, 0, 0, 0, 0, 0, 0, 1, 1, -1, -1, -1, 0);
        Check.at("promise 8, telling");
        Check.due("1 of 0", x.thinks(0, 1, 0, 0), 2);
        Check.due("0 of 1", x.thinks(0, 0, 1, 0), 2);
        Check.due("2 of 1, though behind a screen", x.thinks(0, 2, 1, 0), 2);
        Check.due("2 of 0", x.thinks(0, 2, 0, 0), -1);
        Check.due("3 of 1, not here", x.thinks(0, 3, 1, 0), -1);
        // Of a thing that is nowhere, too.
        x = scene("come 2;come 3;tell 3 2 1 1;");
        after(x, 1, 2, -1, 1, -1, -1, 0, 0, -1, -1, -1, -1);
        Check.due("3 of 2", x.thinks(0, 3, 2, 1), 1);
        Check.due("2 of 3", x.thinks(0, 2, 3, 1), 1);
    }

    private static void lifting() {
        Check.at("promise 7, lifting");
        Counted x = scene("come 0;come 1;put 0 0 1;put 0 1 1;leave 1;move 0 0 2;move 0 1 3;come 1;lift 1 1;");
        after(x, 0, 1, 2, -1, 1, -1, 0, 2, -1, -1, 1, 1);
        x = scene("come 0;come 1;put 0 0 1;leave 1;move 0 0 2;come 1;lift 1 2;");
        after(x, 0, 1, 2, 2, 2, -1, 1, 2, -1, -1, 1, 1);
        // Not here, or not seeing: nothing.
        x = scene("come 0;put 0 0 1;lift 1 1;");
        after(x, 0, 1, 1, -1, -1, -1, 0);
        x = scene("come 0;come 1;wear 1 0;put 0 0 1;lift 1 1;");
        after(x, 0, 1, 1, -1, -1, -1, 0);
        x = scene("come 0;come 1;wear 1 0;put 0 0 1;wear 1 1;lift 1 1;");
        after(x, 0, 1, 1, 1, 1, -1, 1);
        // Another box leaves all as it was.
        x = scene("come 0;come 1;put 0 0 1;leave 1;move 0 0 2;come 1;lift 1 3;");
        after(x, 0, 1, 2, 1, 1, -1, 0);
        // A thing told to be in a box is gone from one's thoughts when it is not there, even one that is nowhere.
        x = scene("come 0;come 1;tell 0 1 2 3;lift 1 3;");
        after(x, 2, 1, -1, -1, -1, -1, 0);
    }

    private static void watching() {
        Check.at("promise 8, who sees a lifting");
        // 0 thinks the thing in 2: 0 thinks that 1, who lifts 2, thinks so.
        Counted x = scene("come 0;come 1;put 0 0 1;leave 1;move 0 0 2;come 1;lift 1 2;");
        Check.due("0 of 1", x.thinks(0, 0, 1, 0), 2);
        // 1 lifts 1, where 0 thinks 1 thinks it is, and 0 knows that it is not.
        x = scene("come 0;come 1;put 0 0 1;leave 1;move 0 0 2;come 1;lift 1 1;");
        Check.due("0 of 1", x.thinks(0, 0, 1, 0), -1);
        Check.due("1 of 0 stays", x.thinks(0, 1, 0, 0), 1);
        x = scene("come 0;come 1;put 0 0 1;leave 1;move 0 0 2;come 1;lift 1 3;");
        Check.due("0 of 1, another box", x.thinks(0, 0, 1, 0), 1);
        // What V thinks counts, not where it is.
        x = scene("come 0;come 1;put 0 0 1;tell 1 0 0 3;lift 1 3;");
        Check.due("0 of 1", x.thinks(0, 0, 1, 0), 3);
        x = scene("come 0;come 1;put 0 0 1;tell 1 0 0 3;lift 1 1;");
        Check.due("0 of 1", x.thinks(0, 0, 1, 0), 3);
        // One away or behind screen 0 sees no lifting; behind the clear one one does.
        x = scene("come 0;come 1;put 0 0 1;leave 1;move 0 0 2;come 1;wear 0 0;lift 1 2;");
        Check.due("0 behind a screen", x.thinks(0, 0, 1, 0), 1);
        x = scene("come 0;come 1;put 0 0 1;leave 1;move 0 0 2;come 1;leave 0;lift 1 2;");
        Check.due("0 away", x.thinks(0, 0, 1, 0), 1);
        x = scene("come 0;come 1;put 0 0 1;leave 1;move 0 0 2;come 1;wear 0 1;lift 1 2;");
        Check.due("0 behind the clear one", x.thinks(0, 0, 1, 0), 2);
        // One who lifts behind an unknown clear screen is seen lifting all the same.
        x = scene("come 0;come 1;put 0 0 1;leave 1;move 0 0 2;come 1;wear 1 1;lift 1 2;");
        Check.due("0 of 1 behind the clear one", x.thinks(0, 0, 1, 0), 2);
    }

    private static void pictures() {
        Check.at("promise 7, pictures");
        Counted x = scene("come 0;put 0 0 1;snap 0;move 0 0 2;snap 1;move 0 0 3;put 0 1 0;");
        after(x, 0, 3, 3, -1, -1, -1, 0, 3, 1, 2, 2, 1);
        after(x, 1, 3, 0, -1, -1, -1, 0, 1, -1, -1, -1, 0);
        x = scene("come 0;put 0 0 1;snap 0;move 0 0 2;put 0 1 3;snap 0;");
        after(x, 0, 3, 2, -1, -1, -1, 0, 2, 2, -1, 1, 1);
        after(x, 1, 0, 3, 3, 3, 3, 1, 1, 3, -1, -1, 3);
    }

    private static void otherThings() {
        Check.at("promise 7, each thing by itself");
        Counted x = scene("come 0;come 1;put 0 1 2;put 0 2 3;snap 1;leave 1;move 0 1 0;move 0 2 1;come 1;lift 1 0;lift 1 3;");
        after(x, 0, 1, -1, -1, -1, -1, 0, 0, -1, -1, -1, -1);
        after(x, 1, 1, 0, 0, 0, -1, 1, 2, -1, 2, 2, 2);
        after(x, 2, 1, 1, -1, 3, -1, 0, 2, -1, 3, 3, 3);
        Check.at("promise 8, each thing by itself");
        Check.due("0 of 1, thing 1", x.thinks(0, 0, 1, 1), 0);
        Check.due("0 of 1, thing 2", x.thinks(0, 0, 1, 2), -1);
        Check.due("1 of 0, thing 1", x.thinks(0, 1, 0, 1), 2);
        Check.due("1 of 0, thing 2", x.thinks(0, 1, 0, 2), 3);
    }

    private static void otherScenes() {
        Check.at("promises 7 to 9, a scene after another one");
        Counted x = scene("come 0;come 1;wear 0 0;wear 0 1;wear 1 0;put 0 0 1;snap 0;snap 1;move 0 0 2;tell 0 1 1 1;");
        for (int who = 0; who < 4; who++) {
            for (int thing = 0; thing < 3; thing++) {
                x.after(0, 0, 0, 0);
                for (int what = 0; what < 10; what++) {
                    boolean many = what == 4 || what == 5;
                    Check.due("after(1, ..)", x.after(1, thing, who, what), many ? 0 : -1);
                }
                Check.due("thinks(0, 1, 0, 1)", x.thinks(0, 1, 0, 1), 1);
                Check.due("thinks(1, ..)", x.thinks(1, who, (who + 1) % 4, thing), -1);
                Check.due("thinks(0, 0, 1, 1)", x.thinks(0, 0, 1, 1), 1);
            }
            for (int what = 0; what < 4; what++) {
                Check.due("here(0, 0, ..)", x.here(0, 0, what), 1);
                Check.due("here(1, ..)", x.here(1, who, what), 0);
            }
        }
        Check.scene(x, 1, "come 2;come 3;put 2 1 2;");
        Check.due("thinks, no screen worn in it", x.thinks(1, 2, 3, 1), 2);
    }

    private static void wrongInputs() {
        Counted x = scene("come 0;put 0 0 0;");
        int[] far = {-2, -1, 8, 100, Integer.MIN_VALUE, Integer.MAX_VALUE};
        Check.at("promise 7, wrong inputs");
        for (int bad : far) {
            Check.due("scene " + bad, x.after(bad, 0, 0, 0), -2);
            Check.due("what " + bad, x.after(0, 0, 0, bad == 8 ? 10 : bad), -2);
        }
        for (int bad : new int[] {-1, 3, Integer.MIN_VALUE, Integer.MAX_VALUE}) {
            Check.due("thing " + bad, x.after(0, bad, 0, 0), -2);
            Check.due("thinks thing " + bad, x.thinks(0, 0, 1, bad), -2);
        }
        for (int bad : new int[] {-1, 4, Integer.MIN_VALUE, Integer.MAX_VALUE}) {
            Check.due("who " + bad, x.after(0, 0, bad, 0), -2);
            Check.at("promise 8, wrong inputs");
            Check.due("v " + bad, x.thinks(0, bad, 0, 0), -2);
            Check.due("w " + bad, x.thinks(0, 0, bad, 0), -2);
            Check.at("promise 9, wrong inputs");
            Check.due("who " + bad, x.here(0, bad, 0), -1);
            Check.due("what " + bad, x.here(0, 0, bad), -1);
        }
        for (int bad : far) {
            Check.due("thinks scene " + bad, x.thinks(bad, 0, 1, 0), -2);
            Check.due("here scene " + bad, x.here(bad, 0, 0), -1);
        }
        Check.at("promise 8, wrong inputs");
        for (int v = 0; v < 4; v++) {
            Check.due("the same", x.thinks(0, v, v, 0), -2);
        }
        Check.due("a right one", x.thinks(7, 3, 2, 2), -1);
    }
}
