/** What the edge tests begin with. */
final class Given {
    /** 0 puts thing 0 into 1, leaves; 1 moves it to 2. Picture 0 was taken between. */
    static final String MOVED = "come 0;come 1;put 0 0 1;snap 0;leave 0;move 1 0 2;";
    /** 0 is back and was told, by 1 who knows better, that it is in 3. */
    static final String TOLD = "come 0;come 1;put 0 0 1;leave 0;move 1 0 2;come 0;tell 1 0 0 3;";
    /** 0 put it into 0 and moved it to 1: FIRST says 0, all other rules of 0 say 1. */
    static final String FIRST_ALONE = "come 0;put 0 0 0;move 0 0 1;";

    private Given() {
    }

    /** Some of all, an IMAGE that is older than it, a FAULT told last, and "come 2;" on the TAPE. */
    static void filled(Counted x) {
        x.state(77);
        Check.scene(x, 0, MOVED);
        Check.scene(x, 1, TOLD);
        Check.scene(x, 7, "come 3;wear 3 1;put 3 2 0;");
        Check.law(x, 0, "rule 1 3;rule 6 2;rule 2 1 when how=3;rule 5 2;pull months/2;");
        Check.law(x, 3, "pull 30;");
        x.question(0, 0, 0, 0, -1);
        x.question(1, 0, 0, 0, 1);
        x.question(0, 1, 0, 0, -1);
        x.child(0, 40, 3, 0);
        x.child(3, 20, 1, 1);
        x.told(0, 0, 0, 1);
        x.told(1, 2, 1, 2);
        x.ask(0, 1, 3);
        x.eyes(300, 900);
        x.house(10, 5);
        x.image(true);
        x.state(-5);
        Check.scene(x, 1, "come 2;put 2 1 3;");
        Check.law(x, 3, "rule 0 5;");
        x.question(7, 0, 3, 2, -1);
        x.child(0, 100, 9, 1);
        x.told(2, 0, 2, 2);
        x.eyes(4000, 20);
        x.house(3, 3);
        Check.scene(x, 2, "come 9;");
        Check.tape(x, "come 2;");
    }

    /** The TAPE has n bytes: "come 2;" and blanks behind it. */
    static void tapeOf(Counted x, int n) {
        StringBuilder s = new StringBuilder("come 2;");
        while (s.length() < 500) {
            s.append(' ');
        }
        Check.tape(x, s.toString());
        x.end(n);
    }

    static void questions(Counted x, int many) {
        for (int i = 0; i < many; i++) {
            x.question(i % 8, i % 2, i % 2, i % 3, i % 2 == 0 ? -1 : 3);
        }
    }

    static void children(Counted x, int many) {
        for (int i = 0; i < many; i++) {
            x.child(i % 4, 3 * i, i % 10, i % 2);
        }
    }

    static void answers(Counted x, int many) {
        for (int i = 0; i < many; i++) {
            x.told(0, 0, i % 4, i % 5 - 1);
        }
    }

    /** The STATE behind which the next DRAW makes it this one. */
    static int stateAhead(int next) {
        int turned = 1;
        for (int i = 0; i < 5; i++) {
            turned *= 2 - 1664525 * turned;
        }
        return (next - 1013904223) * turned;
    }

    /** The STATE that a DRAW leaves behind, by long numbers that do not wrap. */
    static int stateBehind(int state) {
        long next = (1664525L * (state & 0xffffffffL) + 1013904223L) % 4294967296L;
        return (int) next;
    }

    /** What a DRAW of m comes to that makes the STATE this one. */
    static int drawn(int state, int m) {
        return (int) ((state & 0xffffffffL) / 256 % m);
    }
}
