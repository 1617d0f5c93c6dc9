import java.util.ArrayList;
import java.util.List;
import java.util.stream.IntStream;

/**
 * Whether a call that is refused changes nothing that can be seen. Looking at all takes more calls than
 * an object has, so each part of it is looked at on an object that was set up anew in the same way.
 */
final class Edge {
    /** How an object is set up; the same calls each time. */
    interface Setup {
        void on(Counted x);
    }

    /** One call, its answer as a number. */
    interface Call {
        long of(Counted x);
    }

    /** One call of which one argument is looked at. */
    interface CallWith {
        long of(Counted x, int n);
    }

    /** The numbers that no argument may be, beside those just outside of what it may be. */
    private static final int[] FAR = {Integer.MIN_VALUE, Integer.MIN_VALUE + 1, -1000, 1000000, Integer.MAX_VALUE};

    private static final List<Call> ALL = all();
    private static final List<Call> TAPE_CONTENT = tapeContent();
    private static final List<Call> TAPE_SIZE = List.of(x -> x.feed(0, 0, 0, 0, 0), x -> x.text(0, 7),
            x -> x.fault(0), x -> x.fault(1));
    private static final List<Call> FAULT = List.of(x -> x.fault(0), x -> x.fault(1));

    private final Setup setup;
    private final int room;
    private final long[] now;
    private final long[] image;
    private final long[] fault;
    private final long[] tapeContent;
    private final long[] tapeSize;

    Edge(Setup setup) {
        this.setup = setup;
        Counted x = new Counted();
        setup.on(x);
        room = Counted.MOST - x.calls() - 2;
        Check.due("the setup leaves calls", room > 0, true);
        now = seen(null, false, ALL);
        image = seen(null, true, ALL);
        fault = seen(null, false, FAULT);
        tapeContent = seen(null, false, TAPE_CONTENT);
        tapeSize = seen(null, false, TAPE_SIZE);
    }

    static int[] upTo(int n) {
        return IntStream.range(0, n).toArray();
    }

    /** What is just outside of low .. high, and what is far outside. */
    static int[] outside(int low, int high) {
        List<Integer> some = new ArrayList<>();
        for (int n : FAR) {
            if (n < low - 1 || n > high + 1) {
                some.add(n);
            }
        }
        if (low > Integer.MIN_VALUE) {
            some.add(low - 1);
        }
        if (high < Integer.MAX_VALUE) {
            some.add(high + 1);
        }
        return some.stream().mapToInt(Integer::intValue).toArray();
    }

    /** A call's answer on an object set up for it alone. */
    void answers(String what, Call call, long due) {
        Counted x = new Counted();
        setup.on(x);
        Check.due(what, call.of(x), due);
    }

    /** A call that is refused: its answer, and that it changes nothing at all. */
    void refused(String what, Call call, long due) {
        answers(what, call, due);
        same(what + ", then", seen(call, false, ALL), now);
        same(what + ", then in the IMAGE", seen(call, true, ALL), image);
        same(what + ", then fault", seen(call, false, FAULT), fault);
        same(what + ", then the TAPE", seen(call, false, TAPE_CONTENT), tapeContent);
        same(what + ", then the TAPE's size", seen(call, false, TAPE_SIZE), tapeSize);
    }

    /** An argument that must be low .. high: whatever is outside is refused. */
    void outside(String what, int low, int high, CallWith call, long due) {
        for (int n : outside(low, high)) {
            refused(what + " " + n, x -> call.of(x, n), due);
        }
    }

    /** A text() that is refused: it empties the TAPE and tells a FAULT, and changes nothing else. */
    void refusedText(String what, Call call, int fault, int place) {
        answers(what, call, -1);
        same(what + ", then", seen(call, false, ALL), now);
        same(what + ", then in the IMAGE", seen(call, true, ALL), image);
        same(what + ", then fault", seen(call, false, FAULT), new long[] {fault, place});
        same(what + ", then the TAPE's size", seen(call, false, List.of(x -> x.end(1) ? 1 : 0,
                x -> x.feed(0, 0, 0, 0, 0))), new long[] {0, 20});
    }

    private static void same(String what, long[] got, long[] want) {
        for (int i = 0; i < want.length; i++) {
            if (got[i] != want[i]) {
                Check.due(what + " look " + i, got[i], want[i]);
                return;
            }
        }
        Check.due(what, 1, 1);
    }

    private long[] seen(Call first, boolean goesBack, List<Call> looks) {
        long[] answers = new long[looks.size()];
        Counted x = null;
        int left = 0;
        for (int i = 0; i < answers.length; i++) {
            if (left == 0) {
                x = new Counted();
                setup.on(x);
                if (first != null) {
                    first.of(x);
                }
                if (goesBack) {
                    x.image(false);
                }
                left = room;
            }
            answers[i] = looks.get(i).of(x);
            left--;
        }
        return answers;
    }

    /** The TAPE is read as SCENE 7. */
    private static List<Call> tapeContent() {
        List<Call> looks = new ArrayList<>();
        looks.add(x -> x.text(0, 7));
        looks.add(x -> x.fault(0));
        looks.add(x -> x.fault(1));
        for (int who : upTo(4)) {
            for (int what : upTo(4)) {
                looks.add(x -> x.here(7, who, what));
            }
        }
        return looks;
    }

    private static List<Call> all() {
        List<Call> looks = new ArrayList<>();
        for (int what : upTo(7)) {
            looks.add(x -> x.look(what));
        }
        for (int scene : upTo(8)) {
            addScene(looks, scene);
        }
        for (int q : upTo(12)) {
            addQuestion(looks, q);
        }
        for (int child : new int[] {0, 1, 2, 39}) {
            for (int rule : upTo(9)) {
                looks.add(x -> x.odds(child, rule));
            }
        }
        for (int what : upTo(6)) {
            for (int i : new int[] {0, 1, 2, 3, 4, 5, 6, 7, 298, 299}) {
                looks.add(x -> x.answer(i, what));
            }
        }
        for (int k : upTo(25)) {
            looks.add(x -> x.way(k));
        }
        for (int what : upTo(30)) {
            looks.add(x -> x.houses(what));
        }
        for (int step : upTo(21)) {
            looks.add(x -> x.curve(step, 0));
            looks.add(x -> x.curve(step, 1));
        }
        return looks;
    }

    private static void addScene(List<Call> looks, int scene) {
        for (int who : upTo(4)) {
            for (int thing : upTo(3)) {
                for (int what : upTo(10)) {
                    looks.add(x -> x.after(scene, thing, who, what));
                }
                for (int other : upTo(4)) {
                    looks.add(x -> x.thinks(scene, who, other, thing));
                }
            }
            for (int what : upTo(4)) {
                looks.add(x -> x.here(scene, who, what));
            }
        }
    }

    private static void addQuestion(List<Call> looks, int q) {
        for (int rule : upTo(10)) {
            looks.add(x -> x.says(q, rule));
        }
        for (int how : new int[] {0, 3}) {
            for (int child : new int[] {0, 1, 2, 39}) {
                for (int rule : upTo(9)) {
                    looks.add(x -> x.weight(child, q, how, rule));
                }
            }
            for (int law : upTo(4)) {
                for (int box : new int[] {-1, 0, 1, 2, 3}) {
                    looks.add(x -> x.chance(law, 0, q, how, box));
                }
            }
        }
    }
}
