/**
 * A WhereShe that counts its calls: what it answers is promised for 512 of them, so a test that asks
 * for one more is itself at fault.
 */
final class Counted {
    static final int MOST = 512;

    private final WhereShe x = new WhereShe();
    private int calls = 0;

    int calls() {
        return calls;
    }

    private WhereShe once() {
        calls++;
        if (calls > MOST) {
            throw new IllegalStateException("a test asks an object more than " + MOST + " calls");
        }
        return x;
    }

    int state(int v) {
        return once().state(v);
    }

    int feed(int a, int b, int c, int d, int e) {
        return once().feed(a, b, c, d, e);
    }

    boolean end(int n) {
        return once().end(n);
    }

    int text(int sort, int k) {
        return once().text(sort, k);
    }

    int fault(int what) {
        return once().fault(what);
    }

    int after(int scene, int thing, int who, int what) {
        return once().after(scene, thing, who, what);
    }

    int thinks(int scene, int v, int w, int thing) {
        return once().thinks(scene, v, w, thing);
    }

    int here(int scene, int who, int what) {
        return once().here(scene, who, what);
    }

    int question(int scene, int sort, int w, int thing, int v) {
        return once().question(scene, sort, w, thing, v);
    }

    int says(int question, int rule) {
        return once().says(question, rule);
    }

    int child(int law, int months, int words, int sort) {
        return once().child(law, months, words, sort);
    }

    int weight(int child, int question, int how, int rule) {
        return once().weight(child, question, how, rule);
    }

    int ask(int child, int question, int how) {
        return once().ask(child, question, how);
    }

    int told(int child, int question, int how, int box) {
        return once().told(child, question, how, box);
    }

    int answer(int i, int what) {
        return once().answer(i, what);
    }

    int chance(int law, int child, int question, int how, int box) {
        return once().chance(law, child, question, how, box);
    }

    int parted(int a, int b) {
        return once().parted(a, b);
    }

    int fewest(int rules) {
        return once().fewest(rules);
    }

    int make(int question, int a, int b) {
        return once().make(question, a, b);
    }

    int odds(int child, int rule) {
        return once().odds(child, rule);
    }

    int need(int rule, int odds) {
        return once().need(rule, odds);
    }

    int pulls(int how, int what) {
        return once().pulls(how, what);
    }

    int beside(int what) {
        return once().beside(what);
    }

    int eyes(int right, int wrong) {
        return once().eyes(right, wrong);
    }

    int way(int k) {
        return once().way(k);
    }

    int house(int n, int k) {
        return once().house(n, k);
    }

    int houses(int what) {
        return once().houses(what);
    }

    int sorts(int sort, int rule) {
        return once().sorts(sort, rule);
    }

    int curve(int step, int what) {
        return once().curve(step, what);
    }

    int score(int law) {
        return once().score(law);
    }

    int next(int one, int two, int child, int how, int what) {
        return once().next(one, two, child, how, what);
    }

    boolean image(boolean taken) {
        return once().image(taken);
    }

    int look(int what) {
        return once().look(what);
    }
}
