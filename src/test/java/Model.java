import java.math.BigInteger;
import java.util.ArrayList;
import java.util.Arrays;
import java.util.HashMap;
import java.util.List;
import java.util.Map;

/**
 * The document once more, written for plainness alone and apart from the class: maps, trees of
 * functions, exceptions, big numbers. ModelTest holds the class against it.
 */
final class Model {
    private static final int NONE = -1;

    private static final class Fault extends RuntimeException {
        private static final long serialVersionUID = 1;
        final int kind;
        final int place;

        Fault(int kind, int place) {
            super("", null, false, false);
            this.kind = kind;
            this.place = place;
        }
    }

    private interface Num {
        int of(Map<String, Integer> given);
    }

    private interface So {
        boolean of(Map<String, Integer> given);
    }

    private record Act(String word, int[] part) {
    }

    private record Line(int what, Num amount, So when) {
    }

    private record Question(int scene, int sort, int w, int thing, int v) {
    }

    private record Child(int law, int months, int words, int sort) {
    }

    private record Answer(int child, int question, int how, int box, int rule, int pulled) {
    }

    private record Token(String what, int place) {
        boolean isNumber() {
            return !what.isEmpty() && what.length() <= 4 && what.chars().allMatch(c -> c >= '0' && c <= '9');
        }
    }

    // ---- all that an image has
    private int state = 0;
    private List<List<Act>> scenes = new ArrayList<>();
    private List<List<Line>> laws = new ArrayList<>();
    private List<Question> questions = new ArrayList<>();
    private List<Child> children = new ArrayList<>();
    private List<Answer> answers = new ArrayList<>();
    private List<int[]> eyes = new ArrayList<>();
    private List<int[]> houses = new ArrayList<>();
    private Model image = null;
    // ---- and what it has not
    private final List<Integer> tape = new ArrayList<>();
    private int fault = 0;
    private int faultPlace = NONE;

    Model() {
        for (int i = 0; i < 8; i++) {
            scenes.add(List.of());
        }
        for (int i = 0; i < 4; i++) {
            laws.add(List.of());
        }
    }

    // ================= 1. texts and scenes

    int state(int v) {
        int was = state;
        state = v;
        return was;
    }

    int feed(int... n) {
        if (tape.size() + 20 > 500) {
            return NONE;
        }
        for (int x : n) {
            tape.add(x >>> 24);
            tape.add(x >>> 16 & 255);
            tape.add(x >>> 8 & 255);
            tape.add(x & 255);
        }
        return tape.size();
    }

    boolean end(int n) {
        if (n < 0 || n > tape.size()) {
            return false;
        }
        while (tape.size() > n) {
            tape.remove(tape.size() - 1);
        }
        return true;
    }

    int text(int sort, int k) {
        List<Integer> bytes = new ArrayList<>(tape);
        tape.clear();
        fault = 0;
        faultPlace = NONE;
        try {
            if (sort == 0 && k >= 0 && k < 8) {
                List<Act> acts = new Parser(bytes).scene();
                scenes.set(k, acts);
                return acts.size();
            }
            if (sort == 1 && k >= 0 && k < 4) {
                List<Line> lines = new Parser(bytes).law();
                laws.set(k, lines);
                return lines.size();
            }
        } catch (Fault f) {
            fault = f.kind;
            faultPlace = f.place;
        }
        return NONE;
    }

    int fault(int what) {
        return what == 0 ? fault : what == 1 ? faultPlace : NONE;
    }

    private static final class Parser {
        private final List<Token> tokens = new ArrayList<>();
        private int i = 0;

        Parser(List<Integer> bytes) {
            StringBuilder s = new StringBuilder();
            for (int b : bytes) {
                s.append((char) b);
            }
            java.util.regex.Matcher m =
                    java.util.regex.Pattern.compile("[a-zA-Z]+|[0-9]+|[^ \n]", java.util.regex.Pattern.DOTALL)
                    .matcher(s);
            while (m.find()) {
                tokens.add(new Token(m.group(), m.start()));
            }
            tokens.add(new Token("", bytes.size()));
        }

        private Token see() {
            return tokens.get(i);
        }

        private boolean is(String... some) {
            return Arrays.asList(some).contains(see().what);
        }

        private String take(String... some) {
            if (!is(some)) {
                throw new Fault(1, see().place);
            }
            return tokens.get(i++).what;
        }

        private int number() {
            if (!see().isNumber()) {
                throw new Fault(1, see().place);
            }
            return Integer.parseInt(tokens.get(i++).what);
        }

        private int number(int many, int not) {
            int place = see().place;
            int n = number();
            if (n >= many || n == not) {
                throw new Fault(2, place);
            }
            return n;
        }

        List<Act> scene() {
            List<Act> acts = new ArrayList<>();
            while (!is("")) {
                int place = see().place;
                String word = take("come", "leave", "put", "move", "tell", "lift", "wear", "doff", "snap");
                if (acts.size() == 24) {
                    throw new Fault(3, place);
                }
                int[] p;
                switch (word) {
                    case "put", "move" -> p = new int[] {number(4, -1), number(3, -1), number(4, -1)};
                    case "tell" -> {
                        int w = number(4, -1);
                        p = new int[] {w, number(4, w), number(3, -1), number(4, -1)};
                    }
                    case "lift" -> p = new int[] {number(4, -1), number(4, -1)};
                    case "wear" -> p = new int[] {number(4, -1), number(2, -1)};
                    case "snap" -> p = new int[] {number(2, -1)};
                    default -> p = new int[] {number(4, -1)};
                }
                take(";");
                acts.add(new Act(word, p));
            }
            return acts;
        }

        List<Line> law() {
            List<Line> lines = new ArrayList<>();
            while (!is("")) {
                int place = see().place;
                String word = take("rule", "pull");
                if (lines.size() == 16) {
                    throw new Fault(3, place);
                }
                int what = word.equals("rule") ? number(8, -1) : 8;
                Num amount = e();
                So when = g -> true;
                if (is("when")) {
                    take("when");
                    when = b(0);
                }
                take(";");
                lines.add(new Line(what, amount, when));
            }
            return lines;
        }

        private So b(int open) {
            So left = a(open);
            while (is("or")) {
                take("or");
                So l = left;
                So r = a(open);
                left = g -> l.of(g) || r.of(g);
            }
            return left;
        }

        private So a(int open) {
            So left = c(open);
            while (is("and")) {
                take("and");
                So l = left;
                So r = c(open);
                left = g -> l.of(g) && r.of(g);
            }
            return left;
        }

        private So c(int open) {
            if (is("not", "(")) {
                if (open == 8) {
                    throw new Fault(3, see().place);
                }
                if (take("not", "(").equals("not")) {
                    So it = c(open + 1);
                    return g -> !it.of(g);
                }
                So it = b(open + 1);
                take(")");
                return it;
            }
            Num l = e();
            String sign = take("<", "=", ">");
            Num r = e();
            return g -> {
                int x = l.of(g);
                int y = r.of(g);
                return sign.equals("<") ? x < y : sign.equals("=") ? x == y : x > y;
            };
        }

        private Num e() {
            Num left = t();
            while (is("+", "-")) {
                Num l = left;
                boolean plus = take("+", "-").equals("+");
                Num r = t();
                left = g -> plus ? l.of(g) + r.of(g) : l.of(g) - r.of(g);
            }
            return left;
        }

        private Num t() {
            Num left = u();
            while (is("*", "/")) {
                Num l = left;
                if (take("*", "/").equals("*")) {
                    Num r = u();
                    left = g -> l.of(g) * r.of(g);
                } else {
                    int place = see().place;
                    int n = number();
                    if (n == 0) {
                        throw new Fault(2, place);
                    }
                    left = g -> l.of(g) / n;
                }
            }
            return left;
        }

        private Num u() {
            if (see().isNumber()) {
                int n = number();
                return g -> n;
            }
            String word = take("months", "words", "how", "moves", "sort", "picture");
            return g -> g.get(word);
        }
    }

    private static final class Stage {
        final boolean[] here = new boolean[4];
        final int[] screen = {NONE, NONE, NONE, NONE};
        final boolean[][] worn = new boolean[4][2];
        final Map<String, Integer> notes = new HashMap<>();

        int get(String key, int... of) {
            return notes.getOrDefault(key + Arrays.toString(of), NONE);
        }

        void set(int value, String key, int... of) {
            notes.put(key + Arrays.toString(of), value);
        }

        boolean canSee(int v) {
            return here[v] && screen[v] != 0;
        }

        boolean takesForSeeing(int v, int w) {
            return v != w && canSee(v) && here[w] && (screen[w] == NONE || screen[w] == 1 && worn[v][1]);
        }

        int moves(int t) {
            return Math.max(0, get("moves", t));
        }

        Stage play(List<Act> acts) {
            for (Act act : acts) {
                one(act.word(), act.part());
            }
            return this;
        }

        private void one(String word, int[] p) {
            int w = p[0];
            switch (word) {
                case "come" -> here[w] = true;
                case "leave" -> here[w] = false;
                case "wear" -> {
                    screen[w] = p[1];
                    worn[w][p[1]] = true;
                }
                case "doff" -> screen[w] = NONE;
                case "put", "move" -> {
                    boolean at = get("at", p[1]) != NONE;
                    if (here[w] && at == word.equals("move")) {
                        move(w, p[1], p[2]);
                    }
                }
                case "tell" -> {
                    if (here[w] && here[p[1]]) {
                        tell(w, p[1], p[2], p[3]);
                    }
                }
                case "lift" -> {
                    if (canSee(w)) {
                        lift(w, p[1]);
                    }
                }
                default -> {
                    for (int t = 0; t < 3; t++) {
                        set(get("at", t), "picture", w, t);
                    }
                }
            }
        }

        private void move(int w, int t, int b) {
            set(get("at", t), "before", t);
            set(b, "at", t);
            set(moves(t) + 1, "moves", t);
            if (moves(t) == 1) {
                set(b, "first", t);
            }
            set(b, "put", w, t);
            for (int v = 0; v < 4; v++) {
                set(0, "saw", v, t);
                if (v != w && !canSee(v)) {
                    continue;
                }
                set(1, "saw", v, t);
                set(b, "thinks", v, t);
                set(b, "last", v, t);
                for (int x = 0; x < 4; x++) {
                    if (x != v && (x == w || takesForSeeing(v, x))) {
                        set(b, "second", v, x, t);
                    }
                }
            }
        }

        private void tell(int w, int v, int t, int b) {
            set(b, "thinks", v, t);
            for (int x = 0; x < 4; x++) {
                if (here[x] && x != v) {
                    set(b, "second", x, v, t);
                }
            }
            set(b, "second", v, w, t);
        }

        private void lift(int w, int b) {
            for (int t = 0; t < 3; t++) {
                if (get("at", t) == b) {
                    set(b, "thinks", w, t);
                    set(b, "last", w, t);
                    set(1, "saw", w, t);
                } else if (get("thinks", w, t) == b) {
                    set(NONE, "thinks", w, t);
                }
            }
            for (int v = 0; v < 4; v++) {
                for (int t = 0; t < 3 && v != w && canSee(v); t++) {
                    if (get("thinks", v, t) == b) {
                        set(b, "second", v, w, t);
                    } else if (get("second", v, w, t) == b) {
                        set(NONE, "second", v, w, t);
                    }
                }
            }
        }

        int rule(Question q, int rule) {
            int there = get("at", q.thing());
            int before = get("before", q.thing());
            int first = get("first", q.thing());
            if (q.sort() == 1) {
                return rule == 0 || rule == 5 ? there : rule == 4 ? before : rule == 7 ? first
                        : get("picture", q.w(), q.thing());
            }
            int held = get("thinks", q.w(), q.thing());
            return switch (rule) {
                case 0 -> there;
                case 1 -> held;
                case 2 -> get("last", q.w(), q.thing());
                case 3 -> get("put", q.w(), q.thing());
                case 4 -> get("saw", q.w(), q.thing()) == 1 ? there : before;
                case 5 -> q.v() == NONE ? there : get("thinks", q.v(), q.thing());
                case 6 -> q.v() == NONE ? held : get("second", q.v(), q.w(), q.thing());
                case 7 -> first;
                default -> held;
            };
        }
    }

    private static boolean in(int x, int low, int high) {
        return x >= low && x <= high;
    }

    private Stage stage(int scene) {
        return new Stage().play(scenes.get(scene));
    }

    int after(int scene, int thing, int who, int what) {
        if (!in(scene, 0, 7) || !in(thing, 0, 2) || !in(who, 0, 3) || !in(what, 0, 9)) {
            return NONE - 1;
        }
        Stage s = stage(scene);
        return switch (what) {
            case 0 -> s.get("at", thing);
            case 1 -> s.get("thinks", who, thing);
            case 2 -> s.get("last", who, thing);
            case 3 -> s.get("put", who, thing);
            case 4 -> Math.max(0, s.get("saw", who, thing));
            case 5 -> s.moves(thing);
            case 6 -> s.get("picture", 0, thing);
            case 7 -> s.get("picture", 1, thing);
            case 8 -> s.get("before", thing);
            default -> s.get("first", thing);
        };
    }

    int thinks(int scene, int v, int w, int thing) {
        if (!in(scene, 0, 7) || !in(v, 0, 3) || !in(w, 0, 3) || v == w || !in(thing, 0, 2)) {
            return NONE - 1;
        }
        return stage(scene).get("second", v, w, thing);
    }

    int here(int scene, int who, int what) {
        if (!in(scene, 0, 7) || !in(who, 0, 3) || !in(what, 0, 3)) {
            return NONE;
        }
        Stage s = stage(scene);
        boolean so = what == 0 ? s.here[who] : what == 1 ? s.canSee(who) : s.worn[who][what - 2];
        return so ? 1 : 0;
    }

    // ================= 2. questions, children, answers

    int question(int scene, int sort, int w, int thing, int v) {
        boolean look = sort == 0 && in(w, 0, 3) && in(v, NONE, 3) && v != w;
        boolean picture = sort == 1 && in(w, 0, 1);
        if (!in(scene, 0, 7) || !in(thing, 0, 2) || !look && !picture || questions.size() == 12) {
            return NONE;
        }
        questions.add(new Question(scene, sort, w, thing, v));
        return questions.size() - 1;
    }

    private int rule(int q, int rule) {
        return stage(questions.get(q).scene()).rule(questions.get(q), rule);
    }

    private int right(int q) {
        return rule(q, 1);
    }

    private boolean tells(int q) {
        return right(q) != rule(q, 0);
    }

    private boolean isQuestion(int q) {
        return in(q, 0, questions.size() - 1);
    }

    private boolean isChild(int c) {
        return in(c, 0, children.size() - 1);
    }

    int says(int q, int rule) {
        if (!isQuestion(q) || !in(rule, 0, 9)) {
            return NONE - 1;
        }
        return rule == 8 ? right(q) : rule == 9 ? tells(q) ? 1 : 0 : rule(q, rule);
    }

    int child(int law, int months, int words, int sort) {
        if (!in(law, 0, 3) || !in(months, 0, 120) || !in(words, 0, 9) || !in(sort, 0, 1)
                || children.size() == 40) {
            return NONE;
        }
        children.add(new Child(law, months, words, sort));
        return children.size() - 1;
    }

    private int amount(int law, int c, int q, int how, int what) {
        Stage s = stage(questions.get(q).scene());
        Map<String, Integer> given = new HashMap<>();
        given.put("months", children.get(c).months());
        given.put("words", children.get(c).words());
        given.put("sort", children.get(c).sort());
        given.put("how", how);
        given.put("moves", s.moves(0) + s.moves(1) + s.moves(2));
        given.put("picture", questions.get(q).sort() == 1 ? 1 : 0);
        for (Line line : laws.get(law)) {
            if (line.what() == what && line.when().of(given)) {
                return Math.max(0, Math.min(what == 8 ? 100 : 99, line.amount().of(given)));
            }
        }
        return 0;
    }

    int weight(int c, int q, int how, int rule) {
        if (!isChild(c) || !isQuestion(q) || !in(how, 0, 3) || !in(rule, 0, 8)) {
            return NONE;
        }
        return amount(children.get(c).law(), c, q, how, rule);
    }

    private int draw(int m) {
        state = 1664525 * state + 1013904223;
        return (state >>> 8) % m;
    }

    int ask(int c, int q, int how) {
        if (!isChild(c) || !isQuestion(q) || !in(how, 0, 3) || answers.size() == 300) {
            return NONE - 1;
        }
        int all = 0;
        for (int r = 0; r < 8; r++) {
            all += weight(c, q, how, r);
        }
        int rule = NONE;
        int box;
        if (all == 0) {
            box = draw(4);
        } else {
            int d = draw(all);
            int sum = 0;
            while (sum <= d) {
                rule++;
                sum += weight(c, q, how, rule);
            }
            box = rule(q, rule);
        }
        boolean pulled = draw(100) < weight(c, q, how, 8);
        answers.add(new Answer(c, q, how, pulled ? rule(q, 0) : box, rule, pulled ? 1 : 0));
        return answers.get(answers.size() - 1).box();
    }

    int told(int c, int q, int how, int box) {
        if (!isChild(c) || !isQuestion(q) || !in(how, 0, 3) || !in(box, NONE, 3) || answers.size() == 300) {
            return NONE;
        }
        answers.add(new Answer(c, q, how, box, NONE, 0));
        return answers.size();
    }

    int answer(int i, int what) {
        if (!in(i, 0, answers.size() - 1)) {
            return NONE - 1;
        }
        Answer a = answers.get(i);
        return switch (what) {
            case 0 -> a.child();
            case 1 -> a.question();
            case 2 -> a.how();
            case 3 -> a.box();
            case 4 -> a.rule();
            case 5 -> a.pulled();
            default -> NONE - 1;
        };
    }

    int chance(int law, int c, int q, int how, int box) {
        if (!in(law, 0, 3) || !isChild(c) || !isQuestion(q) || !in(how, 0, 3) || !in(box, NONE, 3)) {
            return NONE;
        }
        int all = 0;
        int so = 0;
        for (int r = 0; r < 8; r++) {
            int w = amount(law, c, q, how, r);
            all += w;
            so += rule(q, r) == box ? w : 0;
        }
        if (all == 0) {
            all = 4;
            so = box == NONE ? 0 : 1;
        }
        int pull = amount(law, c, q, how, 8);
        return ((100 - pull) * so + (rule(q, 0) == box ? pull * all : 0)) * 10 / all;
    }

    // ================= 3. rules parted, odds, pulls, beside

    int parted(int a, int b) {
        if (!in(a, 0, 7) || !in(b, 0, 7) || a == b) {
            return NONE;
        }
        int set = 0;
        for (int q = 0; q < questions.size(); q++) {
            set += rule(q, a) != rule(q, b) ? 1 << q : 0;
        }
        return set;
    }

    int fewest(int rules) {
        if (!in(rules, 1, 255)) {
            return NONE;
        }
        List<Integer> couples = new ArrayList<>();
        for (int a = 0; a < 8; a++) {
            for (int b = 0; b < a; b++) {
                if ((rules & 1 << a) != 0 && (rules & 1 << b) != 0) {
                    couples.add(parted(a, b));
                }
            }
        }
        for (int many = 0; many <= questions.size(); many++) {
            for (int set = 0; set < 1 << questions.size(); set++) {
                int s = set;
                if (Integer.bitCount(set) == many && couples.stream().allMatch(c -> (c & s) != 0)) {
                    return set;
                }
            }
        }
        return NONE;
    }

    int make(int q, int a, int b) {
        if (!isQuestion(q) || !in(a, 0, 7) || !in(b, 0, 7) || a == b) {
            return NONE;
        }
        List<Act> acts = scenes.get(questions.get(q).scene());
        if (acts.size() == 24) {
            return NONE;
        }
        for (int n = 0; n < 148; n++) {
            Act act;
            if (n < 4) {
                act = new Act("come", new int[] {n});
            } else if (n >= 10 && n < 14) {
                act = new Act("leave", new int[] {n - 10});
            } else if (n >= 100) {
                act = new Act("move", new int[] {(n - 100) / 12, (n - 100) / 4 % 3, (n - 100) % 4});
            } else {
                continue;
            }
            List<Act> more = new ArrayList<>(acts);
            more.add(act);
            Stage s = new Stage().play(more);
            if (s.rule(questions.get(q), a) != s.rule(questions.get(q), b)) {
                return n;
            }
        }
        return NONE;
    }

    private static int share(List<int[]> said, List<Integer> given, int rule) {
        BigInteger all = BigInteger.ZERO;
        BigInteger own = BigInteger.ZERO;
        for (int r = 0; r < 8; r++) {
            BigInteger product = BigInteger.ONE;
            for (int i = 0; i < given.size(); i++) {
                product = product.multiply(BigInteger.valueOf(said.get(i)[r] == given.get(i) ? 9 : 1));
            }
            all = all.add(product);
            own = r == rule ? product : own;
        }
        return own.multiply(BigInteger.valueOf(1000)).divide(all).intValue();
    }

    private int[] allRules(int q) {
        int[] said = new int[8];
        for (int r = 0; r < 8; r++) {
            said[r] = rule(q, r);
        }
        return said;
    }

    int odds(int c, int rule) {
        if (!isChild(c) || !in(rule, 0, 8)) {
            return NONE;
        }
        List<int[]> said = new ArrayList<>();
        List<Integer> given = new ArrayList<>();
        for (Answer a : answers) {
            if (a.child() == c && given.size() < 12) {
                said.add(allRules(a.question()));
                given.add(a.box());
            }
        }
        if (rule < 8) {
            return share(said, given, rule);
        }
        int best = 0;
        for (int r = 0; r < 8; r++) {
            best = share(said, given, r) > share(said, given, best) ? r : best;
        }
        return best;
    }

    int need(int rule, int odds) {
        if (!in(rule, 0, 7) || !in(odds, 1, 1000)) {
            return NONE;
        }
        for (int n = 0; n <= questions.size(); n++) {
            List<int[]> said = new ArrayList<>();
            List<Integer> given = new ArrayList<>();
            for (int q = 0; q < n; q++) {
                said.add(allRules(q));
                given.add(rule(q, rule));
            }
            if (share(said, given, rule) >= odds) {
                return n;
            }
        }
        return NONE;
    }

    int pulls(int how, int what) {
        if (!in(how, NONE, 3) || !in(what, 0, 4)) {
            return NONE;
        }
        List<Answer> some = answers.stream().filter(a -> (how == NONE || a.how() == how)
                && questions.get(a.question()).sort() == 0 && tells(a.question())).toList();
        int all = some.size();
        int there = (int) some.stream().filter(a -> a.box() == rule(a.question(), 0)).count();
        if (what == 0 || what == 1) {
            return what == 0 ? all : there;
        }
        if (all == 0) {
            return NONE;
        }
        int share = 1000 * there / all;
        int off = 1000 / (int) Math.sqrt(all);
        return what == 2 ? share : what == 3 ? Math.max(0, share - off) : Math.min(1000, share + off);
    }

    /** NONE, 0 or 1. */
    private int passes(int c, int sort) {
        int last = NONE;
        for (Answer a : answers) {
            if (a.child() == c && questions.get(a.question()).sort() == sort && tells(a.question())) {
                last = a.box() == right(a.question()) ? 1 : 0;
            }
        }
        return last;
    }

    int beside(int what) {
        int[] many = new int[4];
        for (int c = 0; c < children.size(); c++) {
            String both = passes(c, 0) + "," + passes(c, 1);
            int i = List.of("1,1", "1,0", "0,1", "0,0").indexOf(both);
            if (i >= 0) {
                many[i]++;
            }
        }
        if (what == 4) {
            int all = Arrays.stream(many).sum();
            return all != 0 && 4 * (many[1] + many[2]) <= all ? 1 : 0;
        }
        return in(what, 0, 3) ? many[what] : NONE;
    }

    // ================= 4. eyes, houses, sorts, curve, score, next, image

    int eyes(int right, int wrong) {
        if (!in(right, 0, 9999) || !in(wrong, 0, 9999) || eyes.size() == 40) {
            return NONE;
        }
        eyes.add(new int[] {right, wrong});
        return eyes.size();
    }

    private static BigInteger choose(int n, int k) {
        BigInteger top = BigInteger.ONE;
        BigInteger bottom = BigInteger.ONE;
        for (int i = 0; i < k; i++) {
            top = top.multiply(BigInteger.valueOf(n - i));
            bottom = bottom.multiply(BigInteger.valueOf(i + 1));
        }
        return top.divide(bottom);
    }

    private boolean isLong(int i, int j, int k) {
        int least = new int[] {0, 100, 300, 600}[i];
        List<int[]> rows = new ArrayList<>();
        for (int[] row : eyes) {
            if (row[0] + row[1] >= least && !(j == 2 && Math.max(row[0], row[1]) > 3000)) {
                rows.add(j != 1 ? row : new int[] {Math.min(3000, row[0]), Math.min(3000, row[1])});
            }
        }
        if (k == 0) {
            int less = rows.stream().mapToInt(r -> r[1] - r[0]).sum();
            return less * 10 > rows.stream().mapToInt(r -> r[1] + r[0]).sum();
        }
        int n = (int) rows.stream().filter(r -> r[0] != r[1]).count();
        int c = (int) rows.stream().filter(r -> r[1] > r[0]).count();
        BigInteger ways = BigInteger.ZERO;
        for (int x = c; x <= n; x++) {
            ways = ways.add(choose(n, x));
        }
        BigInteger rare = ways.multiply(BigInteger.valueOf(1000)).divide(BigInteger.TWO.pow(n));
        return n != 0 && rare.intValue() < 50;
    }

    int way(int k) {
        if (!in(k, 0, 24)) {
            return NONE;
        }
        if (k < 24) {
            return isLong(k / 6, k % 6 / 2, k % 2) ? 1 : 0;
        }
        int hill = 0;
        for (int w = 0; w < 24; w++) {
            hill += way(w);
        }
        return hill;
    }

    int house(int n, int k) {
        if (!in(n, 1, 999) || !in(k, 0, n) || houses.size() == 20) {
            return NONE;
        }
        houses.add(new int[] {n, k});
        return houses.size() - 1;
    }

    int houses(int what) {
        int n = houses.stream().mapToInt(h -> h[0]).sum();
        int k = houses.stream().mapToInt(h -> h[1]).sum();
        int joined = n == 0 ? NONE : 1000 * k / n;
        if (what == 0) {
            return joined;
        }
        if (in(what, 10, 9 + houses.size())) {
            return 1000 * houses.get(what - 10)[1] / houses.get(what - 10)[0];
        }
        if (!in(what, 1, 3)) {
            return NONE;
        }
        long apart = 0;
        int off = 0;
        int have = 0;
        for (int i = 0; i < houses.size(); i++) {
            int m = houses.get(i)[0];
            int share = houses(10 + i);
            apart += (long) m * (share - joined) * (share - joined);
            off |= Math.abs(share - joined) > 1000 / (int) Math.sqrt(m) ? 1 << i : 0;
            have |= share >= 500 ? 1 << i : 0;
        }
        return what == 1 ? (int) (apart / 1000) : what == 2 ? off : have;
    }

    int sorts(int sort, int rule) {
        if (!in(sort, 0, 1) || !in(rule, 0, 8)) {
            return NONE;
        }
        int many = 0;
        for (int c = 0; c < children.size(); c++) {
            if (children.get(c).sort() == sort && passes(c, 0) == 0 && (rule == 8 || odds(c, 8) == rule)) {
                many++;
            }
        }
        return many;
    }

    int curve(int step, int what) {
        if (!in(step, NONE, 20) || !in(what, 0, 1)) {
            return NONE - 1;
        }
        int[] all = new int[21];
        int[] right = new int[21];
        for (Answer a : answers) {
            if (questions.get(a.question()).sort() == 0 && tells(a.question())) {
                int s = children.get(a.child()).months() / 6;
                all[s]++;
                right[s] += a.box() == right(a.question()) ? 1 : 0;
            }
        }
        if (step != NONE) {
            return what == 0 ? all[step] : right[step];
        }
        for (int s = 0; s <= 20; s++) {
            boolean so = all[s] > 0;
            for (int behind = s; behind <= 20; behind++) {
                so = so && (all[behind] == 0 || 2 * right[behind] >= all[behind]);
            }
            if (so) {
                return s;
            }
        }
        return NONE;
    }

    private static int level(int c) {
        if (c == 0) {
            return -50;
        }
        int k = 0;
        while ((1 << k + 1) <= c) {
            k++;
        }
        return 10 * k + (c - (1 << k)) * 10 / (1 << k);
    }

    int score(int law) {
        if (!in(law, NONE, 3)) {
            return NONE - 999999;
        }
        if (law == NONE) {
            int best = 0;
            for (int l = 1; l < 4; l++) {
                best = score(l) > score(best) ? l : best;
            }
            return best;
        }
        int sum = 0;
        for (Answer a : answers) {
            sum += level(chance(law, a.child(), a.question(), a.how(), a.box()));
        }
        return sum;
    }

    int next(int one, int two, int c, int how, int what) {
        if (!in(one, 0, 3) || !in(two, 0, 3) || !isChild(c) || !in(how, 0, 3) || !in(what, 0, 1)) {
            return NONE;
        }
        int best = NONE;
        int most = NONE;
        for (int q = 0; q < questions.size(); q++) {
            int far = 0;
            for (int box = NONE; box < 4; box++) {
                far += Math.abs(chance(one, c, q, how, box) - chance(two, c, q, how, box));
            }
            if (far > most) {
                most = far;
                best = q;
            }
        }
        return what == 0 ? best : most;
    }

    private void copyFrom(Model m) {
        state = m.state;
        scenes = new ArrayList<>(m.scenes);
        laws = new ArrayList<>(m.laws);
        questions = new ArrayList<>(m.questions);
        children = new ArrayList<>(m.children);
        answers = new ArrayList<>(m.answers);
        eyes = new ArrayList<>(m.eyes);
        houses = new ArrayList<>(m.houses);
    }

    boolean image(boolean taken) {
        if (taken) {
            image = new Model();
            image.copyFrom(this);
            return true;
        }
        if (image == null) {
            return false;
        }
        copyFrom(image);
        return true;
    }

    int look(int what) {
        return switch (what) {
            case 0 -> questions.size();
            case 1 -> children.size();
            case 2 -> answers.size();
            case 3 -> eyes.size();
            case 4 -> houses.size();
            case 5 -> state;
            case 6 -> image == null ? 0 : 1;
            default -> NONE;
        };
    }
}
