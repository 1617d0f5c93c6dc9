import java.util.Arrays;

/**
 * Where somebody will look for a thing that was moved. What each call answers stands in DOC.md; the
 * words in capitals there are the words used here.
 */
public final class WhereShe {
    public static final int NONE = -1;

    // What those calls answer that could answer NONE itself as something true.
    private static final int CANNOT = NONE - 1;
    private static final int NO_SCORE = NONE - 999999;

    private static final int WHOS = 4;
    private static final int THINGS = 3;
    private static final int BOXES = 4;
    private static final int SCREENS = 2;
    private static final int PICTURES = 2;
    private static final int CLEAR = 1;
    private static final int SCENES = 8;
    private static final int LAWS = 4;
    private static final int HOWS = 4;
    private static final int STEPS = 21;
    private static final int WAYS = 24;

    private static final int TAPE = 500;
    private static final int ACTS = 24;
    private static final int LINES = 16;
    private static final int LINE = 4;
    private static final int QUESTIONS = 12;
    private static final int OPEN = 8;

    private static final int RULES = 8;
    private static final int PULL = 8;
    private static final int RIGHT = 8;
    private static final int TELLS = 9;
    private static final int MOVES = 10;
    private static final int SAID = 11;

    private static final int THERE = 0;
    private static final int LOOK = 0;
    private static final int PICTURE = 1;

    // Columns of the kept rows.
    private static final int Q_SCENE = 0;
    private static final int Q_SORT = 1;
    private static final int Q_WHO = 2;
    private static final int Q_THING = 3;
    private static final int Q_VIEWER = 4;
    private static final int C_LAW = 0;
    private static final int C_MONTHS = 1;
    private static final int C_WORDS = 2;
    private static final int C_SORT = 3;
    private static final int A_CHILD = 0;
    private static final int A_QUESTION = 1;
    private static final int A_HOW = 2;
    private static final int A_BOX = 3;
    private static final int A_FACTS = 6;

    // Kinds of acts, as SCENE_WORDS has them.
    private static final int COME = 0;
    private static final int LEAVE = 1;
    private static final int PUT = 2;
    private static final int MOVE = 3;
    private static final int TELL = 4;
    private static final int LIFT = 5;
    private static final int WEAR = 6;
    private static final int DOFF = 7;
    private static final int SNAP = 8;

    // An act is kept as one int: its kind in the lowest four bits, each part from its own bit on.
    private static final int BIT_WHO = 4;
    private static final int BIT_OTHER = 6;
    private static final int BIT_THING = 8;
    private static final int BIT_BOX = 10;
    private static final int BIT_SCREEN = 12;
    private static final int BIT_PICTURE = 13;

    // Every word ends with a blank, so that no word is the beginning of another one.
    private static final String SCENE_WORDS = "come leave put move tell lift wear doff snap ";
    private static final String LAW_WORDS =
            "rule pull when or and not months words how moves sort picture ";

    // What a token is: signs are told by their own number, words from WORD on.
    private static final int END = 0;
    private static final int BAD = 1;
    private static final int NUMBER = 2;
    private static final int WORD = 1000;
    private static final int RULE_WORD = WORD;
    private static final int PULL_WORD = WORD + 1;
    private static final int WHEN = WORD + 2;
    private static final int OR = WORD + 3;
    private static final int AND = WORD + 4;
    private static final int NOT = WORD + 5;
    private static final int MONTHS = WORD + 6;
    private static final int GIVEN = 6;

    // All that stands in a TEXT beside words and numbers.
    private static final String SIGNS = ";+-*/()<=>";

    // A LAW's code: a number of 0 and more stands for itself, each of these for what is to be done.
    // What is given stands from OP_GIVEN downwards, as LAW_WORDS has it from months on.
    private static final int OP_PLUS = -1;
    private static final int OP_MINUS = -2;
    private static final int OP_TIMES = -3;
    private static final int OP_PART = -4;
    private static final int OP_LESS = -5;
    private static final int OP_SAME = -6;
    private static final int OP_MORE = -7;
    private static final int OP_NOT = -8;
    private static final int OP_AND = -9;
    private static final int OP_OR = -10;
    private static final int OP_GIVEN = -11;

    private static final int[] LEAST_SUM = {0, 100, 300, 600};
    private static final int LONGEST = 3000;

    private final Kept now = new Kept();
    private final Kept kept = new Kept();
    private boolean hasImage = false;
    private final Reader reader = new Reader();
    private final World world = new World();
    private final World trial = new World();
    private final Scale scale = new Scale();
    // Rows used again by every call, since all calls of a run share one room.
    private final int[] agreed = new int[RULES];
    private final int[] couples = new int[RULES * (RULES - 1) / 2];
    private final int[] apart = new int[BOXES + 1];
    private final int[] tally = new int[4];

    public WhereShe() {
    }

    public int state(int v) {
        int was = now.state;
        now.state = v;
        return was;
    }

    public int feed(int a, int b, int c, int d, int e) {
        if (!reader.hasRoom(20)) {
            return NONE;
        }
        reader.take(a);
        reader.take(b);
        reader.take(c);
        reader.take(d);
        reader.take(e);
        return reader.size;
    }

    public boolean end(int n) {
        return reader.shorten(n);
    }

    public int text(int sort, int k) {
        boolean scene = sort == 0 && within(k, 0, SCENES - 1);
        boolean law = sort == 1 && within(k, 0, LAWS - 1);
        reader.start(scene ? SCENE_WORDS : LAW_WORDS);
        if (!scene && !law) {
            return NONE;
        }
        int count = scene ? reader.readScene() : reader.readLaw();
        if (reader.fault != 0) {
            return NONE;
        }
        if (scene) {
            now.takeScene(k, reader, count);
            settleAll(k);
        } else {
            now.takeLaw(k, reader, count);
        }
        return count;
    }

    public int fault(int what) {
        return what == 0 ? reader.fault : what == 1 ? reader.faultPlace : NONE;
    }

    public int after(int scene, int thing, int who, int what) {
        if (!isScene(scene) || !isThing(thing) || !isWho(who)) {
            return CANNOT;
        }
        play(scene);
        int own = who * THINGS + thing;
        switch (what) {
            case 0: return world.place[thing];
            case 1: return world.held[own];
            case 2: return world.last[own];
            case 3: return world.put[own];
            case 4: return world.saw[own];
            case 5: return world.moves[thing];
            case 6: return world.picture[thing];
            case 7: return world.picture[THINGS + thing];
            case 8: return world.before[thing];
            case 9: return world.first[thing];
            default: return CANNOT;
        }
    }

    public int thinks(int scene, int v, int w, int thing) {
        if (!isScene(scene) || !isWho(v) || !isWho(w) || v == w || !isThing(thing)) {
            return CANNOT;
        }
        play(scene);
        return world.second[(v * WHOS + w) * THINGS + thing];
    }

    public int here(int scene, int who, int what) {
        if (!isScene(scene) || !isWho(who)) {
            return NONE;
        }
        play(scene);
        switch (what) {
            case 0: return world.here[who];
            case 1: return world.canSee(who) ? 1 : 0;
            case 2: return world.worn[who * SCREENS];
            case 3: return world.worn[who * SCREENS + CLEAR];
            default: return NONE;
        }
    }

    public int question(int scene, int sort, int w, int thing, int v) {
        if (!isScene(scene) || !isThing(thing)) {
            return NONE;
        }
        boolean look = sort == LOOK && isWho(w) && (v == NONE || isWho(v)) && v != w;
        boolean picture = sort == PICTURE && within(w, 0, PICTURES - 1);
        if (!look && !picture) {
            return NONE;
        }
        int q = now.questions.add(scene, sort, w, thing, look ? v : NONE, 0);
        if (q != NONE) {
            play(scene);
            settle(q);
        }
        return q;
    }

    public int says(int question, int rule) {
        if (!now.questions.has(question) || !within(rule, 0, TELLS)) {
            return CANNOT;
        }
        return now.saidOf(question, rule);
    }

    public int child(int law, int months, int words, int sort) {
        if (!isLaw(law) || !within(months, 0, 120) || !within(words, 0, 9) || !within(sort, 0, 1)) {
            return NONE;
        }
        return now.children.add(law, months, words, sort, 0, 0);
    }

    public int weight(int child, int question, int how, int rule) {
        if (!canAsk(child, question, how) || !within(rule, 0, PULL)) {
            return NONE;
        }
        weigh(lawOf(child), child, question, how);
        return scale.weight[rule];
    }

    public int ask(int child, int question, int how) {
        if (!canAsk(child, question, how) || now.answers.isFull()) {
            return CANNOT;
        }
        weigh(lawOf(child), child, question, how);
        int rule = NONE;
        int box;
        if (scale.all == 0) {
            box = draw(BOXES);
        } else {
            rule = scale.ruleOf(draw(scale.all));
            box = now.saidOf(question, rule);
        }
        boolean pulled = draw(100) < scale.weight[PULL];
        if (pulled) {
            box = now.saidOf(question, THERE);
        }
        now.answers.add(child, question, how, box, rule, pulled ? 1 : 0);
        return box;
    }

    public int told(int child, int question, int how, int box) {
        if (!canAsk(child, question, how) || !isAnswer(box)) {
            return NONE;
        }
        if (now.answers.add(child, question, how, box, NONE, 0) == NONE) {
            return NONE;
        }
        return now.answers.size;
    }

    public int answer(int i, int what) {
        if (!now.answers.has(i) || !within(what, 0, A_FACTS - 1)) {
            return CANNOT;
        }
        return now.answers.at(i, what);
    }

    public int chance(int law, int child, int question, int how, int box) {
        if (!isLaw(law) || !canAsk(child, question, how) || !isAnswer(box)) {
            return NONE;
        }
        weigh(law, child, question, how);
        return weighedChance(question, box);
    }

    public int parted(int a, int b) {
        if (!isRule(a) || !isRule(b) || a == b) {
            return NONE;
        }
        return partedBy(a, b);
    }

    public int fewest(int rules) {
        if (!within(rules, 1, 255)) {
            return NONE;
        }
        int many = listCouples(rules);
        int best = NONE;
        for (int set = 0; set < 1 << now.questions.size; set++) {
            boolean fewer = best == NONE || Integer.bitCount(set) < Integer.bitCount(best);
            if (fewer && partsAll(set, many)) {
                best = set;
            }
        }
        return best;
    }

    public int make(int question, int a, int b) {
        if (!now.questions.has(question) || !isRule(a) || !isRule(b)) {
            return NONE;
        }
        int scene = now.questions.at(question, Q_SCENE);
        if (!isScene(scene) || now.actCount[scene] >= ACTS) {
            return NONE;
        }
        play(scene);
        for (int w = 0; w < WHOS; w++) {
            if (actParts(COME | w << BIT_WHO, question, a, b)) {
                return w;
            }
        }
        for (int w = 0; w < WHOS; w++) {
            if (actParts(LEAVE | w << BIT_WHO, question, a, b)) {
                return 10 + w;
            }
        }
        return firstMove(question, a, b);
    }

    public int odds(int child, int rule) {
        if (!now.children.has(child) || !within(rule, 0, RULES)) {
            return NONE;
        }
        countAgreed(child);
        return rule == RULES ? mostAgreed() : oddsOf(rule);
    }

    public int need(int rule, int odds) {
        if (!isRule(rule) || !within(odds, 1, 1000)) {
            return NONE;
        }
        Arrays.fill(agreed, 0);
        if (oddsOf(rule) >= odds) {
            return 0;
        }
        for (int q = 0; q < now.questions.size; q++) {
            agree(q, now.saidOf(q, rule));
            if (oddsOf(rule) >= odds) {
                return q + 1;
            }
        }
        return NONE;
    }

    public int pulls(int how, int what) {
        if (!within(how, NONE, HOWS - 1) || !within(what, 0, 4)) {
            return NONE;
        }
        int all = 0;
        int there = 0;
        for (int i = 0; i < now.answers.size; i++) {
            boolean asked = how == NONE || now.answers.at(i, A_HOW) == how;
            int q = now.answers.at(i, A_QUESTION);
            if (asked && isTelling(q, LOOK)) {
                all++;
                there += now.answers.at(i, A_BOX) == now.saidOf(q, THERE) ? 1 : 0;
            }
        }
        if (what < 2) {
            return what == 0 ? all : there;
        }
        if (all == 0) {
            return NONE;
        }
        int share = 1000 * there / all;
        int off = what == 2 ? 0 : thousandByRoot(all);
        return cut(what == 3 ? share - off : share + off, 1000);
    }

    public int beside(int what) {
        if (!within(what, 0, 4)) {
            return NONE;
        }
        Arrays.fill(tally, 0);
        for (int c = 0; c < now.children.size; c++) {
            int look = lastRight(c, LOOK);
            int picture = lastRight(c, PICTURE);
            if (look != NONE && picture != NONE) {
                int kind = (look == 1 ? 0 : 2) + (picture == 1 ? 0 : 1);
                tally[kind]++;
            }
        }
        if (what < 4) {
            return tally[what];
        }
        int all = tally[0] + tally[1] + tally[2] + tally[3];
        return all > 0 && 4 * (tally[1] + tally[2]) <= all ? 1 : 0;
    }

    public int eyes(int right, int wrong) {
        if (!within(right, 0, 9999) || !within(wrong, 0, 9999)) {
            return NONE;
        }
        if (now.eyes.add(right, wrong, 0, 0, 0, 0) == NONE) {
            return NONE;
        }
        return now.eyes.size;
    }

    public int way(int k) {
        if (!within(k, 0, WAYS)) {
            return NONE;
        }
        if (k < WAYS) {
            return isLong(k) ? 1 : 0;
        }
        int hill = 0;
        for (int i = 0; i < WAYS; i++) {
            hill += isLong(i) ? 1 : 0;
        }
        return hill;
    }

    public int house(int n, int k) {
        if (!within(n, 1, 999) || !within(k, 0, n)) {
            return NONE;
        }
        return now.houses.add(n, k, 0, 0, 0, 0);
    }

    public int houses(int what) {
        if (what >= 10 && now.houses.has(what - 10)) {
            return shareOf(what - 10);
        }
        switch (what) {
            case 0: return joined();
            case 1: return farApart();
            case 2: return offHouses();
            case 3: return haveHouses();
            default: return NONE;
        }
    }

    public int sorts(int sort, int rule) {
        if (!within(sort, 0, 1) || !within(rule, 0, RULES)) {
            return NONE;
        }
        int many = 0;
        for (int c = 0; c < now.children.size; c++) {
            boolean fails = now.children.at(c, C_SORT) == sort && lastRight(c, LOOK) == 0;
            if (fails && (rule == RULES || itsRule(c) == rule)) {
                many++;
            }
        }
        return many;
    }

    public int curve(int step, int what) {
        if (!within(step, NONE, STEPS - 1) || !within(what, 0, 1)) {
            return CANNOT;
        }
        if (step == NONE) {
            return turn();
        }
        countStep(step);
        return tally[what];
    }

    public int score(int law) {
        if (!within(law, NONE, LAWS - 1)) {
            return NO_SCORE;
        }
        if (law != NONE) {
            return scoreOf(law);
        }
        int best = 0;
        int most = scoreOf(0);
        for (int k = 1; k < LAWS; k++) {
            int points = scoreOf(k);
            if (points > most) {
                best = k;
                most = points;
            }
        }
        return best;
    }

    public int next(int one, int two, int child, int how, int what) {
        if (!isLaw(one) || !isLaw(two) || !now.children.has(child) || !within(how, 0, HOWS - 1)
                || !within(what, 0, 1)) {
            return NONE;
        }
        int best = NONE;
        int farthest = NONE;
        for (int q = 0; q < now.questions.size; q++) {
            int far = farApartBy(one, two, child, q, how);
            if (far > farthest) {
                best = q;
                farthest = far;
            }
        }
        return what == 0 ? best : farthest;
    }

    public boolean image(boolean taken) {
        if (taken) {
            kept.copyFrom(now);
            hasImage = true;
        } else if (hasImage) {
            now.copyFrom(kept);
        }
        return hasImage;
    }

    public int look(int what) {
        switch (what) {
            case 0: return now.questions.size;
            case 1: return now.children.size;
            case 2: return now.answers.size;
            case 3: return now.eyes.size;
            case 4: return now.houses.size;
            case 5: return now.state;
            case 6: return hasImage ? 1 : 0;
            default: return NONE;
        }
    }

    private static boolean within(int value, int low, int high) {
        return value >= low && value <= high;
    }

    private static int cut(int value, int most) {
        return Math.max(0, Math.min(most, value));
    }

    private static boolean isScene(int k) {
        return within(k, 0, SCENES - 1);
    }

    private static boolean isLaw(int k) {
        return within(k, 0, LAWS - 1);
    }

    private static boolean isThing(int thing) {
        return within(thing, 0, THINGS - 1);
    }

    private static boolean isWho(int who) {
        return within(who, 0, WHOS - 1);
    }

    private static boolean isRule(int rule) {
        return within(rule, 0, RULES - 1);
    }

    private static boolean isAnswer(int box) {
        return within(box, NONE, BOXES - 1);
    }

    private boolean canAsk(int child, int question, int how) {
        return now.children.has(child) && now.questions.has(question) && within(how, 0, HOWS - 1);
    }

    private int lawOf(int child) {
        return now.children.at(child, C_LAW);
    }

    private int draw(int many) {
        now.state = 1664525 * now.state + 1013904223;
        return many > 0 ? (now.state >>> 8) % many : 0;
    }

    /** The greatest whole number whose square is not above n (n stays below some thousands). */
    private static int root(int n) {
        int r = 0;
        while (r < 1000 && (r + 1) * (r + 1) <= n) {
            r++;
        }
        return r;
    }

    private static int thousandByRoot(int n) {
        int r = root(n);
        return r > 0 ? 1000 / r : 1000;
    }

    private void play(int scene) {
        world.begin();
        if (!isScene(scene)) {
            return;
        }
        for (int i = 0; i < now.actCount[scene] && i < ACTS; i++) {
            world.act(now.acts[scene * ACTS + i]);
        }
    }

    /** What the RULES say to a QUESTION is kept beside it; its SCENE has been played. */
    private void settle(int q) {
        if (!now.questions.has(q)) {
            return;
        }
        for (int rule = 0; rule <= RIGHT; rule++) {
            now.said[q * SAID + rule] = ruleIn(world, q, rule);
        }
        boolean tells = now.saidOf(q, RIGHT) != now.saidOf(q, THERE);
        now.said[q * SAID + TELLS] = tells ? 1 : 0;
        now.said[q * SAID + MOVES] = world.allMoves();
    }

    private void settleAll(int scene) {
        play(scene);
        for (int q = 0; q < now.questions.size; q++) {
            if (now.questions.at(q, Q_SCENE) == scene) {
                settle(q);
            }
        }
    }

    private int ruleIn(World at, int q, int rule) {
        int who = now.questions.at(q, Q_WHO);
        int thing = now.questions.at(q, Q_THING);
        if (now.questions.at(q, Q_SORT) == PICTURE) {
            return at.ofPicture(who, thing, rule);
        }
        return at.ofLook(who, thing, now.questions.at(q, Q_VIEWER), rule);
    }

    private boolean isTelling(int q, int sort) {
        return now.questions.at(q, Q_SORT) == sort && now.saidOf(q, TELLS) == 1;
    }

    /** What is given comes in the order of LAW_WORDS, from months on. */
    private void weigh(int law, int child, int question, int how) {
        scale.give(0, now.children.at(child, C_MONTHS));
        scale.give(1, now.children.at(child, C_WORDS));
        scale.give(2, how);
        scale.give(3, now.saidOf(question, MOVES));
        scale.give(4, now.children.at(child, C_SORT));
        scale.give(5, now.questions.at(question, Q_SORT) == PICTURE ? 1 : 0);
        scale.weigh(now, law);
    }

    /** The CHANCE of an answer to the QUESTION for which the WEIGHTS were made last. */
    private int weighedChance(int question, int box) {
        int all = scale.all;
        int so = 0;
        if (all == 0) {
            all = BOXES;
            so = box == NONE ? 0 : 1;
        } else {
            for (int rule = 0; rule < RULES; rule++) {
                so += now.saidOf(question, rule) == box ? scale.weight[rule] : 0;
            }
        }
        int pull = scale.weight[PULL];
        int parts = (100 - pull) * so;
        if (box == now.saidOf(question, THERE)) {
            parts += pull * all;
        }
        return all > 0 ? parts * 10 / all : 0;
    }

    private int partedBy(int a, int b) {
        int set = 0;
        for (int q = 0; q < now.questions.size; q++) {
            set |= now.saidOf(q, a) != now.saidOf(q, b) ? 1 << q : 0;
        }
        return set;
    }

    private int listCouples(int rules) {
        int many = 0;
        for (int a = 0; a < RULES; a++) {
            for (int b = a + 1; b < RULES; b++) {
                boolean both = (rules >> a & 1) == 1 && (rules >> b & 1) == 1;
                if (both && many < couples.length) {
                    couples[many] = partedBy(a, b);
                    many++;
                }
            }
        }
        return many;
    }

    private boolean partsAll(int set, int many) {
        for (int i = 0; i < many && i < couples.length; i++) {
            if ((couples[i] & set) == 0) {
                return false;
            }
        }
        return true;
    }

    private boolean actParts(int act, int question, int a, int b) {
        trial.copyFrom(world);
        trial.act(act);
        return ruleIn(trial, question, a) != ruleIn(trial, question, b);
    }

    private int firstMove(int question, int a, int b) {
        for (int n = 0; n < WHOS * THINGS * BOXES; n++) {
            int who = n / (THINGS * BOXES);
            int thing = n / BOXES % THINGS;
            int box = n % BOXES;
            int act = MOVE | who << BIT_WHO | thing << BIT_THING | box << BIT_BOX;
            if (actParts(act, question, a, b)) {
                return 100 + n;
            }
        }
        return NONE;
    }

    private void agree(int question, int box) {
        for (int rule = 0; rule < RULES; rule++) {
            agreed[rule] += now.saidOf(question, rule) == box ? 1 : 0;
        }
    }

    private void countAgreed(int child) {
        Arrays.fill(agreed, 0);
        int many = 0;
        for (int i = 0; i < now.answers.size && many < 12; i++) {
            if (now.answers.at(i, A_CHILD) == child) {
                agree(now.answers.at(i, A_QUESTION), now.answers.at(i, A_BOX));
                many++;
            }
        }
    }

    private int oddsOf(int rule) {
        long all = 0;
        for (int r = 0; r < RULES; r++) {
            all += powerOfNine(agreed[r]);
        }
        return isRule(rule) && all > 0 ? (int) (1000 * powerOfNine(agreed[rule]) / all) : 0;
    }

    private static long powerOfNine(int n) {
        long power = 1;
        for (int i = 0; i < n && i < 12; i++) {
            power *= 9;
        }
        return power;
    }

    /** Who agreed most often has the greatest ODDS, for they grow with it. */
    private int mostAgreed() {
        int best = 0;
        for (int rule = 1; rule < RULES; rule++) {
            if (agreed[rule] > agreed[best]) {
                best = rule;
            }
        }
        return best;
    }

    private int itsRule(int child) {
        countAgreed(child);
        return mostAgreed();
    }

    /** 1 or 0: whether a CHILD's last ANSWER to one of a sort that TELLS something is RIGHT; NONE without one. */
    private int lastRight(int child, int sort) {
        for (int i = now.answers.size - 1; i >= 0; i--) {
            int q = now.answers.at(i, A_QUESTION);
            if (now.answers.at(i, A_CHILD) == child && isTelling(q, sort)) {
                return isRight(i) ? 1 : 0;
            }
        }
        return NONE;
    }

    private boolean isRight(int i) {
        return now.answers.at(i, A_BOX) == now.saidOf(now.answers.at(i, A_QUESTION), RIGHT);
    }

    private boolean isLong(int k) {
        int least = LEAST_SUM[Math.floorMod(k / 6, LEAST_SUM.length)];
        int reading = k / 2 % 3;
        int less = 0;
        int all = 0;
        int unlike = 0;
        int wrongs = 0;
        for (int i = 0; i < now.eyes.size; i++) {
            int right = now.eyes.at(i, 0);
            int wrong = now.eyes.at(i, 1);
            boolean tooLong = right > LONGEST || wrong > LONGEST;
            if (right + wrong < least || reading == 2 && tooLong) {
                continue;
            }
            if (reading == 1) {
                right = Math.min(right, LONGEST);
                wrong = Math.min(wrong, LONGEST);
            }
            less += wrong - right;
            all += wrong + right;
            unlike += wrong != right ? 1 : 0;
            wrongs += wrong > right ? 1 : 0;
        }
        return k % 2 == 0 ? less * 10 > all : unlike > 0 && isRare(wrongs, unlike);
    }

    /** Whether c and more of n (40 at most) would come by coins alone fewer than 50 times of 1000. */
    private static boolean isRare(int c, int n) {
        long ways = 1;
        long added = 0;
        for (int i = 0; i <= n && i <= 40; i++) {
            added += i >= c ? ways : 0;
            ways = ways * (n - i) / (i + 1);
        }
        return added * 1000 >> n < 50;
    }

    private int shareOf(int house) {
        int n = now.houses.at(house, 0);
        return n > 0 ? 1000 * now.houses.at(house, 1) / n : 0;
    }

    private int joined() {
        int all = 0;
        int pass = 0;
        for (int i = 0; i < now.houses.size; i++) {
            all += now.houses.at(i, 0);
            pass += now.houses.at(i, 1);
        }
        return all > 0 ? 1000 * pass / all : NONE;
    }

    private int farApart() {
        int middle = joined();
        long added = 0;
        for (int i = 0; i < now.houses.size; i++) {
            long off = shareOf(i) - middle;
            added += now.houses.at(i, 0) * off * off;
        }
        return (int) (added / 1000);
    }

    private int offHouses() {
        int middle = joined();
        int set = 0;
        for (int i = 0; i < now.houses.size; i++) {
            int far = Math.abs(shareOf(i) - middle);
            set |= far > thousandByRoot(now.houses.at(i, 0)) ? 1 << i : 0;
        }
        return set;
    }

    private int haveHouses() {
        int set = 0;
        for (int i = 0; i < now.houses.size; i++) {
            set |= shareOf(i) >= 500 ? 1 << i : 0;
        }
        return set;
    }

    /** How many ANSWERS a STEP has, and how many of them are RIGHT, into the first two of the tally. */
    private void countStep(int step) {
        tally[0] = 0;
        tally[1] = 0;
        for (int i = 0; i < now.answers.size; i++) {
            int months = now.children.at(now.answers.at(i, A_CHILD), C_MONTHS);
            if (months / 6 == step && isTelling(now.answers.at(i, A_QUESTION), LOOK)) {
                tally[0]++;
                tally[1] += isRight(i) ? 1 : 0;
            }
        }
    }

    private int turn() {
        int first = NONE;
        for (int step = STEPS - 1; step >= 0; step--) {
            countStep(step);
            if (tally[1] * 2 < tally[0]) {
                return first;
            }
            if (tally[0] > 0) {
                first = step;
            }
        }
        return first;
    }

    private int scoreOf(int law) {
        int added = 0;
        for (int i = 0; i < now.answers.size; i++) {
            int q = now.answers.at(i, A_QUESTION);
            weigh(law, now.answers.at(i, A_CHILD), q, now.answers.at(i, A_HOW));
            added += level(weighedChance(q, now.answers.at(i, A_BOX)));
        }
        return added;
    }

    private static int level(int c) {
        if (c <= 0) {
            return -50;
        }
        int k = 0;
        while (k < 20 && c >> k + 1 > 0) {
            k++;
        }
        int power = 1 << k;
        return 10 * k + (c - power) * 10 / power;
    }

    private int farApartBy(int one, int two, int child, int question, int how) {
        weigh(one, child, question, how);
        for (int i = 0; i < apart.length; i++) {
            apart[i] = weighedChance(question, i < BOXES ? i : NONE);
        }
        weigh(two, child, question, how);
        int far = 0;
        for (int i = 0; i < apart.length; i++) {
            far += Math.abs(apart[i] - weighedChance(question, i < BOXES ? i : NONE));
        }
        return far;
    }

    /** Rows of a few numbers each, as they come, up to a most. */
    private static final class Rows {
        final int most;
        final int width;
        final int[] cells;
        int size = 0;

        Rows(int most, int width) {
            this.most = Math.max(0, most);
            this.width = Math.max(0, width);
            this.cells = new int[this.most * this.width];
        }

        boolean has(int row) {
            return row >= 0 && row < size;
        }

        boolean isFull() {
            return size >= most;
        }

        int at(int row, int column) {
            return has(row) && column >= 0 && column < width ? cells[row * width + column] : NONE;
        }

        /** The number of the new row (NONE: they are full); what is beyond the width falls away. */
        int add(int a, int b, int c, int d, int e, int f) {
            if (isFull()) {
                return NONE;
            }
            size++;
            set(0, a);
            set(1, b);
            set(2, c);
            set(3, d);
            set(4, e);
            set(5, f);
            return size - 1;
        }

        private void set(int column, int value) {
            if (size > 0 && column < width) {
                cells[(size - 1) * width + column] = value;
            }
        }

        void copyFrom(Rows other) {
            size = Math.min(other.size, most);
            System.arraycopy(other.cells, 0, cells, 0, Math.min(cells.length, other.cells.length));
        }
    }

    /** All that an IMAGE has. */
    private static final class Kept {
        int state = 0;
        final int[] acts = new int[SCENES * ACTS];
        final int[] actCount = new int[SCENES];
        final int[] lines = new int[LAWS * LINES * LINE];
        final int[] lineCount = new int[LAWS];
        final int[] code = new int[LAWS * TAPE];
        final Rows questions = new Rows(QUESTIONS, 5);
        final int[] said = new int[QUESTIONS * SAID];
        final Rows children = new Rows(40, 4);
        final Rows answers = new Rows(300, A_FACTS);
        final Rows eyes = new Rows(40, 2);
        final Rows houses = new Rows(20, 2);

        int saidOf(int question, int rule) {
            boolean known = questions.has(question) && rule >= 0 && rule < SAID;
            return known ? said[question * SAID + rule] : NONE;
        }

        void takeScene(int k, Reader from, int count) {
            if (isScene(k)) {
                System.arraycopy(from.acts, 0, acts, k * ACTS, ACTS);
                actCount[k] = cut(count, ACTS);
            }
        }

        void takeLaw(int k, Reader from, int count) {
            if (isLaw(k)) {
                System.arraycopy(from.lines, 0, lines, k * LINES * LINE, LINES * LINE);
                System.arraycopy(from.code, 0, code, k * TAPE, TAPE);
                lineCount[k] = cut(count, LINES);
            }
        }

        void copyFrom(Kept other) {
            state = other.state;
            System.arraycopy(other.acts, 0, acts, 0, acts.length);
            System.arraycopy(other.actCount, 0, actCount, 0, actCount.length);
            System.arraycopy(other.lines, 0, lines, 0, lines.length);
            System.arraycopy(other.lineCount, 0, lineCount, 0, lineCount.length);
            System.arraycopy(other.code, 0, code, 0, code.length);
            System.arraycopy(other.said, 0, said, 0, said.length);
            questions.copyFrom(other.questions);
            children.copyFrom(other.children);
            answers.copyFrom(other.answers);
            eyes.copyFrom(other.eyes);
            houses.copyFrom(other.houses);
        }
    }

    /** How it stands in a SCENE after some acts. */
    private static final class World {
        final int[] here = new int[WHOS];
        final int[] screen = new int[WHOS];
        final int[] worn = new int[WHOS * SCREENS];
        final int[] place = new int[THINGS];
        final int[] before = new int[THINGS];
        final int[] first = new int[THINGS];
        final int[] moves = new int[THINGS];
        final int[] picture = new int[PICTURES * THINGS];
        // Of a WHO and a THING.
        final int[] held = new int[WHOS * THINGS];
        final int[] last = new int[WHOS * THINGS];
        final int[] put = new int[WHOS * THINGS];
        final int[] saw = new int[WHOS * THINGS];
        // Of a WHO, another one and a THING.
        final int[] second = new int[WHOS * WHOS * THINGS];

        void begin() {
            Arrays.fill(here, 0);
            Arrays.fill(screen, NONE);
            Arrays.fill(worn, 0);
            Arrays.fill(place, NONE);
            Arrays.fill(before, NONE);
            Arrays.fill(first, NONE);
            Arrays.fill(moves, 0);
            Arrays.fill(picture, NONE);
            Arrays.fill(held, NONE);
            Arrays.fill(last, NONE);
            Arrays.fill(put, NONE);
            Arrays.fill(saw, 0);
            Arrays.fill(second, NONE);
        }

        void copyFrom(World other) {
            System.arraycopy(other.here, 0, here, 0, here.length);
            System.arraycopy(other.screen, 0, screen, 0, screen.length);
            System.arraycopy(other.worn, 0, worn, 0, worn.length);
            System.arraycopy(other.place, 0, place, 0, place.length);
            System.arraycopy(other.before, 0, before, 0, before.length);
            System.arraycopy(other.first, 0, first, 0, first.length);
            System.arraycopy(other.moves, 0, moves, 0, moves.length);
            System.arraycopy(other.picture, 0, picture, 0, picture.length);
            System.arraycopy(other.held, 0, held, 0, held.length);
            System.arraycopy(other.last, 0, last, 0, last.length);
            System.arraycopy(other.put, 0, put, 0, put.length);
            System.arraycopy(other.saw, 0, saw, 0, saw.length);
            System.arraycopy(other.second, 0, second, 0, second.length);
        }

        /** The masks leave no WHO, BOX, SCREEN or PICTURE that there is not; a THING is looked at. */
        void act(int act) {
            int who = act >> BIT_WHO & 3;
            int other = act >> BIT_OTHER & 3;
            int thing = act >> BIT_THING & 3;
            int box = act >> BIT_BOX & 3;
            if (!isThing(thing)) {
                return;
            }
            switch (act & 15) {
                case COME: here[who] = 1; break;
                case LEAVE: here[who] = 0; break;
                case PUT: bring(who, thing, box, place[thing] == NONE); break;
                case MOVE: bring(who, thing, box, place[thing] != NONE); break;
                case TELL: inform(who, other, thing, box); break;
                case LIFT: lift(who, box); break;
                case WEAR: wear(who, act >> BIT_SCREEN & 1); break;
                case DOFF: screen[who] = NONE; break;
                case SNAP: snap(act >> BIT_PICTURE & 1); break;
                default: break;
            }
        }

        boolean canSee(int who) {
            return here[who] == 1 && (screen[who] == NONE || screen[who] == CLEAR);
        }

        /** Whether a V that CAN SEE TAKES W FOR SEEING. */
        private boolean seemsToSee(int w, int v) {
            boolean clear = screen[w] == CLEAR && worn[v * SCREENS + CLEAR] == 1;
            return here[w] == 1 && (screen[w] == NONE || clear);
        }

        private void wear(int who, int which) {
            screen[who] = which;
            worn[who * SCREENS + which] = 1;
        }

        private void snap(int which) {
            for (int thing = 0; thing < THINGS; thing++) {
                picture[which * THINGS + thing] = place[thing];
            }
        }

        private void bring(int who, int thing, int box, boolean may) {
            if (!may || here[who] == 0) {
                return;
            }
            if (place[thing] == NONE) {
                first[thing] = box;
            }
            before[thing] = place[thing];
            place[thing] = box;
            moves[thing]++;
            put[who * THINGS + thing] = box;
            for (int v = 0; v < WHOS; v++) {
                boolean sees = v == who || canSee(v);
                saw[v * THINGS + thing] = sees ? 1 : 0;
                if (sees) {
                    see(v, who, thing, box);
                }
            }
        }

        /** A mover SEES what it moves even behind a SCREEN, but no one else's eyes then. */
        private void see(int v, int mover, int thing, int box) {
            boolean can = canSee(v);
            held[v * THINGS + thing] = box;
            last[v * THINGS + thing] = box;
            for (int w = 0; w < WHOS; w++) {
                if (w != v && (w == mover || can && seemsToSee(w, v))) {
                    second[(v * WHOS + w) * THINGS + thing] = box;
                }
            }
        }

        private void inform(int w, int v, int thing, int box) {
            if (v == w || here[w] == 0 || here[v] == 0) {
                return;
            }
            held[v * THINGS + thing] = box;
            second[(v * WHOS + w) * THINGS + thing] = box;
            for (int other = 0; other < WHOS; other++) {
                if (other != v && here[other] == 1) {
                    second[(other * WHOS + v) * THINGS + thing] = box;
                }
            }
        }

        private void lift(int w, int box) {
            if (!canSee(w)) {
                return;
            }
            for (int thing = 0; thing < THINGS; thing++) {
                int own = w * THINGS + thing;
                if (place[thing] == box) {
                    held[own] = box;
                    last[own] = box;
                    saw[own] = 1;
                } else if (held[own] == box) {
                    held[own] = NONE;
                }
                for (int v = 0; v < WHOS; v++) {
                    if (v != w && canSee(v)) {
                        watchLift(v, w, thing, box);
                    }
                }
            }
        }

        private void watchLift(int v, int w, int thing, int box) {
            int so = (v * WHOS + w) * THINGS + thing;
            if (held[v * THINGS + thing] == box) {
                second[so] = box;
            } else if (second[so] == box) {
                second[so] = NONE;
            }
        }

        int allMoves() {
            return moves[0] + moves[1] + moves[2];
        }

        /** What a RULE says of where W will look; RIGHT, behind the RULES, is HELD. */
        int ofLook(int w, int thing, int v, int rule) {
            if (!isWho(w) || !isThing(thing)) {
                return NONE;
            }
            int own = w * THINGS + thing;
            boolean viewed = isWho(v);
            switch (rule) {
                case 0: return place[thing];
                case 2: return last[own];
                case 3: return put[own];
                case 4: return saw[own] == 1 ? place[thing] : before[thing];
                case 5: return viewed ? held[v * THINGS + thing] : place[thing];
                case 6: return viewed ? second[(v * WHOS + w) * THINGS + thing] : held[own];
                case 7: return first[thing];
                default: return held[own];
            }
        }

        /** What a RULE says of where the THING is in a PICTURE; RIGHT is where it is in it. */
        int ofPicture(int p, int thing, int rule) {
            if (!within(p, 0, PICTURES - 1) || !isThing(thing)) {
                return NONE;
            }
            switch (rule) {
                case 0: return place[thing];
                case 4: return before[thing];
                case 5: return place[thing];
                case 7: return first[thing];
                default: return picture[p * THINGS + thing];
            }
        }
    }

    /** The TAPE, and how it is read as a TEXT. */
    private static final class Reader {
        final byte[] tape = new byte[TAPE];
        int size = 0;
        int fault = 0;
        int faultPlace = NONE;
        // The tokens of the TAPE; the last one is END.
        private final int[] kind = new int[TAPE + 1];
        private final int[] value = new int[TAPE + 1];
        private final int[] spot = new int[TAPE + 1];
        private int tokens = 0;
        private int at = 0;
        // What was read.
        final int[] acts = new int[ACTS];
        final int[] lines = new int[LINES * LINE];
        final int[] code = new int[TAPE];
        private int codeSize = 0;

        boolean hasRoom(int bytes) {
            return size + bytes <= TAPE;
        }

        void take(int number) {
            for (int shift = 24; shift >= 0 && size < TAPE; shift -= 8) {
                tape[size] = (byte) (number >> shift);
                size++;
            }
        }

        boolean shorten(int n) {
            if (n < 0 || n > size) {
                return false;
            }
            size = n;
            return true;
        }

        /** The TAPE is cut into tokens, and empty then. */
        void start(String words) {
            fault = 0;
            faultPlace = NONE;
            tokens = 0;
            at = 0;
            codeSize = 0;
            int from = 0;
            while (from < size) {
                int to = runEnd(from);
                if (!isBlank(byteAt(from))) {
                    addToken(kindOf(words, from, to), numberOf(from, to), from);
                }
                from = Math.max(to, from + 1);
            }
            addToken(END, 0, size);
            size = 0;
        }

        private int byteAt(int i) {
            return i >= 0 && i < size ? tape[i] & 255 : 0;
        }

        private static boolean isBlank(int c) {
            return c == 32 || c == 10;
        }

        private static boolean isDigit(int c) {
            return c >= '0' && c <= '9';
        }

        private static boolean isLetter(int c) {
            return c >= 'a' && c <= 'z' || c >= 'A' && c <= 'Z';
        }

        private int runEnd(int from) {
            int to = from + 1;
            if (isLetter(byteAt(from))) {
                while (to < size && isLetter(byteAt(to))) {
                    to++;
                }
            } else if (isDigit(byteAt(from))) {
                while (to < size && isDigit(byteAt(to))) {
                    to++;
                }
            }
            return to;
        }

        private void addToken(int what, int number, int from) {
            if (tokens < kind.length) {
                kind[tokens] = what;
                value[tokens] = number;
                spot[tokens] = from;
                tokens++;
            }
        }

        private int kindOf(String words, int from, int to) {
            int c = byteAt(from);
            if (isDigit(c)) {
                return to - from <= 4 ? NUMBER : BAD;
            }
            if (isLetter(c)) {
                int word = wordOf(words, from, to);
                return word == NONE ? BAD : WORD + word;
            }
            return SIGNS.indexOf((char) c) >= 0 ? c : BAD;
        }

        private int numberOf(int from, int to) {
            int number = 0;
            for (int i = from; i < to && i < from + 4; i++) {
                number = 10 * number + byteAt(i) - '0';
            }
            return number;
        }

        private int wordOf(String words, int from, int to) {
            int number = 0;
            int start = 0;
            for (int i = 0; i < words.length(); i++) {
                if (words.charAt(i) == ' ') {
                    if (i - start == to - from && isSame(words, start, from, to)) {
                        return number;
                    }
                    number++;
                    start = i + 1;
                }
            }
            return NONE;
        }

        private boolean isSame(String words, int start, int from, int to) {
            for (int i = from; i < to; i++) {
                int there = start + i - from;
                if (there >= words.length() || words.charAt(there) != byteAt(i)) {
                    return false;
                }
            }
            return true;
        }

        private int token() {
            return at >= 0 && at < tokens ? kind[at] : END;
        }

        /** The first FAULT stays; reading goes to the end, where nothing more can stand. */
        private void fail(int what) {
            if (fault == 0) {
                fault = what;
                faultPlace = at >= 0 && at < tokens ? spot[at] : NONE;
            }
            at = tokens > 0 ? tokens - 1 : 0;
        }

        private void skip(int what) {
            if (token() == what) {
                at++;
            } else {
                fail(1);
            }
        }

        /** What the NUMBER is that stands next, NONE if another token does. */
        private int nextNumber() {
            return at >= 0 && at < tokens && kind[at] == NUMBER ? value[at] : NONE;
        }

        /** A NUMBER of as many as there are; 0 for what fails. */
        private int oneOf(int many) {
            int read = nextNumber();
            if (read == NONE || read >= many) {
                fail(read == NONE ? 1 : 2);
                return 0;
            }
            at++;
            return read;
        }

        int readScene() {
            int count = 0;
            for (int i = 0; i <= TAPE && token() != END; i++) {
                int act = token() - WORD;
                if (act < COME || act > SNAP) {
                    fail(1);
                } else if (count >= ACTS) {
                    fail(3);
                } else {
                    at++;
                    acts[count] = readAct(act);
                    skip(';');
                    count++;
                }
            }
            return count;
        }

        /** Whatever parts an act has, they come in one order. */
        private int readAct(int kind) {
            boolean takesThing = kind == PUT || kind == MOVE || kind == TELL;
            int act = kind;
            if (kind != SNAP) {
                int who = oneOf(WHOS);
                act |= who << BIT_WHO;
                if (kind == TELL) {
                    act |= readOther(who) << BIT_OTHER;
                }
            }
            if (takesThing) {
                act |= oneOf(THINGS) << BIT_THING;
            }
            if (takesThing || kind == LIFT) {
                act |= oneOf(BOXES) << BIT_BOX;
            }
            if (kind == WEAR) {
                act |= oneOf(SCREENS) << BIT_SCREEN;
            }
            if (kind == SNAP) {
                act |= oneOf(PICTURES) << BIT_PICTURE;
            }
            return act;
        }

        private int readOther(int who) {
            if (nextNumber() == who) {
                fail(2);
                return 0;
            }
            return oneOf(WHOS);
        }

        int readLaw() {
            int count = 0;
            for (int i = 0; i <= TAPE && token() != END; i++) {
                if (token() != RULE_WORD && token() != PULL_WORD) {
                    fail(1);
                } else if (count >= LINES) {
                    fail(3);
                } else {
                    readLine(count * LINE);
                    count++;
                }
            }
            return count;
        }

        /** A line is kept as the RULE (or PULL) and where E, B and the end of it are in the code. */
        private void readLine(int line) {
            if (line < 0 || line + LINE > lines.length) {
                return;
            }
            boolean pull = token() == PULL_WORD;
            at++;
            lines[line] = pull ? PULL : oneOf(RULES);
            lines[line + 1] = codeSize;
            sum();
            lines[line + 2] = codeSize;
            if (token() == WHEN) {
                at++;
                condition(0);
            }
            lines[line + 3] = codeSize;
            skip(';');
        }

        private void emit(int op) {
            if (codeSize < code.length) {
                code[codeSize] = op;
                codeSize++;
            }
        }

        /** B and A in one: an and is done at once, an or waits for the ands behind it. */
        private void condition(int open) {
            boolean waits = false;
            single(open);
            for (int i = 0; i <= TAPE && (token() == AND || token() == OR); i++) {
                if (token() == AND) {
                    at++;
                    single(open);
                    emit(OP_AND);
                } else {
                    if (waits) {
                        emit(OP_OR);
                    }
                    waits = true;
                    at++;
                    single(open);
                }
            }
            if (waits) {
                emit(OP_OR);
            }
        }

        /** C, with so many ( and not open around it. */
        private void single(int open) {
            boolean denied = token() == NOT;
            if (!denied && token() != '(') {
                sum();
                int sign = token();
                if (sign != '<' && sign != '=' && sign != '>') {
                    fail(1);
                    return;
                }
                at++;
                sum();
                emit(sign == '<' ? OP_LESS : sign == '=' ? OP_SAME : OP_MORE);
            } else if (open >= OPEN) {
                fail(3);
            } else if (denied) {
                at++;
                single(open + 1);
                emit(OP_NOT);
            } else {
                at++;
                condition(open + 1);
                skip(')');
            }
        }

        /** E and T in one: a * or / is done at once, a + or - waits for those behind it. */
        private void sum() {
            int waits = 0;
            unit();
            for (int i = 0; i <= TAPE; i++) {
                int sign = token();
                if (sign == '*') {
                    at++;
                    unit();
                    emit(OP_TIMES);
                } else if (sign == '/') {
                    at++;
                    part();
                } else if (sign == '+' || sign == '-') {
                    if (waits != 0) {
                        emit(waits);
                    }
                    waits = sign == '+' ? OP_PLUS : OP_MINUS;
                    at++;
                    unit();
                } else {
                    break;
                }
            }
            if (waits != 0) {
                emit(waits);
            }
        }

        private void part() {
            int by = nextNumber();
            if (by == NONE || by == 0) {
                fail(by == NONE ? 1 : 2);
                return;
            }
            emit(by);
            emit(OP_PART);
            at++;
        }

        private void unit() {
            int number = nextNumber();
            int word = token() - MONTHS;
            if (number != NONE) {
                emit(number);
                at++;
            } else if (word >= 0 && word < GIVEN) {
                emit(OP_GIVEN - word);
                at++;
            } else {
                fail(1);
            }
        }
    }

    /** What the lines of a LAW come to, of a CHILD, a QUESTION and how it is asked. */
    private static final class Scale {
        final int[] weight = new int[RULES + 1];
        int all = 0;
        private final int[] given = new int[GIVEN];
        private final int[] stack = new int[64];

        void give(int which, int amount) {
            if (which >= 0 && which < GIVEN) {
                given[which] = amount;
            }
        }

        void weigh(Kept kept, int law) {
            all = 0;
            for (int rule = 0; rule < RULES; rule++) {
                weight[rule] = amountOf(kept, law, rule, 99);
                all += weight[rule];
            }
            weight[PULL] = amountOf(kept, law, PULL, 100);
        }

        int ruleOf(int drawn) {
            int sum = 0;
            for (int rule = 0; rule < RULES; rule++) {
                sum += weight[rule];
                if (sum > drawn) {
                    return rule;
                }
            }
            return RULES - 1;
        }

        private int amountOf(Kept kept, int law, int what, int most) {
            if (!isLaw(law)) {
                return 0;
            }
            for (int i = 0; i < kept.lineCount[law] && i < LINES; i++) {
                int line = (law * LINES + i) * LINE;
                if (kept.lines[line] == what) {
                    int amount = kept.lines[line + 1];
                    int guard = kept.lines[line + 2];
                    int end = kept.lines[line + 3];
                    if (guard == end || run(kept.code, law, guard, end) == 1) {
                        return cut(run(kept.code, law, amount, guard), most);
                    }
                }
            }
            return 0;
        }

        /** Works off a LAW's code from one place to another; numbers in it stand for themselves. */
        private int run(int[] code, int law, int from, int to) {
            int top = -1;
            for (int i = from; i < to && i < TAPE; i++) {
                int op = i >= 0 && law * TAPE + i < code.length ? code[law * TAPE + i] : 0;
                if (op >= 0 || op <= OP_GIVEN) {
                    int given = OP_GIVEN - op;
                    if (top + 1 < stack.length) {
                        top++;
                        stack[top] = op >= 0 ? op : given < GIVEN ? this.given[given] : 0;
                    }
                } else if (op == OP_NOT && top >= 0) {
                    stack[top] = 1 - stack[top];
                } else if (top >= 1) {
                    stack[top - 1] = worked(op, stack[top - 1], stack[top]);
                    top--;
                }
            }
            return top >= 0 ? stack[top] : 0;
        }

        private static int worked(int op, int left, int right) {
            switch (op) {
                case OP_PLUS: return left + right;
                case OP_MINUS: return left - right;
                case OP_TIMES: return left * right;
                case OP_PART: return right > 0 ? left / right : 0;
                case OP_LESS: return left < right ? 1 : 0;
                case OP_SAME: return left == right ? 1 : 0;
                case OP_MORE: return left > right ? 1 : 0;
                case OP_AND: return left & right;
                case OP_OR: return left | right;
                default: return 0;
            }
        }
    }
}
