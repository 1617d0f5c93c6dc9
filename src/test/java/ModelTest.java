import java.nio.charset.StandardCharsets;
import java.util.Random;

/** Runs of drawn calls (the same ones each time), answered by the class as by the Model. */
public final class ModelTest {
    private final Random random;
    private final Counted x = new Counted();
    private final Model m = new Model();
    private final StringBuilder trail = new StringBuilder();
    private int calls = 0;

    private ModelTest(long seed) {
        random = new Random(seed);
    }

    public static void main(String[] args) {
        int runs = args.length > 0 ? Integer.parseInt(args[0]) : 400;
        long from = args.length > 1 ? Long.parseLong(args[1]) : 0;
        for (int run = 0; run < runs; run++) {
            Check.at("drawn run " + (from + run));
            new ModelTest(from + run).run();
        }
        Check.close();
    }

    private int below(int n) {
        return random.nextInt(n);
    }

    /** Mostly low .. high, at times just outside of it, seldom far away. */
    private int num(int low, int high) {
        int dice = below(60);
        if (dice == 0) {
            return low - 1;
        }
        if (dice == 1) {
            return high + 1;
        }
        if (dice == 2 && below(4) == 0) {
            int[] far = {Integer.MIN_VALUE, Integer.MAX_VALUE, -7, 1000, 32, 1 << 20};
            return far[below(far.length)];
        }
        return low + below(high - low + 1);
    }

    private void due(String call, long got, long want) {
        calls++;
        if (got != want) {
            System.out.println(trail);
        }
        Check.due("call " + calls + " " + call, got, want);
    }

    /** A text takes 29 calls at most, and is left out where fewer are left. */
    private void text(int sort, int k, String text) {
        if (x.calls() + 29 > Counted.MOST) {
            due("look 5", x.look(5), m.look(5));
            return;
        }
        trail.append("text ").append(sort).append(' ').append(k).append(": ").append(text).append('\n');
        byte[] bytes = text.getBytes(StandardCharsets.ISO_8859_1);
        for (int i = 0; i < bytes.length; i += 20) {
            int[] n = new int[5];
            for (int j = 0; j < 20; j++) {
                n[j / 4] = n[j / 4] << 8 | (i + j < bytes.length ? bytes[i + j] & 255 : 32);
            }
            due("feed", x.feed(n[0], n[1], n[2], n[3], n[4]), m.feed(n));
        }
        int end = bytes.length + (below(12) == 0 ? below(5) - 2 : 0);
        due("end " + end, x.end(end) ? 1 : 0, m.end(end) ? 1 : 0);
        due("text", x.text(sort, k), m.text(sort, k));
        if (below(3) == 0) {
            due("fault 0", x.fault(0), m.fault(0));
            due("fault 1", x.fault(1), m.fault(1));
        }
    }

    private String scene(int acts) {
        StringBuilder s = new StringBuilder("come 0;come 1;");
        for (int i = 0; i < acts; i++) {
            int w = below(4);
            switch (below(16)) {
                case 0, 1 -> s.append("come ").append(w);
                case 2 -> s.append("leave ").append(w);
                case 3, 4, 5 -> s.append("put ").append(w).append(' ').append(below(3)).append(' ').append(below(4));
                case 6, 7, 8, 9 -> s.append("move ").append(w).append(' ').append(below(3)).append(' ').append(below(4));
                case 10 -> s.append("tell ").append(w).append(' ').append((w + 1 + below(3)) % 4)
                        .append(' ').append(below(3)).append(' ').append(below(4));
                case 11, 12 -> s.append("lift ").append(w).append(' ').append(below(4));
                case 13 -> s.append("wear ").append(w).append(' ').append(below(2));
                case 14 -> s.append("doff ").append(w);
                default -> s.append("snap ").append(below(2));
            }
            s.append(below(20) == 0 ? " ;\n" : ";");
        }
        return s.toString();
    }

    private String amount(int depth) {
        String[] units = {"months", "words", "how", "moves", "sort", "picture", "" + below(10), "" + below(100)};
        String u = units[below(units.length)];
        if (depth == 0) {
            return u;
        }
        return switch (below(6)) {
            case 0 -> u + "+" + amount(depth - 1);
            case 1 -> u + "-" + amount(depth - 1);
            case 2 -> u + "*" + amount(depth - 1);
            case 3 -> u + "/" + (1 + below(9)) + (below(2) == 0 ? "-" : "*") + amount(depth - 1);
            default -> u;
        };
    }

    private String so(int depth) {
        return switch (below(depth == 0 ? 2 : 7)) {
            case 2 -> so(depth - 1) + " and " + so(depth - 1);
            case 3 -> so(depth - 1) + " or " + so(depth - 1);
            case 4 -> "not " + so(depth - 1);
            case 5, 6 -> "(" + so(depth - 1) + ")";
            default -> amount(1) + "<=>".charAt(below(3)) + amount(1);
        };
    }

    private String law(int lines) {
        StringBuilder s = new StringBuilder();
        for (int i = 0; i < lines; i++) {
            String line = below(4) == 0 ? "pull " : "rule " + below(8) + " ";
            line += amount(below(4));
            line += below(2) == 0 ? " when " + so(below(4)) + ";" : ";";
            if (s.length() + line.length() < 470) {
                s.append(line);
            }
        }
        return s.toString();
    }

    /** Spoils a text at one place or more, or leaves it. */
    private String spoiled(String text) {
        StringBuilder s = new StringBuilder(text);
        for (int i = below(3); i >= 0 && s.length() > 0; i--) {
            int at = below(s.length());
            String[] junk = {"", " ", ";", "0", "9", "(", ")", "not ", "12345", "come", "rule ", "X", "#", "/0",
                "when ", "\n", "\u00e9", "\t", "or ", "<", "=", "a"};
            String put = junk[below(junk.length)];
            if (below(2) == 0) {
                s.replace(at, at + 1, put);
            } else {
                s.insert(at, put);
            }
        }
        return s.length() > 480 ? s.substring(0, 480) : s.toString();
    }

    private void run() {
        if (below(3) > 0) {
            int v = random.nextInt();
            due("state", x.state(v), m.state(v));
        }
        int scenes = 1 + below(6);
        for (int i = 0; i < scenes; i++) {
            text(0, i, scene(below(4) == 0 ? 22 : below(14)));
        }
        for (int i = 0; i < 4; i++) {
            text(1, i, law(below(9)));
        }
        for (int i = below(13); i > 0; i--) {
            question(scenes);
        }
        for (int i = below(16); i > 0; i--) {
            child();
        }
        boolean many = below(10) == 0;
        while (x.calls() < Counted.MOST) {
            if (many && below(3) > 0) {
                told();
            } else {
                step(scenes);
            }
        }
    }

    private void question(int scenes) {
        int scene = num(0, scenes - 1);
        int sort = below(4) == 0 ? 1 : num(0, 0);
        int w = sort == 1 ? num(0, 1) : num(0, 3);
        int thing = below(2) == 0 ? 0 : num(0, 2);
        int v = below(2) == 0 ? -1 : num(0, 3);
        due("question " + scene + " " + sort + " " + w + " " + thing + " " + v,
                x.question(scene, sort, w, thing, v), m.question(scene, sort, w, thing, v));
        trail.append("question ").append(scene).append(' ').append(sort).append(' ').append(w).append(' ')
                .append(thing).append(' ').append(v).append('\n');
    }

    private void child() {
        int law = num(0, 3);
        int months = num(0, 120);
        int words = num(0, 9);
        int sort = num(0, 1);
        due("child", x.child(law, months, words, sort), m.child(law, months, words, sort));
    }

    private void told() {
        int c = num(0, Math.max(0, m.look(1) - 1));
        int q = num(0, Math.max(0, m.look(0) - 1));
        int how = num(0, 3);
        int box = below(2) == 0 ? m.says(q, below(9)) : num(-1, 3);
        due("told " + c + " " + q + " " + how + " " + box, x.told(c, q, how, box), m.told(c, q, how, box));
    }

    private void step(int scenes) {
        int c = num(0, Math.max(0, m.look(1) - 1));
        int q = num(0, Math.max(0, m.look(0) - 1));
        int s = num(0, scenes - 1);
        int how = num(0, 3);
        int r = num(0, 7);
        int r2 = num(0, 7);
        switch (below(44)) {
            case 0, 1 -> {
                int t = num(0, 2);
                int w = num(0, 3);
                int what = num(0, 9);
                due("after " + s + " " + t + " " + w + " " + what, x.after(s, t, w, what), m.after(s, t, w, what));
            }
            case 2, 3 -> {
                int t = num(0, 2);
                int v = num(0, 3);
                int w = num(0, 3);
                due("thinks " + s + " " + v + " " + w + " " + t, x.thinks(s, v, w, t), m.thinks(s, v, w, t));
            }
            case 4 -> {
                int w = num(0, 3);
                int what = num(0, 3);
                due("here " + s + " " + w + " " + what, x.here(s, w, what), m.here(s, w, what));
            }
            case 5 -> question(scenes);
            case 6 -> {
                int rule = num(0, 9);
                due("says " + q + " " + rule, x.says(q, rule), m.says(q, rule));
            }
            case 7 -> child();
            case 8 -> {
                int rule = num(0, 8);
                due("weight " + c + " " + q + " " + how + " " + rule, x.weight(c, q, how, rule),
                        m.weight(c, q, how, rule));
            }
            case 9, 10, 11, 12 -> due("ask " + c + " " + q + " " + how, x.ask(c, q, how), m.ask(c, q, how));
            case 13, 14, 15 -> told();
            case 16, 17 -> {
                int i = num(0, Math.max(0, m.look(2) - 1));
                int what = num(0, 5);
                due("answer " + i + " " + what, x.answer(i, what), m.answer(i, what));
            }
            case 18 -> {
                int law = num(0, 3);
                int box = num(-1, 3);
                due("chance " + law + " " + c + " " + q + " " + how + " " + box, x.chance(law, c, q, how, box),
                        m.chance(law, c, q, how, box));
            }
            case 19 -> due("parted " + r + " " + r2, x.parted(r, r2), m.parted(r, r2));
            case 20 -> {
                int set = num(1, 255);
                due("fewest " + set, x.fewest(set), m.fewest(set));
            }
            case 21, 22 -> due("make " + q + " " + r + " " + r2, x.make(q, r, r2), m.make(q, r, r2));
            case 23, 24 -> {
                int rule = num(0, 8);
                due("odds " + c + " " + rule, x.odds(c, rule), m.odds(c, rule));
            }
            case 25, 26 -> {
                int odds = num(1, below(2) == 0 ? 400 : 1000);
                due("need " + r + " " + odds, x.need(r, odds), m.need(r, odds));
            }
            case 27, 28 -> {
                int h = num(-1, 3);
                int what = num(0, 4);
                due("pulls " + h + " " + what, x.pulls(h, what), m.pulls(h, what));
            }
            case 29 -> {
                int what = num(0, 4);
                due("beside " + what, x.beside(what), m.beside(what));
            }
            case 30, 31 -> {
                int a = below(2) == 0 ? num(0, 9999) : num(0, 700);
                int b = below(3) == 0 ? a : below(2) == 0 ? num(0, 9999) : num(0, 700);
                due("eyes " + a + " " + b, x.eyes(a, b), m.eyes(a, b));
            }
            case 32 -> {
                int k = num(0, 24);
                due("way " + k, x.way(k), m.way(k));
            }
            case 33 -> {
                int n = num(1, below(2) == 0 ? 20 : 999);
                int k = num(0, Math.max(1, Math.min(n, 999)));
                due("house " + n + " " + k, x.house(n, k), m.house(n, k));
            }
            case 34, 35 -> {
                int what = below(2) == 0 ? num(0, 3) : num(10, 30);
                due("houses " + what, x.houses(what), m.houses(what));
            }
            case 36 -> {
                int sort = num(0, 1);
                int rule = num(0, 8);
                due("sorts " + sort + " " + rule, x.sorts(sort, rule), m.sorts(sort, rule));
            }
            case 37, 38 -> {
                int step = num(-1, 20);
                int what = num(0, 1);
                due("curve " + step + " " + what, x.curve(step, what), m.curve(step, what));
            }
            case 39 -> {
                int law = num(-1, 3);
                due("score " + law, x.score(law), m.score(law));
            }
            case 40 -> {
                int one = num(0, 3);
                int two = num(0, 3);
                int what = num(0, 1);
                due("next " + one + " " + two + " " + c + " " + how + " " + what, x.next(one, two, c, how, what),
                        m.next(one, two, c, how, what));
            }
            case 41 -> {
                boolean taken = below(2) == 0;
                due("image " + taken, x.image(taken) ? 1 : 0, m.image(taken) ? 1 : 0);
                trail.append("image ").append(taken).append('\n');
            }
            case 42 -> {
                int what = num(0, 6);
                due("look " + what, x.look(what), m.look(what));
            }
            default -> {
                int dice = below(5);
                if (dice == 0) {
                    text(num(0, 0), s, scene(below(26)));
                } else if (dice == 1) {
                    text(1, num(0, 3), law(below(18)));
                } else if (dice == 2) {
                    text(num(0, 1), num(0, 7), spoiled(scene(below(20))));
                } else {
                    text(num(0, 1), num(0, 3), spoiled(law(below(14))));
                }
            }
        }
    }
}
