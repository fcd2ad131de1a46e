import java.util.NoSuchElementException;
import java.util.Random;

/** Long runs of random calls, each answer held against the model's; nothing but the two exceptions may come. */
public final class RandomRunsTest {
    private static final String[] LAWS = {
        "strong - felt", "strong * 2 - felt * 3 + days + here / 4 + thing % 3 - next * 2 + house - day",
        "least [strong, 9 - felt] + most [next, days % 3]", "(here + 3) / (felt - strong)", "here % (next - 1)",
        "999*999*999*999 / 100000 - day", "day - 150", "0", "99", "strong + house * thing - next",
        "most[least[strong*3,day],(here-50)/7]-felt*2", "(0-strong-day*7)%5+4", "((((((strong))))))",
        "(0 - 999*999*999*999*999) / (0 - 1)", "1 + 2 * 3 - 4 / 2 % 3", "20 - here / 5", "days * days - felt"};
    private static final String[] WORDS = {"strong", "felt", "days", "here", "thing", "next", "house", "day"};
    private static final String[] SCRAPS = {"house", "wall", "piano", "wish", "felt", "put", "take", "lay", "day",
        "again", "least", "most", "[", "]", "(", ")", ";", ",", "+", "-", "*", "/", "%", " ", "  ", "0", "1", "9",
        "10", "007", "999", "1000", "99999999999", "strong", "days", "x", "A", "\u0000", "\u00ff", "\t"};

    private final Random random;
    private final TunedHouses real = new TunedHouses();
    private final Model model = new Model();
    private final StringBuilder story = new StringBuilder();
    private int houses;
    private int pianos;
    private int calls;

    private RandomRunsTest(long seed) {
        random = new Random(seed);
    }

    interface Call {
        long answer();
    }

    public static void main(String[] args) {
        int runs = args.length > 0 ? Integer.parseInt(args[0]) : 700;
        long first = args.length > 1 ? Long.parseLong(args[1]) : 1;
        int wrong = 0;
        for (long seed = first; seed < first + runs && wrong < 5; seed++) {
            RandomRunsTest test = new RandomRunsTest(seed);
            if (!test.run()) {
                wrong++;
                System.out.println("seed " + seed + ":\n" + test.story);
            }
        }
        System.out.println(runs + " random runs, " + wrong + " wrong");
        if (wrong > 0) {
            System.exit(1);
        }
    }

    private boolean run() {
        if (random.nextInt(10) > 0 && !text('t', terraceText())) {
            return false;
        }
        // A run ends well ahead of the 512th call: one round makes at most some eighty.
        while (calls < 420) {
            int dice = random.nextInt(100);
            boolean fine;
            if (dice < 25) {
                fine = text(random.nextInt(6) == 0 ? 't' : "lwwwwb".charAt(random.nextInt(6)));
            } else if (dice < 30) {
                fine = same("feed", this::realFeed, this::modelFeed);
            } else {
                fine = ask(random.nextInt(36));
            }
            if (!fine) {
                return false;
            }
        }
        return true;
    }

    private int[] fed = new int[5];

    private long realFeed() {
        return real.feed(fed[0], fed[1], fed[2], fed[3], fed[4]);
    }

    private long modelFeed() {
        return model.feed(fed[0], fed[1], fed[2], fed[3], fed[4]);
    }

    private boolean same(String name, Call a, Call b) {
        calls++;
        String x = outcome(a);
        String y = outcome(b);
        story.append("  ").append(name).append(" = ").append(x).append('\n');
        if (!x.equals(y)) {
            story.append("  ^ the model says ").append(y).append('\n');
            return false;
        }
        return true;
    }

    private static String outcome(Call call) {
        try {
            return Long.toString(call.answer());
        } catch (NoSuchElementException e) {
            return e.getClass() == NoSuchElementException.class ? "no such" : e.toString();
        } catch (IllegalArgumentException e) {
            return e.getClass() == IllegalArgumentException.class ? "illegal" : e.toString();
        } catch (RuntimeException e) {
            return e.toString();
        }
    }

    // ---- texts ----

    private boolean text(char kind) {
        String s;
        switch (kind) {
            case 't': s = terraceText(); break;
            case 'l': s = lawText(); break;
            case 'w': s = workText(0); break;
            default: s = bookText(); break;
        }
        return text(kind, s);
    }

    private boolean text(char kind, String plain) {
        String s = random.nextInt(4) == 0 ? spoiled(plain) : plain;
        if (random.nextInt(12) == 0) {
            s = " " + s.replace(";", " ; ") + "  ";
        }
        byte[] bytes = s.getBytes(java.nio.charset.StandardCharsets.ISO_8859_1);
        story.append("  text <").append(s).append(">\n");
        for (int at = 0; at < bytes.length; at += 20) {
            for (int i = 0; i < 5; i++) {
                int word = 0;
                for (int j = 0; j < 4; j++) {
                    int k = at + 4 * i + j;
                    word = word << 8 | (k < bytes.length ? bytes[k] & 255 : random.nextInt(256));
                }
                fed[i] = word;
            }
            if (!same("feed", this::realFeed, this::modelFeed)) {
                return false;
            }
        }
        int n = random.nextInt(30) == 0 ? random.nextInt(700) - 20 : bytes.length;
        if (!open(kind, n) || !same("fault()", real::fault, model::fault)) {
            return false;
        }
        calls += 2;
        houses = real.told(0);
        pianos = real.told(2);
        model.told(0);
        model.told(2);
        return same("told(9)", () -> real.told(9), () -> model.told(9)) && ask(32) && ask(33);
    }

    private boolean open(char kind, int n) {
        switch (kind) {
            case 't': return same("terrace(" + n + ")", () -> real.terrace(n), () -> model.terrace(n));
            case 'l': return same("law(" + n + ")", () -> real.law(n), () -> model.law(n));
            case 'w': return same("work(" + n + ")", () -> real.work(n), () -> model.work(n));
            default: return same("book(" + n + ")", () -> real.book(n), () -> model.book(n));
        }
    }

    private String spoiled(String s) {
        StringBuilder b = new StringBuilder(s);
        for (int i = 1 + random.nextInt(2); i > 0; i--) {
            int at = random.nextInt(b.length() + 1);
            if (random.nextBoolean() && at < b.length()) {
                b.deleteCharAt(at);
            }
            if (random.nextInt(3) > 0) {
                b.insert(Math.min(at, b.length()), SCRAPS[random.nextInt(SCRAPS.length)]);
            }
        }
        return b.toString();
    }

    private String terraceText() {
        StringBuilder b = new StringBuilder();
        int hs = random.nextInt(12) == 0 ? random.nextInt(10) : 1 + random.nextInt(7);
        for (int h = 0; h < hs; h++) {
            b.append("house ").append(random.nextInt(10)).append(';');
        }
        boolean[][] walled = new boolean[10][10];
        int ws = random.nextInt(14);
        for (int w = 0; w < ws && hs > 1; w++) {
            int a = random.nextInt(hs);
            int c = random.nextInt(hs);
            if (a != c && !walled[a][c] || random.nextInt(60) == 0) {
                walled[a][c] = true;
                walled[c][a] = true;
                b.append("wall ").append(a).append(' ').append(c).append(';');
            }
        }
        int few = 1 + random.nextInt(10);
        int ps = random.nextInt(7);
        for (int p = 0; p < ps; p++) {
            b.append("piano ").append(random.nextInt(few)).append(' ').append(1 + random.nextInt(9)).append(';');
        }
        for (int i = random.nextInt(10); i > 0 && hs > 0; i--) {
            b.append("wish ").append(random.nextInt(hs)).append(' ').append(random.nextInt(few)).append(';');
        }
        if (random.nextBoolean()) {
            b.append("felt ").append(random.nextInt(41)).append(';');
        }
        if (random.nextInt(20) == 0) {
            for (int i = random.nextInt(50); i > 0; i--) {
                b.append("felt ").append(random.nextInt(10)).append(';');
            }
        }
        return b.toString();
    }

    private String workText(int depth) {
        StringBuilder b = new StringBuilder();
        int steps = 1 + random.nextInt(depth == 0 ? 8 : 4);
        for (int i = 0; i < steps; i++) {
            int dice = random.nextInt(10);
            int p = random.nextInt(Math.max(1, pianos));
            if (dice < 4) {
                b.append("put ").append(p).append(' ').append(random.nextInt(Math.max(1, houses)));
            } else if (dice < 5) {
                b.append("take ").append(p);
            } else if (dice < 7) {
                b.append("lay ").append(p).append(' ').append(random.nextInt(10));
            } else if (dice < 9 || depth > 5) {
                b.append("day");
            } else {
                b.append("again ").append(random.nextInt(random.nextBoolean() ? 4 : 61)).append(" [");
                b.append(workText(depth + 1)).append(']');
            }
            b.append(';');
        }
        return b.toString();
    }

    private String lawText() {
        if (random.nextBoolean()) {
            return LAWS[random.nextInt(LAWS.length)];
        }
        String law = sum(0);
        for (int i = 0; i < 20 && law.length() > 150; i++) {
            law = sum(0);
        }
        return law;
    }

    private String sum(int open) {
        StringBuilder b = new StringBuilder(product(open));
        for (int i = random.nextInt(3); i > 0; i--) {
            b.append("+-".charAt(random.nextInt(2))).append(product(open));
        }
        return b.toString();
    }

    private String product(int open) {
        StringBuilder b = new StringBuilder(unit(open));
        while (random.nextInt(3) == 0) {
            b.append("*/%".charAt(random.nextInt(3))).append(unit(open));
        }
        return b.toString();
    }

    private String unit(int open) {
        int dice = random.nextInt(10);
        // One open sign more than there may be, now and then.
        if (dice < 5 || open > 6) {
            return WORDS[random.nextInt(WORDS.length)];
        }
        if (dice < 7) {
            return Integer.toString(random.nextInt(random.nextBoolean() ? 10 : 1001));
        }
        if (dice < 9) {
            return "(" + sum(open + 1) + ")";
        }
        return (random.nextBoolean() ? "least[" : "most [") + sum(open + 1) + "," + sum(open + 1) + "]";
    }

    private String bookText() {
        StringBuilder b = new StringBuilder();
        int start = random.nextInt(60);
        int slope = random.nextInt(6);
        for (int i = random.nextInt(4); i > 0; i--) {
            int d = random.nextInt(61);
            b.append(d).append(' ').append(Math.min(99, start + slope * d)).append(';');
        }
        return b.toString();
    }

    // ---- questions ----

    private int number(int least, int most) {
        if (random.nextInt(25) == 0) {
            int[] odd = {least - 1, most + 1, -1, Integer.MIN_VALUE, Integer.MAX_VALUE, 31, 32};
            return odd[random.nextInt(odd.length)];
        }
        return least + random.nextInt(Math.max(1, most - least + 1));
    }

    private boolean ask(int which) {
        int h = number(0, houses - 1);
        int g = number(0, houses - 1);
        int p = number(0, pianos - 1);
        int m = number(0, 9);
        switch (which) {
            case 0: { int w = number(0, 10); return same("told " + w, () -> real.told(w), () -> model.told(w)); }
            case 1: { int w = number(0, 5); return same("house " + h + " " + w, () -> real.house(h, w), () -> model.house(h, w)); }
            case 2: return same("there " + h + " " + m, () -> real.there(h, m), () -> model.there(h, m));
            case 3: { int a = number(0, 11); int w = number(0, 1); return same("wall " + a + " " + w, () -> real.wall(a, w), () -> model.wall(a, w)); }
            case 4: { int w = number(0, 7); return same("piano " + p + " " + w, () -> real.piano(p, w), () -> model.piano(p, w)); }
            case 5: return askWould();
            case 6: { int n = number(0, 99); int w = number(0, 1); return same("ahead " + h + " " + n + " " + w, () -> real.ahead(h, n, w), () -> model.ahead(h, n, w)); }
            case 7: return same("when " + h + " " + m, () -> real.when(h, m), () -> model.when(h, m));
            case 8: return same("muffle " + p, () -> real.muffle(p), () -> model.muffle(p));
            case 9: return same("places", real::places, model::places);
            case 10: return same("placed " + p, () -> real.placed(p), () -> model.placed(p));
            case 11: { int w = number(0, 1); return random.nextInt(4) > 0 || same("from " + h + " " + w, () -> real.from(h, w), () -> model.from(h, w)); }
            case 12: { int w = number(0, 1); return random.nextInt(4) > 0 || same("look " + h + " " + w, () -> real.look(h, w), () -> model.look(h, w)); }
            case 13: return same("way " + h + " " + g, () -> real.way(h, g), () -> model.way(h, g));
            case 14: return same("alone", real::alone, model::alone);
            case 15: { int n = number(1, 6); int k = number(1, 9); int w = number(0, 1); return same("price " + n + " " + k + " " + w, () -> real.price(n, k, w), () -> model.price(n, k, w)); }
            case 16: { int v = number(0, random.nextBoolean() ? 2 : 99); int u = number(0, random.nextBoolean() ? 2 : 99); int w = number(0, 2); return same("tuner " + v + " " + u + " " + w, () -> real.tuner(v, u, w), () -> model.tuner(v, u, w)); }
            case 17: { int bits = number(0, (1 << pianos) - 1); int n = number(0, random.nextBoolean() ? 30 : 99); return same("share " + p + " " + bits + " " + n, () -> real.share(p, bits, n), () -> model.share(p, bits, n)); }
            case 18: return same("those " + m, () -> real.those(m), () -> model.those(m));
            case 19: { int w = number(0, 1); return same("loudest " + w, () -> real.loudest(w), () -> model.loudest(w)); }
            case 20: return same("quiet " + p, () -> real.quiet(p), () -> model.quiet(p));
            case 21: return same("changed", real::changed, model::changed);
            case 22: { int w = number(0, 1); return same("oldest " + w, () -> real.oldest(w), () -> model.oldest(w)); }
            case 23: return same("empty", real::empty, model::empty);
            case 24: return same("margin " + h, () -> real.margin(h), () -> model.margin(h));
            case 25: return same("tunes " + p + " " + h, () -> real.tunes(p, h), () -> model.tunes(p, h));
            case 26: return askYear();
            case 27: return random.nextInt(4) > 0 || askSpan(h);
            case 28: return same("image", real::image, model::image);
            case 29: return same("restore", real::restore, model::restore);
            case 30: return same("undo", real::undo, model::undo);
            case 31: return same("fault", real::fault, model::fault);
            case 32: { int w = number(0, 1); return same("status " + w, () -> real.status(w), () -> model.status(w)); }
            case 33: { int w = number(0, 2); return same("count " + w, () -> real.count(w), () -> model.count(w)); }
            case 34: return askAllPianos();
            default: return askAllHouses();
        }
    }

    private boolean askWould() {
        int s = number(1, 9);
        int f = number(0, 9);
        int d = number(0, 999);
        int e = number(0, 99);
        int t = number(0, 9);
        int n = number(0, 5);
        int h = number(0, 7);
        int y = number(0, 500);
        return same("would " + s + " " + f + " " + d + " " + e + " " + t + " " + n + " " + h + " " + y,
                () -> real.would(s, f, d, e, t, n, h, y), () -> model.would(s, f, d, e, t, n, h, y));
    }

    private boolean askYear() {
        int seed = random.nextInt();
        int days = number(1, 96);
        int q = number(0, 16);
        int w = number(0, 3);
        return same("year " + seed + " " + days + " " + q + " " + w, () -> real.year(seed, days, q, w),
                () -> model.year(seed, days, q, w));
    }

    private boolean askSpan(int h) {
        int seed = random.nextInt(20) == 0 ? Integer.MAX_VALUE : random.nextInt();
        int many = number(1, 20);
        int days = number(1, random.nextInt(5) == 0 ? 96 : 12);
        int q = number(0, 16);
        int w = number(0, 2);
        return same("span " + seed + " " + many + " " + days + " " + q + " " + w + " " + h,
                () -> real.span(seed, many, days, q, w, h), () -> model.span(seed, many, days, q, w, h));
    }

    private boolean askAllPianos() {
        for (int p = 0; p < pianos; p++) {
            for (int w = 0; w <= 7; w++) {
                int piano = p;
                int what = w;
                if (!same("piano " + p + " " + w, () -> real.piano(piano, what), () -> model.piano(piano, what))) {
                    return false;
                }
            }
        }
        return true;
    }

    private boolean askAllHouses() {
        for (int h = 0; h < houses; h++) {
            for (int m = 0; m <= 9; m++) {
                int house = h;
                int thing = m;
                if (!same("there " + h + " " + m, () -> real.there(house, thing), () -> model.there(house, thing))) {
                    return false;
                }
            }
        }
        return true;
    }
}
