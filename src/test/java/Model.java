import java.util.ArrayDeque;
import java.util.ArrayList;
import java.util.Arrays;
import java.util.Deque;
import java.util.HashMap;
import java.util.HashSet;
import java.util.List;
import java.util.Map;
import java.util.NoSuchElementException;
import java.util.Set;
import java.util.function.ToIntFunction;

/** The document once more, written as slowly and plainly as can be, to hold TunedHouses against. */
final class Model {
    static final class Fault extends RuntimeException {
        private static final long serialVersionUID = 1L;

        final int kind;
        final int place;

        Fault(int kind, int place) {
            super(null, null, false, false);
            this.kind = kind;
            this.place = place;
        }
    }

    /** A token: 'n' a number, 'w' a word, 'e' the end, or the byte itself for all else. */
    static final class Token {
        char kind;
        String text = "";
        int at;

        int number() {
            return text.length() > 6 && !text.matches("0*[0-9]{1,6}") ? 1_000_000 : Integer.parseInt(text);
        }
    }

    static final class Piano {
        int thing;
        int strong;
        Integer house;
        int felt;
        int days;

        Piano copy() {
            Piano p = new Piano();
            p.thing = thing;
            p.strong = strong;
            p.house = house;
            p.felt = felt;
            p.days = days;
            return p;
        }
    }

    static final class World {
        int day;
        int left = 12;
        List<int[]> there = new ArrayList<>();
        List<Piano> pianos = new ArrayList<>();

        World copy() {
            World w = new World();
            w.day = day;
            w.left = left;
            for (int[] row : there) {
                w.there.add(row.clone());
            }
            for (Piano p : pianos) {
                w.pianos.add(p.copy());
            }
            return w;
        }
    }

    static final class Snapshot {
        World world;
        List<World> works;
    }

    interface Step {
        void run(World w, int[] counts);
    }

    // the tape
    private final List<Integer> tape = new ArrayList<>();
    private int fault = -1;
    // the terrace
    private List<Integer> things = new ArrayList<>();
    private List<int[]> walls = new ArrayList<>();
    private Map<Integer, Integer> wishes = new HashMap<>();
    private World world = new World();
    private ToIntFunction<Map<String, Integer>> law = v -> v.get("strong") - v.get("felt");
    private Map<Integer, Integer> book = new HashMap<>();
    private Deque<World> works = new ArrayDeque<>();
    private Deque<Snapshot> images = new ArrayDeque<>();
    private int refusedSteps;
    private int noSuch;
    private int illegal;

    // ---- reading ----

    private List<Token> tokens;
    private int next;

    private void tokenize(List<Integer> bytes) {
        tokens = new ArrayList<>();
        next = 0;
        int i = 0;
        while (i < bytes.size()) {
            if (bytes.get(i) == 32) {
                i++;
                continue;
            }
            Token t = new Token();
            t.at = i;
            int b = bytes.get(i);
            if (digit(b) || letter(b)) {
                t.kind = digit(b) ? 'n' : 'w';
                StringBuilder s = new StringBuilder();
                while (i < bytes.size() && (t.kind == 'n' ? digit(bytes.get(i)) : letter(bytes.get(i)))) {
                    s.append((char) (int) bytes.get(i));
                    i++;
                }
                t.text = s.toString();
            } else {
                t.kind = (char) b;
                i++;
            }
            tokens.add(t);
        }
        Token end = new Token();
        end.kind = 'e';
        end.at = bytes.size();
        tokens.add(end);
    }

    private static boolean digit(int b) {
        return b >= 48 && b <= 57;
    }

    private static boolean letter(int b) {
        return b >= 97 && b <= 122;
    }

    private Token see() {
        return tokens.get(next);
    }

    private Token take(char kind) {
        Token t = see();
        if (t.kind != kind) {
            throw new Fault(1, t.at);
        }
        next++;
        return t;
    }

    private int takeNumber(int least, int most) {
        Token t = take('n');
        if (t.number() < least || t.number() > most) {
            throw new Fault(2, t.at);
        }
        return t.number();
    }

    private List<Integer> cut(int n, int most) {
        if (n < 0 || n > most || n > tape.size()) {
            throw illegal();
        }
        List<Integer> text = new ArrayList<>(tape.subList(0, n));
        tape.clear();
        fault = -1;
        return text;
    }

    private RuntimeException illegal() {
        illegal++;
        return new IllegalArgumentException();
    }

    private void check(boolean fine) {
        if (!fine) {
            throw illegal();
        }
    }

    private void exists(int number, int many) {
        if (number < 0 || number >= many) {
            noSuch++;
            throw new NoSuchElementException();
        }
    }

    private int answer(Fault f) {
        fault = f.place;
        return f.kind - 10;
    }

    int feed(int... five) {
        if (tape.size() > 580) {
            return -1;
        }
        for (int x : five) {
            for (int k = 3; k >= 0; k--) {
                tape.add(x >> 8 * k & 255);
            }
        }
        return tape.size();
    }

    int terrace(int n) {
        List<Integer> text = cut(n, 600);
        tokenize(text);
        List<Integer> newThings = new ArrayList<>();
        List<int[]> newWalls = new ArrayList<>();
        Map<Integer, Integer> newWishes = new HashMap<>();
        World newWorld = new World();
        try {
            for (int clause = 1; see().kind != 'e'; clause++) {
                Token word = take('w');
                if (!Set.of("house", "wall", "piano", "wish", "felt").contains(word.text)) {
                    throw new Fault(1, word.at);
                }
                boolean full = clause > 60
                        || word.text.equals("house") && newThings.size() == 8
                        || word.text.equals("wall") && newWalls.size() == 12
                        || word.text.equals("piano") && newWorld.pianos.size() == 6;
                if (full) {
                    throw new Fault(3, word.at);
                }
                clause(word.text, newThings, newWalls, newWishes, newWorld);
                take(';');
            }
        } catch (Fault f) {
            return answer(f);
        }
        things = newThings;
        walls = newWalls;
        wishes = newWishes;
        world = newWorld;
        law = v -> v.get("strong") - v.get("felt");
        book = new HashMap<>();
        works.clear();
        images.clear();
        refusedSteps = 0;
        return world.pianos.size();
    }

    private void clause(String word, List<Integer> hs, List<int[]> ws, Map<Integer, Integer> wi, World w) {
        if (word.equals("house")) {
            int m = takeNumber(0, 9);
            hs.add(m);
            int[] row = new int[10];
            row[m] = 50;
            w.there.add(row);
        } else if (word.equals("wall")) {
            int a = takeNumber(0, hs.size() - 1);
            int at = see().at;
            int b = takeNumber(0, hs.size() - 1);
            for (int[] other : ws) {
                if (other[0] == a && other[1] == b || other[0] == b && other[1] == a) {
                    throw new Fault(2, at);
                }
            }
            if (a == b) {
                throw new Fault(2, at);
            }
            ws.add(new int[] {a, b});
        } else if (word.equals("piano")) {
            Piano p = new Piano();
            p.thing = takeNumber(0, 9);
            p.strong = takeNumber(1, 9);
            w.pianos.add(p);
        } else if (word.equals("wish")) {
            int h = takeNumber(0, hs.size() - 1);
            wi.put(h, takeNumber(0, 9));
        } else {
            w.left = takeNumber(0, 40);
        }
    }

    int law(int n) {
        List<Integer> text = cut(n, 150);
        tokenize(text);
        try {
            ToIntFunction<Map<String, Integer>> read = sum(0);
            take('e');
            law = read;
        } catch (Fault f) {
            return answer(f);
        }
        return 1;
    }

    private ToIntFunction<Map<String, Integer>> sum(int open) {
        ToIntFunction<Map<String, Integer>> all = product(open);
        while (see().kind == '+' || see().kind == '-') {
            boolean plus = see().kind == '+';
            next++;
            ToIntFunction<Map<String, Integer>> a = all;
            ToIntFunction<Map<String, Integer>> b = product(open);
            all = plus ? v -> a.applyAsInt(v) + b.applyAsInt(v) : v -> a.applyAsInt(v) - b.applyAsInt(v);
        }
        return all;
    }

    private ToIntFunction<Map<String, Integer>> product(int open) {
        ToIntFunction<Map<String, Integer>> all = unit(open);
        while (see().kind == '*' || see().kind == '/' || see().kind == '%') {
            char sign = see().kind;
            next++;
            ToIntFunction<Map<String, Integer>> a = all;
            ToIntFunction<Map<String, Integer>> b = unit(open);
            all = v -> {
                int x = a.applyAsInt(v);
                int y = b.applyAsInt(v);
                if (sign == '*') {
                    return (int) ((long) x * y);
                }
                if (y == 0) {
                    return 0;
                }
                return sign == '/' ? (int) ((long) x / y) : (int) ((long) x % y);
            };
        }
        return all;
    }

    private ToIntFunction<Map<String, Integer>> unit(int open) {
        Token t = see();
        if (t.kind == 'n') {
            int n = takeNumber(0, 999);
            return v -> n;
        }
        if (t.kind == '(') {
            next++;
            mayOpen(open, t);
            ToIntFunction<Map<String, Integer>> inside = sum(open + 1);
            take(')');
            return inside;
        }
        take('w');
        if (t.text.equals("least") || t.text.equals("most")) {
            mayOpen(open, t);
            take('[');
            ToIntFunction<Map<String, Integer>> a = sum(open + 1);
            take(',');
            ToIntFunction<Map<String, Integer>> b = sum(open + 1);
            take(']');
            return t.text.equals("least") ? v -> Math.min(a.applyAsInt(v), b.applyAsInt(v))
                    : v -> Math.max(a.applyAsInt(v), b.applyAsInt(v));
        }
        if (!Set.of("strong", "felt", "days", "here", "thing", "next", "house", "day").contains(t.text)) {
            throw new Fault(1, t.at);
        }
        return v -> v.get(t.text);
    }

    private static void mayOpen(int open, Token t) {
        if (open == 6) {
            throw new Fault(3, t.at);
        }
    }

    int work(int n) {
        List<Integer> text = cut(n, 150);
        if (works.size() == 16) {
            return -20;
        }
        tokenize(text);
        List<Step> steps;
        try {
            steps = steps(0);
            take('e');
        } catch (Fault f) {
            return answer(f);
        }
        works.push(world.copy());
        int[] counts = new int[3];
        for (Step s : steps) {
            s.run(world, counts);
        }
        refusedSteps = counts[2];
        return counts[1];
    }

    private List<Step> steps(int open) {
        List<Step> all = new ArrayList<>();
        while (see().kind != (open == 0 ? 'e' : ']')) {
            all.add(step(open));
            take(';');
        }
        return all;
    }

    private Step step(int open) {
        Token word = take('w');
        int pianos = world.pianos.size();
        switch (word.text) {
            case "put": {
                int p = takeNumber(0, pianos - 1);
                int h = takeNumber(0, things.size() - 1);
                return counted(w -> put(w, p, h));
            }
            case "take": {
                int p = takeNumber(0, pianos - 1);
                return counted(w -> {
                    boolean stood = w.pianos.get(p).house != null;
                    w.pianos.get(p).house = null;
                    w.pianos.get(p).days = 0;
                    return stood;
                });
            }
            case "lay": {
                int p = takeNumber(0, pianos - 1);
                int n = takeNumber(0, 9);
                return counted(w -> {
                    Piano piano = w.pianos.get(p);
                    if (piano.felt == n || w.left + piano.felt < n) {
                        return false;
                    }
                    w.left += piano.felt - n;
                    piano.felt = n;
                    return true;
                });
            }
            case "day":
                return counted(w -> {
                    if (w.day == 500) {
                        return false;
                    }
                    day(w);
                    return true;
                });
            case "again": {
                mayOpen(open, word);
                int n = takeNumber(0, 60);
                take('[');
                List<Step> inner = steps(open + 1);
                take(']');
                return (w, counts) -> {
                    if (counts[0] == 200) {
                        return;
                    }
                    counts[0]++;
                    for (int i = 0; i < n; i++) {
                        for (Step s : inner) {
                            s.run(w, counts);
                        }
                    }
                };
            }
            default:
                throw new Fault(1, word.at);
        }
    }

    interface Deed {
        boolean happens(World w);
    }

    private static Step counted(Deed deed) {
        return (w, counts) -> {
            if (counts[0] == 200) {
                return;
            }
            counts[0]++;
            counts[deed.happens(w) ? 1 : 2]++;
        };
    }

    int book(int n) {
        List<Integer> text = cut(n, 60);
        tokenize(text);
        Map<Integer, Integer> read = new HashMap<>();
        try {
            while (see().kind != 'e') {
                int at = see().at;
                int d = takeNumber(0, 60);
                if (read.containsKey(d)) {
                    throw new Fault(2, at);
                }
                if (read.size() == 6) {
                    throw new Fault(3, at);
                }
                read.put(d, takeNumber(0, 99));
                take(';');
            }
        } catch (Fault f) {
            return answer(f);
        }
        book = read;
        return book.size();
    }

    int fault() {
        return fault;
    }

    int undo() {
        if (works.isEmpty()) {
            return -1;
        }
        world = works.pop();
        refusedSteps = 0;
        return works.size();
    }

    // ---- rules of a day ----

    private boolean wallBetween(int a, int b) {
        for (int[] w : walls) {
            if (w[0] == a && w[1] == b || w[0] == b && w[1] == a) {
                return true;
            }
        }
        return false;
    }

    private static Integer stands(World w, int h) {
        for (int p = 0; p < w.pianos.size(); p++) {
            if (w.pianos.get(p).house != null && w.pianos.get(p).house == h) {
                return p;
            }
        }
        return null;
    }

    private static boolean put(World w, int p, int h) {
        if (stands(w, h) != null) {
            return false;
        }
        w.pianos.get(p).house = h;
        w.pianos.get(p).days = 0;
        return true;
    }

    private int force(World w, int p) {
        Piano piano = w.pianos.get(p);
        if (piano.house == null) {
            return 0;
        }
        int near = 0;
        for (Piano q : w.pianos) {
            if (q.house != null && wallBetween(q.house, piano.house)) {
                near++;
            }
        }
        return forceBy(piano.strong, piano.felt, piano.days, w.there.get(piano.house)[piano.thing], piano.thing,
                near, piano.house, w.day);
    }

    private int forceBy(int strong, int felt, int days, int here, int thing, int near, int house, int day) {
        int x = law.applyAsInt(Map.of("strong", strong, "felt", felt, "days", days, "here", here, "thing", thing,
                "next", near, "house", house, "day", day));
        return x < 0 ? 0 : x > 40 ? 40 : x;
    }

    private boolean fight(World w, int p, int q) {
        Piano a = w.pianos.get(p);
        Piano b = w.pianos.get(q);
        return a.house != null && b.house != null && a.thing != b.thing && wallBetween(a.house, b.house);
    }

    private int brings(World w, int p) {
        int x = force(w, p);
        for (int q = 0; q < w.pianos.size(); q++) {
            if (fight(w, p, q)) {
                x -= force(w, q);
            }
        }
        return x < 0 ? 0 : x;
    }

    private void day(World w) {
        World before = w.copy();
        for (int p = 0; p < w.pianos.size(); p++) {
            Piano piano = w.pianos.get(p);
            if (piano.house != null) {
                int[] row = w.there.get(piano.house);
                row[piano.thing] = Math.min(99, row[piano.thing] + brings(before, p));
                piano.days++;
            }
        }
        w.day++;
    }

    private static int is(World w, int h) {
        int[] row = w.there.get(h);
        int most = Arrays.stream(row).max().getAsInt();
        for (int m = 0; m < 10; m++) {
            if (row[m] == most) {
                return m;
            }
        }
        throw new IllegalStateException();
    }

    private int changedIn(World w) {
        int bits = 0;
        for (int h = 0; h < things.size(); h++) {
            bits += is(w, h) != things.get(h) ? 1 << h : 0;
        }
        return bits;
    }

    private int happyIn(World w) {
        int bits = 0;
        for (int h = 0; h < things.size(); h++) {
            bits += wishes.containsKey(h) && wishes.get(h) == is(w, h) ? 1 << h : 0;
        }
        return bits;
    }

    private static int allIn(World w) {
        return w.there.stream().mapToInt(row -> Arrays.stream(row).sum()).sum();
    }

    // ---- answers ----

    int told(int what) {
        check(what >= 0 && what <= 10);
        int pianos = world.pianos.size();
        int standing = 0;
        int fighting = 0;
        for (int p = 0; p < pianos; p++) {
            standing |= world.pianos.get(p).house != null ? 1 << p : 0;
            for (int q = 0; q < pianos; q++) {
                fighting |= fight(world, p, q) ? 1 << p : 0;
            }
        }
        int[] all = {things.size(), walls.size(), pianos, world.day, world.left, standing, happyIn(world), fighting,
            book.size(), refusedSteps, allIn(world)};
        return all[what];
    }

    int house(int house, int what) {
        exists(house, things.size());
        check(what >= 0 && what <= 5);
        int near = 0;
        for (int h = 0; h < things.size(); h++) {
            near |= wallBetween(h, house) ? 1 << h : 0;
        }
        Integer in = stands(world, house);
        int[] all = {is(world, house), in == null ? -1 : in, near, wishes.getOrDefault(house, -1),
            (int) Arrays.stream(world.there.get(house)).filter(x -> x > 0).count(), things.get(house)};
        return all[what];
    }

    int there(int house, int thing) {
        exists(house, things.size());
        check(thing >= 0 && thing <= 9);
        return world.there.get(house)[thing];
    }

    int wall(int wall, int what) {
        exists(wall, walls.size());
        check(what == 0 || what == 1);
        return walls.get(wall)[what];
    }

    int piano(int piano, int what) {
        exists(piano, world.pianos.size());
        check(what >= 0 && what <= 7);
        Piano p = world.pianos.get(piano);
        int foes = 0;
        for (int q = 0; q < world.pianos.size(); q++) {
            foes |= fight(world, piano, q) ? 1 << q : 0;
        }
        int[] all = {p.thing, p.strong, p.house == null ? -1 : p.house, p.felt, p.days, force(world, piano),
            brings(world, piano), foes};
        return all[what];
    }

    int would(int strong, int felt, int days, int here, int thing, int near, int house, int day) {
        check(strong >= 1 && strong <= 9 && felt >= 0 && felt <= 9 && days >= 0 && days <= 999 && here >= 0
                && here <= 99 && thing >= 0 && thing <= 9 && near >= 0 && near <= 5 && house >= 0 && house <= 7
                && day >= 0 && day <= 500);
        return forceBy(strong, felt, days, here, thing, near, house, day);
    }

    int ahead(int house, int n, int what) {
        exists(house, things.size());
        check(n >= 0 && n <= 99 && (what == 0 || what == 1));
        World w = world.copy();
        for (int i = 0; i < n; i++) {
            day(w);
        }
        return what == 0 ? is(w, house) : w.there.get(house)[is(w, house)];
    }

    int when(int house, int thing) {
        exists(house, things.size());
        check(thing >= 0 && thing <= 9);
        World w = world.copy();
        for (int i = 0; i <= 200; i++) {
            if (is(w, house) == thing) {
                return i;
            }
            day(w);
        }
        return -1;
    }

    int muffle(int piano) {
        exists(piano, world.pianos.size());
        World w = world.copy();
        for (int n = 0; n <= 9 && w.pianos.get(piano).house != null; n++) {
            w.pianos.get(piano).felt = n;
            if (force(w, piano) == 0) {
                return n;
            }
        }
        return -1;
    }

    private int bestWishes;
    private List<Integer> bestWay;

    private void allWays(List<Integer> way) {
        int p = way.size();
        if (p == world.pianos.size()) {
            int come = 0;
            for (int q = 0; q < p; q++) {
                come += wishes.getOrDefault(way.get(q), -1) == world.pianos.get(q).thing ? 1 : 0;
                for (int r = 0; r < q; r++) {
                    if (wallBetween(way.get(q), way.get(r))
                            && world.pianos.get(q).thing != world.pianos.get(r).thing) {
                        return;
                    }
                }
            }
            if (bestWay == null || come > bestWishes) {
                bestWishes = come;
                bestWay = new ArrayList<>(way);
            }
            return;
        }
        for (int h = 0; h < things.size(); h++) {
            if (!way.contains(h)) {
                way.add(h);
                allWays(way);
                way.remove(p);
            }
        }
    }

    int places() {
        bestWay = null;
        allWays(new ArrayList<>());
        return bestWay == null ? -1 : bestWishes;
    }

    int placed(int piano) {
        exists(piano, world.pianos.size());
        return places() < 0 ? -1 : bestWay.get(piano);
    }

    private int[] course(int house, int strong, int start) {
        int[] amounts = new int[61];
        amounts[0] = start;
        for (int d = 0; d < 60; d++) {
            amounts[d + 1] = Math.min(99, amounts[d] + forceBy(strong, 0, d, amounts[d], 0, 0, house, d));
        }
        return amounts;
    }

    private List<int[]> courses(int house) {
        List<int[]> fitting = new ArrayList<>();
        for (int strong = 1; strong <= 9; strong++) {
            for (int start = 0; start <= 99; start++) {
                int[] c = course(house, strong, start);
                if (book.entrySet().stream().allMatch(e -> c[e.getKey()] == e.getValue())) {
                    int[] withName = Arrays.copyOf(c, 62);
                    withName[61] = 100 * strong + start;
                    fitting.add(withName);
                }
            }
        }
        return fitting;
    }

    int from(int house, int what) {
        exists(house, things.size());
        check(what == 0 || what == 1);
        List<int[]> all = courses(house);
        return what == 0 ? all.size() : all.isEmpty() ? -1 : all.get(0)[61];
    }

    int look(int house, int what) {
        exists(house, things.size());
        check(what == 0 || what == 1);
        List<int[]> all = courses(house);
        int best = -1;
        int least = Integer.MAX_VALUE;
        for (int d = 0; d <= 60; d++) {
            if (book.containsKey(d)) {
                continue;
            }
            Map<Integer, Integer> seen = new HashMap<>();
            for (int[] c : all) {
                seen.merge(c[d], 1, Integer::sum);
            }
            int worst = seen.values().stream().mapToInt(x -> x).max().orElse(0);
            if (worst < least) {
                least = worst;
                best = d;
            }
        }
        return what == 0 ? best : least;
    }

    int way(int house, int other) {
        exists(house, things.size());
        exists(other, things.size());
        Map<Integer, Integer> far = new HashMap<>();
        Deque<Integer> queue = new ArrayDeque<>(List.of(house));
        far.put(house, 0);
        while (!queue.isEmpty()) {
            int at = queue.poll();
            for (int h = 0; h < things.size(); h++) {
                if (wallBetween(at, h) && !far.containsKey(h)) {
                    far.put(h, far.get(at) + 1);
                    queue.add(h);
                }
            }
        }
        return far.getOrDefault(other, -1);
    }

    int alone() {
        int best = 0;
        for (int set = 0; set < 1 << things.size(); set++) {
            boolean fine = Integer.bitCount(set) > Integer.bitCount(best);
            for (int[] w : walls) {
                fine &= (set >> w[0] & 1) == 0 || (set >> w[1] & 1) == 0;
            }
            best = fine ? set : best;
        }
        return best;
    }

    long price(int n, int k, int part) {
        check(n >= 1 && n <= 6 && k >= 1 && k <= 9 && (part == 0 || part == 1));
        java.math.BigInteger kk = java.math.BigInteger.valueOf(k);
        java.math.BigInteger above = java.math.BigInteger.ZERO;
        java.math.BigInteger below = java.math.BigInteger.ONE;
        for (int left = 1; left <= n; left++) {
            java.math.BigInteger sum = java.math.BigInteger.ZERO;
            for (int bid = 1; bid <= k; bid++) {
                java.math.BigInteger now = java.math.BigInteger.valueOf(bid).multiply(below);
                sum = sum.add(now.compareTo(above) >= 0 ? now : above);
            }
            above = sum;
            below = below.multiply(kk);
            java.math.BigInteger g = above.gcd(below);
            above = above.divide(g);
            below = below.divide(g);
        }
        return part == 0 ? above.longValueExact() : below.longValueExact();
    }

    int tuner(int v, int w, int what) {
        check(v >= 0 && v <= 99 && w >= 0 && w <= 99 && what >= 0 && what <= 2);
        int[][] his = {{v, -1}, {0, 0}};
        int[][] its = {{v, 0}, {w, 0}};
        int many = 0;
        int first = -1;
        int sum = 0;
        for (int code : new int[] {0, 1, 10, 11}) {
            int he = code / 10;
            int it = code % 10;
            if (his[1 - he][it] <= his[he][it] && its[he][1 - it] <= its[he][it]) {
                if (many == 0) {
                    first = code;
                    sum = his[he][it] + its[he][it];
                }
                many++;
            }
        }
        return new int[] {many, first, sum}[what];
    }

    int share(int piano, int pianos, int n) {
        exists(piano, world.pianos.size());
        check(pianos >= 0 && pianos < 1 << world.pianos.size() && n >= 0 && n <= 99);
        if ((pianos & 1 << piano) == 0) {
            return 0;
        }
        int bound = 0;
        while (bound < 9) {
            int sum = 0;
            for (int p = 0; p < world.pianos.size(); p++) {
                sum += (pianos & 1 << p) != 0 ? Math.min(bound + 1, world.pianos.get(p).strong) : 0;
            }
            if (sum > n) {
                break;
            }
            bound++;
        }
        return Math.min(bound, world.pianos.get(piano).strong);
    }

    int those(int thing) {
        check(thing >= 0 && thing <= 9);
        int bits = 0;
        for (int h = 0; h < things.size(); h++) {
            bits |= is(world, h) == thing ? 1 << h : 0;
        }
        return bits;
    }

    int loudest(int what) {
        check(what == 0 || what == 1);
        int best = -1;
        for (int p = world.pianos.size() - 1; p >= 0; p--) {
            if (world.pianos.get(p).house != null && (best < 0 || force(world, p) >= force(world, best))) {
                best = p;
            }
        }
        return best < 0 || what == 0 ? best : force(world, best);
    }

    int quiet(int piano) {
        exists(piano, world.pianos.size());
        int bits = 0;
        for (int h = 0; h < things.size(); h++) {
            Integer in = stands(world, h);
            if (in != null && in != piano) {
                continue;
            }
            World w = world.copy();
            w.pianos.get(piano).house = h;
            boolean calm = true;
            for (int q = 0; q < w.pianos.size(); q++) {
                calm &= !fight(w, piano, q);
            }
            bits |= calm ? 1 << h : 0;
        }
        return bits;
    }

    int changed() {
        return changedIn(world);
    }

    int oldest(int what) {
        check(what == 0 || what == 1);
        int best = -1;
        for (int p = world.pianos.size() - 1; p >= 0; p--) {
            Piano x = world.pianos.get(p);
            if (x.house != null && (best < 0 || x.days >= world.pianos.get(best).days)) {
                best = p;
            }
        }
        return best < 0 || what == 0 ? best : world.pianos.get(best).days;
    }

    int empty() {
        int bits = 0;
        for (int h = 0; h < things.size(); h++) {
            bits |= stands(world, h) == null ? 1 << h : 0;
        }
        return bits;
    }

    int margin(int house) {
        exists(house, things.size());
        int[] row = world.there.get(house).clone();
        Arrays.sort(row);
        return row[9] - row[8];
    }

    int tunes(int piano, int house) {
        exists(piano, world.pianos.size());
        exists(house, things.size());
        Integer in = stands(world, house);
        if (in != null) {
            return in == piano ? brings(world, piano) : -1;
        }
        World w = world.copy();
        put(w, piano, house);
        return brings(w, piano);
    }

    private int puts;

    private World playYear(int seed, int days, int q) {
        World w = world.copy();
        int[] s = {seed};
        puts = 0;
        for (int d = 0; d < days; d++) {
            if (draw(s, 16) < q && !w.pianos.isEmpty() && !things.isEmpty()) {
                int p = draw(s, w.pianos.size());
                int h = draw(s, things.size());
                puts += put(w, p, h) ? 1 : 0;
            }
            day(w);
        }
        return w;
    }

    private static int draw(int[] seed, int by) {
        seed[0] = (int) (seed[0] * 1103515245L + 12345L);
        return (int) (((seed[0] & 0xffffffffL) / 65536 % 32768) % by);
    }

    int year(int seed, int days, int q, int what) {
        check(days >= 1 && days <= 96 && q >= 0 && q <= 16 && what >= 0 && what <= 3);
        World w = playYear(seed, days, q);
        return new int[] {changedIn(w), puts, allIn(w), happyIn(w)}[what];
    }

    int span(int seed, int many, int days, int q, int what, int house) {
        check(many >= 1 && many <= 20 && days >= 1 && days <= 96 && q >= 0 && q <= 16 && what >= 0 && what <= 2
                && house >= 0 && house < things.size());
        List<Integer> counts = new ArrayList<>();
        int often = 0;
        for (int i = 0; i < many; i++) {
            int bits = changedIn(playYear(seed + i, days, q));
            counts.add(Integer.bitCount(bits));
            often += (bits & 1 << house) != 0 ? 1 : 0;
        }
        int least = new HashSet<>(counts).stream().mapToInt(x -> x).min().getAsInt();
        int most = new HashSet<>(counts).stream().mapToInt(x -> x).max().getAsInt();
        return new int[] {least, most, often}[what];
    }

    int image() {
        if (images.size() == 3) {
            return -1;
        }
        Snapshot s = new Snapshot();
        s.world = world.copy();
        s.works = new ArrayList<>();
        works.forEach(w -> s.works.add(w.copy()));
        images.push(s);
        return images.size();
    }

    int restore() {
        if (images.isEmpty()) {
            return -1;
        }
        Snapshot s = images.pop();
        world = s.world;
        works = new ArrayDeque<>(s.works);
        refusedSteps = 0;
        return images.size();
    }

    int status(int what) {
        return what == 0 ? noSuch : what == 1 ? illegal : -1;
    }

    int count(int what) {
        return what == 0 ? images.size() : what == 1 ? tape.size() : what == 2 ? works.size() : -1;
    }
}
