import java.lang.reflect.Constructor;
import java.lang.reflect.Field;
import java.lang.reflect.InvocationTargetException;
import java.lang.reflect.Method;
import java.lang.reflect.Modifier;
import java.util.Arrays;
import java.util.TreeSet;

/** The face, the least and the greatest arguments of every question, those just beyond, and the counts (promises 39, 40). */
public final class RefusalEdgesTest extends Checks {
    /** Any number will do. */
    private static final int[] ANY = {};
    /** The busy object has houses 0 to 2, walls 0 and 1, pianos 0 to 2. */
    private static final int[] HOUSE = {0, 2, 1};
    private static final int[] WALL = {0, 1, 1};
    private static final int[] PIANO = {0, 2, 1};

    public static void main(String[] args) {
        face();
        stateQuestions();
        dayQuestions();
        placeQuestions();
        sums();
        years();
        withoutArguments();
        emptyTerrace();
        status();
        count();
        finish("RefusalEdgesTest");
    }

    // ---- the face ----

    private static final String[] FACE = {"long price(int,int,int) IllegalArgumentException", "int ahead(int,int,int) both",
        "int alone()", "int book(int) IllegalArgumentException", "int changed()", "int count(int)", "int empty()", "int fault()",
        "int feed(int,int,int,int,int)", "int from(int,int) both", "int house(int,int) both", "int image()",
        "int law(int) IllegalArgumentException", "int look(int,int) both", "int loudest(int) IllegalArgumentException",
        "int margin(int) NoSuchElementException", "int muffle(int) NoSuchElementException",
        "int oldest(int) IllegalArgumentException", "int piano(int,int) both", "int placed(int) NoSuchElementException",
        "int places()", "int quiet(int) NoSuchElementException", "int restore()", "int share(int,int,int) both",
        "int span(int,int,int,int,int,int) IllegalArgumentException", "int status(int)",
        "int terrace(int) IllegalArgumentException", "int there(int,int) both", "int those(int) IllegalArgumentException",
        "int told(int) IllegalArgumentException", "int tuner(int,int,int) IllegalArgumentException",
        "int tunes(int,int) NoSuchElementException", "int undo()", "int wall(int,int) both",
        "int way(int,int) NoSuchElementException", "int when(int,int) both", "int work(int) IllegalArgumentException",
        "int would(int,int,int,int,int,int,int,int) IllegalArgumentException", "int year(int,int,int,int) IllegalArgumentException"};

    private static void face() {
        says(0, "public final class TunedHouses {");
        due(Modifier.isFinal(TunedHouses.class.getModifiers()) ? 1 : 0, 1, "final");
        due(Modifier.isPublic(TunedHouses.class.getModifiers()) ? 1 : 0, 1, "public");
        TreeSet<String> face = new TreeSet<>();
        for (Method m : TunedHouses.class.getDeclaredMethods()) {
            if (!Modifier.isPrivate(m.getModifiers()) && !m.isSynthetic()) {
                face.add(described(m));
            }
        }
        alike(face.toString(), new TreeSet<>(Arrays.asList(FACE)).toString(), "the methods of the face");
        for (Constructor<?> c : TunedHouses.class.getDeclaredConstructors()) {
            due(c.getParameterCount(), 0, "the constructor's parameters");
        }
        says(0, "public static final int NONE = -1;");
        due(TunedHouses.NONE, -1, "NONE");
        for (Field f : TunedHouses.class.getDeclaredFields()) {
            due(Modifier.isPrivate(f.getModifiers()) || f.getName().equals("NONE") ? 1 : 0, 1, "field " + f.getName() + " is private");
        }
    }

    private static String described(Method m) {
        StringBuilder b = new StringBuilder();
        b.append(m.getReturnType()).append(' ').append(m.getName()).append('(');
        for (int i = 0; i < m.getParameterCount(); i++) {
            b.append(i > 0 ? "," : "").append(m.getParameterTypes()[i]);
        }
        b.append(')');
        Class<?>[] thrown = m.getExceptionTypes();
        return thrown.length == 2 ? b + " both" : thrown.length == 1 ? b + " " + thrown[0].getSimpleName() : b.toString();
    }

    // ---- one row for each question ----

    private static int[] to(int least, int most) {
        return new int[] {least, most};
    }

    private static boolean isMember(int[] range) {
        return range.length == 3;
    }

    /** Every argument at its least and its greatest, then just beyond and far beyond; no such member comes ahead of others. */
    private static void question(int promise, String sentence, String name, int[]... ranges) {
        says(promise, sentence);
        int[] least = ends(ranges, 0);
        int[] most = ends(ranges, 1);
        asked(shown(name, least), x -> call(x, name, least));
        asked(shown(name, most), x -> call(x, name, most));
        for (int i = 0; i < ranges.length; i++) {
            if (ranges[i] == ANY) {
                continue;
            }
            for (int value : beyond(ranges[i])) {
                for (int[] others : new int[][] {least, most}) {
                    int[] a = others.clone();
                    a[i] = value;
                    refused(isMember(ranges[i]) ? NO_SUCH : ILLEGAL, shown(name, a), x -> call(x, name, a));
                }
            }
        }
        allWrong(name, ranges);
    }

    private static int[] ends(int[][] ranges, int end) {
        int[] a = new int[ranges.length];
        for (int i = 0; i < a.length; i++) {
            a[i] = ranges[i] != ANY ? ranges[i][end] : end == 0 ? Integer.MIN_VALUE : Integer.MAX_VALUE;
        }
        return a;
    }

    private static int[] beyond(int[] range) {
        int least = range[0];
        int most = range[1];
        return new int[] {least - 1, most + 1, least - 1000, most + 1000, Integer.MIN_VALUE, Integer.MAX_VALUE,
            least + (1 << 8) * 16, least - (1 << 16)};
    }

    private static void allWrong(String name, int[][] ranges) {
        boolean member = false;
        int[] low = new int[ranges.length];
        int[] high = new int[ranges.length];
        for (int i = 0; i < ranges.length; i++) {
            member |= isMember(ranges[i]);
            low[i] = ranges[i] == ANY ? 0 : ranges[i][0] - 1;
            high[i] = ranges[i] == ANY ? 0 : ranges[i][1] + 1;
        }
        Class<? extends RuntimeException> due = member ? NO_SUCH : ILLEGAL;
        refused(due, shown(name, low), x -> call(x, name, low));
        refused(due, shown(name, high), x -> call(x, name, high));
    }

    private static String shown(String name, int[] a) {
        return name + Arrays.toString(a);
    }

    private static long call(TunedHouses x, String name, int[] a) {
        Class<?>[] types = new Class<?>[a.length];
        Object[] values = new Object[a.length];
        for (int i = 0; i < a.length; i++) {
            types[i] = int.class;
            values[i] = a[i];
        }
        try {
            return ((Number) TunedHouses.class.getMethod(name, types).invoke(x, values)).longValue();
        } catch (InvocationTargetException e) {
            if (e.getCause() instanceof RuntimeException) {
                throw (RuntimeException) e.getCause();
            }
            throw new IllegalStateException(e);
        } catch (ReflectiveOperationException e) {
            throw new IllegalStateException(e);
        }
    }

    private static void stateQuestions() {
        question(9, "IllegalArgumentException: another what (so below).", "told", to(0, 10));
        question(10, "NoSuchElementException: no such HOUSE, WALL, PIANO (so below, ahead of others).", "house", HOUSE, to(0, 5));
        question(11, "How much there is of a THING (0 to 9) in a HOUSE.", "there", HOUSE, to(0, 9));
        question(12, "Of a WALL: 0 A, 1 B.", "wall", WALL, to(0, 1));
        question(13, "Of a PIANO: 0 M, 1 S, 2 the HOUSE (NONE)", "piano", PIANO, to(0, 7));
        question(27, "HOUSES (bits) that are a THING (0 to 9).", "those", to(0, 9));
        question(28, "The PIANO of most FORCE (what 0), of alike ones the first, its FORCE (1)", "loudest", to(0, 1));
        question(29, "HOUSES (bits) in which a PIANO could be put now and FIGHT none", "quiet", PIANO);
        question(31, "The PIANO that stands longest where it stands (what 0), of alike ones the first, its days (1)", "oldest", to(0, 1));
        question(33, "How much more there is in a HOUSE of the THING it IS", "margin", HOUSE);
    }

    private static void dayQuestions() {
        question(14, "FORCE by the LAW for such strong (1 to 9), felt (0 to 9), days (0 to 999), here (0 to 99), thing (0 to 9), next (0 "
                + "to 5), house (0 to 7), day (0 to 500).", "would",
                to(1, 9), to(0, 9), to(0, 999), to(0, 99), to(0, 9), to(0, 5), to(0, 7), to(0, 500));
        question(15, "In n DAYS (0 to 99), nothing being done", "ahead", HOUSE, to(0, 99), to(0, 1));
        question(16, "WHEN of a THING (0 to 9; 0: now).", "when", HOUSE, to(0, 9));
        question(17, "MUFFLE; NONE also: it stands in none.", "muffle", PIANO);
        question(34, "What a PIANO would BRING in a HOUSE", "tunes", PIANO, HOUSE);
    }

    private static void placeQuestions() {
        question(19, "The HOUSE of a PIANO by PLACES; NONE.", "placed", PIANO);
        question(20, "FROM of a HOUSE: 0 how many pairs, 1 the first", "from", HOUSE, to(0, 1));
        question(21, "LOOK of a HOUSE: 0 the day, 1 how many pairs are left at the worst.", "look", HOUSE, to(0, 1));
        question(22, "WAY (0: one HOUSE).", "way", HOUSE, HOUSE);
    }

    private static void sums() {
        question(24, "PRICE by n (1 to 6), k (1 to 9): above (part 0), below (part 1)", "price", to(1, 6), to(1, 9), to(0, 1));
        question(25, "TUNER by v, w (0 to 99): 0 how many RESTS", "tuner", to(0, 99), to(0, 99), to(0, 2));
        question(26, "What a PIANO gets of n (0 to 99) by SHARES among told PIANOS", "share", PIANO, to(0, 7), to(0, 99));
    }

    private static void years() {
        question(35, "A YEAR of so many DAYS (1 to 96), Q (0 to 16)", "year", ANY, to(1, 96), to(0, 16), to(0, 3));
        question(36, "Of so many SEEDS (1 to 20; seed, seed and 1, ..)", "span", ANY, to(1, 20), to(1, 96), to(0, 16), to(0, 2), to(0, 2));
    }

    private static void withoutArguments() {
        says(0, "Asked, nothing stays changed");
        for (String name : new String[] {"fault", "places", "alone", "changed", "empty"}) {
            asked(name + "()", x -> call(x, name, new int[0]));
        }
        for (int w : new int[] {Integer.MIN_VALUE, -1, 0, 1, 2, 3, Integer.MAX_VALUE}) {
            asked("status(" + w + ")", x -> x.status(w));
            asked("count(" + w + ")", x -> x.count(w));
        }
    }

    /** Of no houses, walls and pianos there is not even one. */
    private static void emptyTerrace() {
        says(10, "NoSuchElementException: no such HOUSE, WALL, PIANO (so below, ahead of others).");
        String[] names = {"house 2", "there 2", "wall 2", "piano 2", "ahead 3", "when 2", "muffle 1", "placed 1", "from 2", "look 2",
            "way 2", "share 3", "quiet 1", "margin 1", "tunes 2"};
        TunedHouses x = new TunedHouses();
        int calls = 0;
        for (String row : names) {
            String name = row.substring(0, row.indexOf(' '));
            int[] zeros = new int[Integer.parseInt(row.substring(row.indexOf(' ') + 1))];
            alike(outcome(x, y -> call(y, name, zeros)), NO_SUCH.getName(), shown(name, zeros) + " of a new object");
            calls++;
            due(x.status(0), calls, "status(0)");
        }
        due(x.status(1), 0, "status(1)");
        // Houses without pianos, pianos without houses: what is told of the one says nothing of the other.
        TunedHouses houses = with("house 1;house 1;");
        alike(outcome(houses, y -> y.tunes(0, 0)), NO_SUCH.getName(), "tunes(0, 0) without pianos");
        alike(outcome(houses, y -> y.wall(0, 0)), NO_SUCH.getName(), "wall(0, 0) without walls");
        alike(outcome(houses, y -> y.piano(0, 0)), NO_SUCH.getName(), "piano(0, 0) without pianos");
        due(houses.way(0, 1), NONE, "way(0, 1) without walls");
        TunedHouses pianos = with("piano 1 1;piano 1 1;");
        alike(outcome(pianos, y -> y.tunes(0, 0)), NO_SUCH.getName(), "tunes(0, 0) without houses");
        alike(outcome(pianos, y -> y.way(0, 1)), NO_SUCH.getName(), "way(0, 1) without houses");
        due(pianos.piano(1, 2), NONE, "piano(1, 2) without houses");
        due(pianos.quiet(1), 0, "quiet(1) without houses");
    }

    // ---- promises 39 and 40 ----

    private static void status() {
        says(39, "How many calls were refused: 0 NoSuchElementException, 1 IllegalArgumentException; NONE for others. (No IMAGE keeps it.)");
        TunedHouses x = new TunedHouses();
        due(x.status(0) + x.status(1), 0, "none");
        for (int what : new int[] {-1, 2, 3, 256, Integer.MIN_VALUE, Integer.MAX_VALUE}) {
            due(x.status(what), NONE, "status(" + what + ")");
        }
        due(x.status(0) + x.status(1), 0, "NONE is no refusal");
        terrace(x, THREE);
        x.image();
        for (int i = 1; i <= 5; i++) {
            outcome(x, y -> y.house(3, 0));
            due(x.status(0), i, "status(0)");
            due(x.status(1), i - 1, "status(1)");
            outcome(x, y -> y.told(11));
            due(x.status(1), i, "status(1)");
        }
        x.restore();
        due(x.status(0) * 10 + x.status(1), 55, "no image keeps it");
        work(x, "day;");
        outcome(x, y -> y.work(1));
        x.undo();
        due(x.status(0) * 10 + x.status(1), 56, "no undo brings it back");
        terrace(x, "");
        due(x.status(0) * 10 + x.status(1), 56, "no terrace ends it");
        terrace(x, "dog");
        law(x, "dog");
        work(x, "dog");
        book(x, "dog");
        due(x.status(0) * 10 + x.status(1), 56, "a fault is no refusal");
        x.undo();
        x.restore();
        for (int i = 0; i < 4; i++) {
            x.image();
        }
        for (int i = 0; i < 31; i++) {
            x.feed(0, 0, 0, 0, 0);
        }
        due(x.status(0) * 10 + x.status(1), 56, "-1 is no refusal");
    }

    private static void count() {
        says(40, "0 IMAGES, 1 bytes of the TAPE, 2 WORKS that can be undone; NONE for others.");
        TunedHouses x = with(THREE);
        for (int what : new int[] {-1, 3, 4, 256, Integer.MIN_VALUE, Integer.MAX_VALUE}) {
            due(x.count(what), NONE, "count(" + what + ")");
        }
        due(x.status(0) + x.status(1), 0, "NONE is no refusal");
        for (int i = 0; i <= 3; i++) {
            due(x.count(0), i, "images");
            x.image();
        }
        due(x.count(0), 3, "images");
        for (int i = 3; i >= 0; i--) {
            due(x.count(0), i, "images");
            x.restore();
        }
        due(x.count(0), 0, "images");
        for (int i = 0; i <= 16; i++) {
            due(x.count(2), i, "works");
            work(x, i % 2 == 0 ? "" : "take 0;");
        }
        due(x.count(2), 16, "works");
        for (int i = 16; i >= 0; i--) {
            due(x.count(2), i, "works");
            x.undo();
        }
        due(x.count(2), 0, "works");
        for (int i = 0; i <= 30; i++) {
            due(x.count(1), 20 * i, "bytes");
            x.feed(i, i, i, i, i);
        }
        due(x.count(1), 600, "bytes");
        outcome(x, y -> y.terrace(601));
        due(x.count(1), 600, "a refused text leaves them");
        x.terrace(1);
        due(x.count(1), 0, "a text with a fault does not");
    }
}
