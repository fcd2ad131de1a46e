import java.util.Arrays;
import java.util.NoSuchElementException;

/** A terrace of houses and the pianos that tune each house to the house they left. */
public final class TunedHouses {
    public static final int NONE = -1;

    private static final int THINGS = 10;
    private static final int MOST_HOUSES = 8;
    private static final int MOST_WALLS = 12;
    private static final int MOST_PIANOS = 6;
    private static final int MOST_CLAUSES = 60;
    private static final int MOST_LINES = 6;
    private static final int MOST_OPEN = 6;
    private static final int MOST_TURNS = 60;
    private static final int MOST_BEGUN = 200;
    private static final int MOST_WORKS = 16;
    private static final int MOST_IMAGES = 3;

    private static final int TAPE_BYTES = 600;
    private static final int LAW_BYTES = 150;
    private static final int WORK_BYTES = 150;
    private static final int BOOK_BYTES = 60;

    private static final int FIRST_THERE = 50;
    private static final int MOST_THERE = 99;
    private static final int MOST_STRONG = 9;
    private static final int MOST_FELT = 9;
    private static final int MOST_FORCE = 40;
    private static final int MOST_SHEETS = 40;
    private static final int SHEETS_UNTOLD = 12;
    private static final int LAST_DAY = 500;
    private static final int DAYS_TO_WAIT = 200;
    private static final int BOOK_DAYS = 60;

    private static final int CANNOT_STAND = 1;
    private static final int NO_SUCH_NUMBER = 2;
    private static final int TOO_MANY = 3;
    private static final int LESS_FOR_FAULT = 10;
    private static final int WORKS_FULL = -20;

    private static final int STRONG = 0;
    private static final int FELT = 1;
    private static final int DAYS = 2;
    private static final int HERE = 3;
    private static final int THING = 4;
    private static final int NEXT = 5;
    private static final int HOUSE = 6;
    private static final int DAY = 7;
    private static final int INPUTS = 8;

    private final Tape tape = new Tape();
    private final Terrace terrace = new Terrace();
    private final Terrace draftTerrace = new Terrace();
    private final Law law = new Law();
    private final Law draftLaw = new Law();
    private final Book book = new Book();
    private final Book draftBook = new Book();
    private final Work work = new Work(terrace);
    private final Scene now = new Scene(terrace, law);
    private final Scene trial = new Scene(terrace, law);
    private final Past past = new Past();
    private final Image[] images = new Image[MOST_IMAGES];
    private int imageCount;
    private final Places places = new Places(terrace);
    private final Pairs pairs = new Pairs(law, book);
    private final Year year = new Year(trial);
    private final int[] inputs = new int[INPUTS];
    private int stepsRefused;
    private int noSuchCalls;
    private int illegalCalls;

    public TunedHouses() {
        for (int i = 0; i < MOST_IMAGES; i++) {
            images[i] = new Image();
        }
        now.begin();
    }

    // ---- texts ----

    public int feed(int a, int b, int c, int d, int e) {
        if (!tape.hasRoom()) {
            return NONE;
        }
        tape.add(a);
        tape.add(b);
        tape.add(c);
        tape.add(d);
        tape.add(e);
        return tape.size;
    }

    public int terrace(int n) throws IllegalArgumentException {
        openText(n, TAPE_BYTES);
        if (!draftTerrace.parse(tape)) {
            return tape.faultKind - LESS_FOR_FAULT;
        }
        terrace.copyFrom(draftTerrace);
        law.clear();
        book.clear();
        pairs.forget();
        places.forget();
        past.works = 0;
        imageCount = 0;
        stepsRefused = 0;
        now.begin();
        return terrace.pianos;
    }

    public int law(int n) throws IllegalArgumentException {
        openText(n, LAW_BYTES);
        if (!draftLaw.parse(tape)) {
            return tape.faultKind - LESS_FOR_FAULT;
        }
        law.copyFrom(draftLaw);
        pairs.forget();
        return 1;
    }

    public int work(int n) throws IllegalArgumentException {
        openText(n, WORK_BYTES);
        if (past.works >= MOST_WORKS) {
            return WORKS_FULL;
        }
        if (!work.parse(tape)) {
            return tape.faultKind - LESS_FOR_FAULT;
        }
        past.keep(now.cells);
        work.doSteps(now, 0, work.steps, 0);
        stepsRefused = work.refused;
        return work.done;
    }

    public int book(int n) throws IllegalArgumentException {
        openText(n, BOOK_BYTES);
        if (!draftBook.parse(tape)) {
            return tape.faultKind - LESS_FOR_FAULT;
        }
        book.copyFrom(draftBook);
        pairs.forget();
        return book.lines;
    }

    public int fault() {
        return tape.faultAt;
    }

    public int undo() {
        if (!past.giveBack(now.cells)) {
            return -1;
        }
        stepsRefused = 0;
        return past.works;
    }

    private void openText(int n, int most) {
        if (n < 0 || n > most || n > tape.size) {
            illegalCalls++;
            throw new IllegalArgumentException("no such length of a text");
        }
        tape.open(n);
    }

    // ---- what is ----

    public int told(int what) throws IllegalArgumentException {
        needRange(what, 0, 10);
        switch (what) {
            case 0: return terrace.houses;
            case 1: return terrace.walls;
            case 2: return terrace.pianos;
            case 3: return now.cells[Scene.DAY_AT];
            case 4: return now.cells[Scene.LEFT_AT];
            case 5: return now.standing();
            case 6: return now.content();
            case 7: return now.fighters();
            case 8: return book.lines;
            case 9: return stepsRefused;
            default: return now.total();
        }
    }

    public int house(int house, int what) throws NoSuchElementException, IllegalArgumentException {
        needHouse(house);
        needRange(what, 0, 5);
        switch (what) {
            case 0: return now.thingIn(house);
            case 1: return now.pianoIn(house);
            case 2: return terrace.beside[house];
            case 3: return terrace.wished[house];
            case 4: return now.kindsIn(house);
            default: return terrace.houseThing[house];
        }
    }

    public int there(int house, int thing) throws NoSuchElementException, IllegalArgumentException {
        needHouse(house);
        needThing(thing);
        return now.amount(house, thing);
    }

    public int wall(int wall, int what) throws NoSuchElementException, IllegalArgumentException {
        needMember(wall, terrace.walls);
        needRange(what, 0, 1);
        return what == 0 ? terrace.wallA[wall] : terrace.wallB[wall];
    }

    public int piano(int piano, int what) throws NoSuchElementException, IllegalArgumentException {
        needPiano(piano);
        needRange(what, 0, 7);
        switch (what) {
            case 0: return terrace.pianoThing[piano];
            case 1: return terrace.pianoStrong[piano];
            case 2: return now.houseOf(piano);
            case 3: return now.feltIn(piano);
            case 4: return now.daysOf(piano);
            case 5: return now.force(piano);
            case 6: return now.brings(piano);
            default: return now.fights(piano);
        }
    }

    public int would(int strong, int felt, int days, int here, int thing, int next, int house, int day)
            throws IllegalArgumentException {
        needRange(strong, 1, MOST_STRONG);
        needRange(felt, 0, MOST_FELT);
        needRange(days, 0, 999);
        needRange(here, 0, MOST_THERE);
        needThing(thing);
        needRange(next, 0, MOST_PIANOS - 1);
        needRange(house, 0, MOST_HOUSES - 1);
        needRange(day, 0, LAST_DAY);
        inputs[STRONG] = strong;
        inputs[FELT] = felt;
        inputs[DAYS] = days;
        inputs[HERE] = here;
        inputs[THING] = thing;
        inputs[NEXT] = next;
        inputs[HOUSE] = house;
        inputs[DAY] = day;
        return law.force(inputs);
    }

    public int those(int thing) throws IllegalArgumentException {
        needThing(thing);
        int bits = 0;
        for (int h = 0; h < terrace.houses; h++) {
            if (now.thingIn(h) == thing) {
                bits |= 1 << h;
            }
        }
        return bits;
    }

    public int loudest(int what) throws IllegalArgumentException {
        needRange(what, 0, 1);
        int best = NONE;
        int most = NONE;
        for (int p = 0; p < terrace.pianos; p++) {
            if (now.houseOf(p) != NONE && now.force(p) > most) {
                best = p;
                most = now.force(p);
            }
        }
        return what == 0 ? best : most;
    }

    public int quiet(int piano) throws NoSuchElementException {
        needPiano(piano);
        int bits = 0;
        for (int h = 0; h < terrace.houses; h++) {
            int stands = now.pianoIn(h);
            if ((stands == NONE || stands == piano) && now.fightsAt(piano, h) == 0) {
                bits |= 1 << h;
            }
        }
        return bits;
    }

    public int changed() {
        return now.otherThanTold();
    }

    public int oldest(int what) throws IllegalArgumentException {
        needRange(what, 0, 1);
        int best = NONE;
        int most = NONE;
        for (int p = 0; p < terrace.pianos; p++) {
            if (now.houseOf(p) != NONE && now.daysOf(p) > most) {
                best = p;
                most = now.daysOf(p);
            }
        }
        return what == 0 ? best : most;
    }

    public int empty() {
        return ((1 << terrace.houses) - 1) & ~now.occupied();
    }

    public int margin(int house) throws NoSuchElementException {
        needHouse(house);
        return now.lead(house);
    }

    // ---- what would be ----

    public int ahead(int house, int n, int what) throws NoSuchElementException, IllegalArgumentException {
        needHouse(house);
        needRange(n, 0, 99);
        needRange(what, 0, 1);
        trial.copyFrom(now);
        for (int day = 0; day < n; day++) {
            trial.passDay();
        }
        int thing = trial.thingIn(house);
        return what == 0 ? thing : trial.amount(house, thing);
    }

    public int when(int house, int thing) throws NoSuchElementException, IllegalArgumentException {
        needHouse(house);
        needThing(thing);
        trial.copyFrom(now);
        for (int day = 0; day < DAYS_TO_WAIT; day++) {
            if (trial.thingIn(house) == thing) {
                return day;
            }
            trial.passDay();
        }
        return trial.thingIn(house) == thing ? DAYS_TO_WAIT : NONE;
    }

    public int muffle(int piano) throws NoSuchElementException {
        needPiano(piano);
        if (now.houseOf(piano) == NONE) {
            return NONE;
        }
        trial.copyFrom(now);
        for (int sheets = 0; sheets <= MOST_FELT; sheets++) {
            trial.cells[Scene.FELT_AT + piano] = sheets;
            if (trial.force(piano) == 0) {
                return sheets;
            }
        }
        return NONE;
    }

    public int tunes(int piano, int house) throws NoSuchElementException {
        needPiano(piano);
        needHouse(house);
        if (now.houseOf(piano) == house) {
            return now.brings(piano);
        }
        trial.copyFrom(now);
        return trial.put(piano, house) ? trial.brings(piano) : NONE;
    }

    public int places() {
        places.find();
        return places.wishes;
    }

    public int placed(int piano) throws NoSuchElementException {
        needPiano(piano);
        places.find();
        return places.best[piano];
    }

    public int from(int house, int what) throws NoSuchElementException, IllegalArgumentException {
        needHouse(house);
        needRange(what, 0, 1);
        pairs.ask(house);
        return what == 0 ? pairs.left : pairs.first;
    }

    public int look(int house, int what) throws NoSuchElementException, IllegalArgumentException {
        needHouse(house);
        needRange(what, 0, 1);
        pairs.ask(house);
        return what == 0 ? pairs.lookDay : pairs.lookWorst;
    }

    public int year(int seed, int days, int q, int what) throws IllegalArgumentException {
        needYear(days, q);
        needRange(what, 0, 3);
        year.play(now, seed, days, q);
        switch (what) {
            case 0: return trial.otherThanTold();
            case 1: return year.puts;
            case 2: return trial.total();
            default: return trial.content();
        }
    }

    public int span(int seed, int many, int days, int q, int what, int house) throws IllegalArgumentException {
        needRange(many, 1, 20);
        needYear(days, q);
        needRange(what, 0, 2);
        needRange(house, 0, terrace.houses - 1);
        int fewest = MOST_HOUSES;
        int most = 0;
        int often = 0;
        for (int i = 0; i < many; i++) {
            year.play(now, seed + i, days, q);
            int others = trial.otherThanTold();
            fewest = Math.min(fewest, Integer.bitCount(others));
            most = Math.max(most, Integer.bitCount(others));
            often += others >> house & 1;
        }
        return what == 0 ? fewest : what == 1 ? most : often;
    }

    private void needYear(int days, int q) {
        needRange(days, 1, 96);
        needRange(q, 0, 16);
    }

    // ---- the terrace as a map, and sums beside it ----

    public int way(int house, int other) throws NoSuchElementException {
        needHouse(house);
        needHouse(other);
        int reached = 1 << house;
        for (int walls = 0; walls < MOST_HOUSES; walls++) {
            if ((reached >> other & 1) != 0) {
                return walls;
            }
            reached |= terrace.besideAny(reached);
        }
        return NONE;
    }

    public int alone() {
        int best = 0;
        for (int bits = 0; bits < 1 << terrace.houses; bits++) {
            if (Integer.bitCount(bits) > Integer.bitCount(best) && (terrace.besideAny(bits) & bits) == 0) {
                best = bits;
            }
        }
        return best;
    }

    public long price(int n, int k, int part) throws IllegalArgumentException {
        needRange(n, 1, 6);
        needRange(k, 1, 9);
        needRange(part, 0, 1);
        long above = k + 1;
        long below = 2;
        for (int day = 1; day < n; day++) {
            long sum = 0;
            for (int bid = 1; bid <= k; bid++) {
                sum += Math.max(bid * below, above);
            }
            above = sum;
            below = below * k;
        }
        long common = commonDivisor(above, below);
        if (common == 0) {
            return 0;
        }
        return part == 0 ? above / common : below / common;
    }

    private static long commonDivisor(long a, long b) {
        long greater = a;
        long less = b;
        for (int i = 0; i < 128 && less != 0; i++) {
            long rest = greater % less;
            greater = less;
            less = rest;
        }
        return greater;
    }

    public int tuner(int v, int w, int what) throws IllegalArgumentException {
        needRange(v, 0, 99);
        needRange(w, 0, 99);
        needRange(what, 0, 2);
        int rests = 0;
        int first = NONE;
        int together = 0;
        for (int he = 0; he <= 1; he++) {
            for (int it = 0; it <= 1; it++) {
                if (isRest(v, w, he, it)) {
                    rests++;
                    if (first == NONE) {
                        first = 10 * he + it;
                        together = tunerHas(v, he, it) + houseHas(v, w, he, it);
                    }
                }
            }
        }
        return what == 0 ? rests : what == 1 ? first : together;
    }

    private static boolean isRest(int v, int w, int he, int it) {
        return tunerHas(v, he, it) >= tunerHas(v, 1 - he, it)
                && houseHas(v, w, he, it) >= houseHas(v, w, he, 1 - it);
    }

    private static int tunerHas(int v, int he, int it) {
        if (he != 0) {
            return 0;
        }
        return it == 0 ? v : -1;
    }

    private static int houseHas(int v, int w, int he, int it) {
        if (it != 0) {
            return 0;
        }
        return he == 0 ? v : w;
    }

    public int share(int piano, int pianos, int n) throws NoSuchElementException, IllegalArgumentException {
        needPiano(piano);
        needRange(pianos, 0, (1 << terrace.pianos) - 1);
        needRange(n, 0, 99);
        if ((pianos >> piano & 1) == 0) {
            return 0;
        }
        // No piano is stronger than the first bound tried, so it means "all".
        int bound = MOST_STRONG;
        while (bound > 0 && terrace.given(pianos, bound) > n) {
            bound--;
        }
        return Math.min(terrace.pianoStrong[piano], bound);
    }

    // ---- images and counts ----

    public int image() {
        if (imageCount >= MOST_IMAGES) {
            return -1;
        }
        images[imageCount].take(now, past);
        imageCount++;
        return imageCount;
    }

    public int restore() {
        if (imageCount <= 0) {
            return -1;
        }
        imageCount--;
        images[imageCount].giveTo(now, past);
        stepsRefused = 0;
        return imageCount;
    }

    public int status(int what) {
        switch (what) {
            case 0: return noSuchCalls;
            case 1: return illegalCalls;
            default: return NONE;
        }
    }

    public int count(int what) {
        switch (what) {
            case 0: return imageCount;
            case 1: return tape.size;
            case 2: return past.works;
            default: return NONE;
        }
    }

    // ---- refusals ----

    private void needHouse(int house) {
        needMember(house, terrace.houses);
    }

    private void needPiano(int piano) {
        needMember(piano, terrace.pianos);
    }

    private void needMember(int number, int many) {
        if (number < 0 || number >= many) {
            noSuchCalls++;
            throw new NoSuchElementException("no such house, wall or piano");
        }
    }

    private void needThing(int thing) {
        needRange(thing, 0, THINGS - 1);
    }

    private void needRange(int value, int least, int most) {
        if (value < least || value > most) {
            illegalCalls++;
            throw new IllegalArgumentException("an argument outside its range");
        }
    }

    /** The bytes that have come, and the reading of the text at their front. */
    private static final class Tape {
        private static final int FED = 20;
        private static final int HUGE = 100000;

        final int[] bytes = new int[TAPE_BYTES];
        int size;
        int end;
        int at;
        int tokenAt;
        int value;
        int faultKind;
        int faultAt = NONE;

        boolean hasRoom() {
            return size + FED <= TAPE_BYTES;
        }

        void add(int four) {
            for (int shift = 24; shift >= 0 && size < TAPE_BYTES; shift -= 8) {
                bytes[size] = four >>> shift & 255;
                size++;
            }
        }

        /** Empties the tape; the bytes stay readable until others come. */
        void open(int n) {
            end = Math.min(n, TAPE_BYTES);
            at = 0;
            size = 0;
            tokenAt = 0;
            value = 0;
            faultKind = 0;
            faultAt = NONE;
        }

        /** The next byte that is no blank, not taken yet; NONE at the end. */
        int peek() {
            while (at < end && bytes[at] == ' ') {
                at++;
            }
            return at < end ? bytes[at] : NONE;
        }

        boolean ended() {
            return peek() == NONE;
        }

        boolean sees(char sign) {
            return peek() == sign;
        }

        boolean takes(char sign) {
            if (peek() != sign) {
                return fails(CANNOT_STAND, at);
            }
            at++;
            return true;
        }

        boolean takesNumber(int least, int most) {
            int first = peek();
            if (first < '0' || first > '9') {
                return fails(CANNOT_STAND, at);
            }
            tokenAt = at;
            value = 0;
            while (at < end && bytes[at] >= '0' && bytes[at] <= '9') {
                value = Math.min(HUGE, value * 10 + bytes[at] - '0');
                at++;
            }
            return value >= least && value <= most || failsToken(NO_SUCH_NUMBER);
        }

        boolean takesWord() {
            int first = peek();
            if (first < 'a' || first > 'z') {
                return fails(CANNOT_STAND, at);
            }
            tokenAt = at;
            while (at < end && bytes[at] >= 'a' && bytes[at] <= 'z') {
                at++;
            }
            return true;
        }

        /** Whether the latest word is this one. */
        boolean isWord(String word) {
            if (at - tokenAt != word.length()) {
                return false;
            }
            for (int i = 0; i < word.length(); i++) {
                if (bytes[tokenAt + i] != word.charAt(i)) {
                    return false;
                }
            }
            return true;
        }

        /** Refuses whatever comes next. */
        boolean cannotStand() {
            peek();
            return fails(CANNOT_STAND, at);
        }

        boolean failsToken(int kind) {
            return fails(kind, tokenAt);
        }

        private boolean fails(int kind, int place) {
            faultKind = kind;
            faultAt = place;
            return false;
        }
    }

    /** What a terrace text tells; nothing in it changes with the days. */
    private static final class Terrace {
        private static final int OF_HOUSE = 0;
        private static final int OF_WALL = 1;
        private static final int OF_PIANO = 2;
        private static final int OF_WISH = 3;
        private static final int OF_FELT = 4;

        int houses;
        int walls;
        int pianos;
        int sheets = SHEETS_UNTOLD;
        final int[] houseThing = new int[MOST_HOUSES];
        final int[] wished = new int[MOST_HOUSES];
        final int[] beside = new int[MOST_HOUSES];
        final int[] wallA = new int[MOST_WALLS];
        final int[] wallB = new int[MOST_WALLS];
        final int[] pianoThing = new int[MOST_PIANOS];
        final int[] pianoStrong = new int[MOST_PIANOS];

        void copyFrom(Terrace other) {
            houses = other.houses;
            walls = other.walls;
            pianos = other.pianos;
            sheets = other.sheets;
            System.arraycopy(other.houseThing, 0, houseThing, 0, MOST_HOUSES);
            System.arraycopy(other.wished, 0, wished, 0, MOST_HOUSES);
            System.arraycopy(other.beside, 0, beside, 0, MOST_HOUSES);
            System.arraycopy(other.wallA, 0, wallA, 0, MOST_WALLS);
            System.arraycopy(other.wallB, 0, wallB, 0, MOST_WALLS);
            System.arraycopy(other.pianoThing, 0, pianoThing, 0, MOST_PIANOS);
            System.arraycopy(other.pianoStrong, 0, pianoStrong, 0, MOST_PIANOS);
        }

        boolean parse(Tape text) {
            houses = 0;
            walls = 0;
            pianos = 0;
            sheets = SHEETS_UNTOLD;
            for (int clause = 0; clause <= MOST_CLAUSES; clause++) {
                if (text.ended()) {
                    return true;
                }
                if (!parseClause(text, clause >= MOST_CLAUSES) || !text.takes(';')) {
                    return false;
                }
            }
            return false;
        }

        private boolean parseClause(Tape text, boolean tooMany) {
            if (!text.takesWord()) {
                return false;
            }
            int kind = clauseKind(text);
            if (kind == NONE) {
                return text.failsToken(CANNOT_STAND);
            }
            if (tooMany || isFull(kind)) {
                return text.failsToken(TOO_MANY);
            }
            switch (kind) {
                case OF_HOUSE: return parseHouse(text);
                case OF_WALL: return parseWall(text);
                case OF_PIANO: return parsePiano(text);
                case OF_WISH: return parseWish(text);
                default: return parseFelt(text);
            }
        }

        private static int clauseKind(Tape text) {
            if (text.isWord("house")) {
                return OF_HOUSE;
            }
            if (text.isWord("wall")) {
                return OF_WALL;
            }
            if (text.isWord("piano")) {
                return OF_PIANO;
            }
            if (text.isWord("wish")) {
                return OF_WISH;
            }
            return text.isWord("felt") ? OF_FELT : NONE;
        }

        private boolean isFull(int kind) {
            return kind == OF_HOUSE && houses >= MOST_HOUSES
                    || kind == OF_WALL && walls >= MOST_WALLS
                    || kind == OF_PIANO && pianos >= MOST_PIANOS;
        }

        private boolean parseHouse(Tape text) {
            if (!text.takesNumber(0, THINGS - 1)) {
                return false;
            }
            houseThing[houses] = text.value;
            wished[houses] = NONE;
            beside[houses] = 0;
            houses++;
            return true;
        }

        private boolean parseWall(Tape text) {
            if (!text.takesNumber(0, houses - 1)) {
                return false;
            }
            int a = text.value;
            if (!text.takesNumber(0, houses - 1)) {
                return false;
            }
            int b = text.value;
            if (a == b || (beside[a] >> b & 1) != 0) {
                return text.failsToken(NO_SUCH_NUMBER);
            }
            wallA[walls] = a;
            wallB[walls] = b;
            walls++;
            beside[a] |= 1 << b;
            beside[b] |= 1 << a;
            return true;
        }

        private boolean parsePiano(Tape text) {
            if (!text.takesNumber(0, THINGS - 1)) {
                return false;
            }
            int thing = text.value;
            if (!text.takesNumber(1, MOST_STRONG)) {
                return false;
            }
            pianoThing[pianos] = thing;
            pianoStrong[pianos] = text.value;
            pianos++;
            return true;
        }

        private boolean parseWish(Tape text) {
            if (!text.takesNumber(0, houses - 1)) {
                return false;
            }
            int house = text.value;
            if (!text.takesNumber(0, THINGS - 1)) {
                return false;
            }
            wished[house] = text.value;
            return true;
        }

        private boolean parseFelt(Tape text) {
            if (!text.takesNumber(0, MOST_SHEETS)) {
                return false;
            }
            sheets = text.value;
            return true;
        }

        boolean hasWall(int a, int b) {
            return (beside[a] >> b & 1) != 0;
        }

        /** The houses beside any of these. */
        int besideAny(int bits) {
            int all = 0;
            for (int h = 0; h < houses; h++) {
                if ((bits >> h & 1) != 0) {
                    all |= beside[h];
                }
            }
            return all;
        }

        /** How much these pianos get in all, none more than the bound. */
        int given(int bits, int bound) {
            int sum = 0;
            for (int p = 0; p < pianos; p++) {
                if ((bits >> p & 1) != 0) {
                    sum += Math.min(pianoStrong[p], bound);
                }
            }
            return sum;
        }
    }

    /** A law as a row of codes for a machine with a stack: operands ahead of their sign. */
    private static final class Law {
        // Codes below INPUT are numbers as they stand, since a number is 999 at most.
        private static final int INPUT = 1000;
        private static final int SIGN = INPUT + INPUTS;
        private static final int LEAST = 2000;
        private static final int MOST = 2001;
        // Six open brackets hold three waiting values each, and three more stand outside.
        private static final int STACK = 32;

        final int[] codes = new int[LAW_BYTES];
        final int[] stack = new int[STACK];
        int length;

        Law() {
            clear();
        }

        void clear() {
            codes[0] = INPUT + STRONG;
            codes[1] = INPUT + FELT;
            codes[2] = SIGN + '-';
            length = 3;
        }

        void copyFrom(Law other) {
            length = other.length;
            System.arraycopy(other.codes, 0, codes, 0, LAW_BYTES);
        }

        boolean parse(Tape text) {
            length = 0;
            return parseSum(text, 0) && (text.ended() || text.cannotStand());
        }

        private boolean parseSum(Tape text, int open) {
            if (!parseProduct(text, open)) {
                return false;
            }
            for (int i = 0; i < LAW_BYTES && (text.sees('+') || text.sees('-')); i++) {
                int sign = text.peek();
                text.at++;
                if (!parseProduct(text, open)) {
                    return false;
                }
                add(SIGN + sign);
            }
            return true;
        }

        private boolean parseProduct(Tape text, int open) {
            if (!parseUnit(text, open)) {
                return false;
            }
            for (int i = 0; i < LAW_BYTES && (text.sees('*') || text.sees('/') || text.sees('%')); i++) {
                int sign = text.peek();
                text.at++;
                if (!parseUnit(text, open)) {
                    return false;
                }
                add(SIGN + sign);
            }
            return true;
        }

        private boolean parseUnit(Tape text, int open) {
            int first = text.peek();
            if (first >= '0' && first <= '9') {
                if (!text.takesNumber(0, INPUT - 1)) {
                    return false;
                }
                add(text.value);
                return true;
            }
            if (first == '(') {
                return parseBracket(text, open);
            }
            if (!text.takesWord()) {
                return false;
            }
            if (text.isWord("least")) {
                return parseChoice(text, open, LEAST);
            }
            if (text.isWord("most")) {
                return parseChoice(text, open, MOST);
            }
            int input = inputNamed(text);
            if (input == NONE) {
                return text.failsToken(CANNOT_STAND);
            }
            add(INPUT + input);
            return true;
        }

        private boolean parseBracket(Tape text, int open) {
            text.tokenAt = text.at;
            if (open >= MOST_OPEN) {
                return text.failsToken(TOO_MANY);
            }
            return text.takes('(') && parseSum(text, open + 1) && text.takes(')');
        }

        private boolean parseChoice(Tape text, int open, int code) {
            if (open >= MOST_OPEN) {
                return text.failsToken(TOO_MANY);
            }
            if (!text.takes('[') || !parseSum(text, open + 1) || !text.takes(',')
                    || !parseSum(text, open + 1) || !text.takes(']')) {
                return false;
            }
            add(code);
            return true;
        }

        private static int inputNamed(Tape text) {
            if (text.isWord("strong")) {
                return STRONG;
            }
            if (text.isWord("felt")) {
                return FELT;
            }
            if (text.isWord("days")) {
                return DAYS;
            }
            if (text.isWord("here")) {
                return HERE;
            }
            if (text.isWord("thing")) {
                return THING;
            }
            if (text.isWord("next")) {
                return NEXT;
            }
            if (text.isWord("house")) {
                return HOUSE;
            }
            return text.isWord("day") ? DAY : NONE;
        }

        private void add(int code) {
            if (length < LAW_BYTES) {
                codes[length] = code;
                length++;
            }
        }

        int force(int[] inputs) {
            int top = 0;
            for (int i = 0; i < length; i++) {
                int code = codes[i];
                if (code < SIGN) {
                    if (top < STACK) {
                        stack[top] = code < INPUT ? code : inputs[code - INPUT];
                        top++;
                    }
                } else if (top >= 2) {
                    top--;
                    stack[top - 1] = joined(code, stack[top - 1], stack[top]);
                }
            }
            return Math.max(0, Math.min(MOST_FORCE, stack[0]));
        }

        private static int joined(int code, int a, int b) {
            switch (code) {
                case SIGN + '+': return a + b;
                case SIGN + '-': return a - b;
                case SIGN + '*': return a * b;
                case SIGN + '/': return b == 0 ? 0 : a / b;
                case SIGN + '%': return b == 0 ? 0 : a % b;
                case LEAST: return a < b ? a : b;
                default: return a > b ? a : b;
            }
        }
    }

    /** A book: how much there was after which days. */
    private static final class Book {
        int lines;
        final int[] days = new int[MOST_LINES];
        final int[] amounts = new int[MOST_LINES];

        void clear() {
            lines = 0;
        }

        void copyFrom(Book other) {
            lines = other.lines;
            System.arraycopy(other.days, 0, days, 0, MOST_LINES);
            System.arraycopy(other.amounts, 0, amounts, 0, MOST_LINES);
        }

        boolean parse(Tape text) {
            lines = 0;
            for (int line = 0; line <= MOST_LINES; line++) {
                if (text.ended()) {
                    return true;
                }
                if (!parseLine(text) || !text.takes(';')) {
                    return false;
                }
            }
            return false;
        }

        private boolean parseLine(Tape text) {
            if (!text.takesNumber(0, BOOK_DAYS)) {
                return false;
            }
            int day = text.value;
            if (amountAfter(day) != NONE) {
                return text.failsToken(NO_SUCH_NUMBER);
            }
            if (lines >= MOST_LINES) {
                return text.failsToken(TOO_MANY);
            }
            if (!text.takesNumber(0, MOST_THERE)) {
                return false;
            }
            days[lines] = day;
            amounts[lines] = text.value;
            lines++;
            return true;
        }

        /** What the line of that day says; NONE without such a line. */
        int amountAfter(int day) {
            for (int line = 0; line < lines; line++) {
                if (days[line] == day) {
                    return amounts[line];
                }
            }
            return NONE;
        }

        int latestDay() {
            int latest = NONE;
            for (int line = 0; line < lines; line++) {
                latest = Math.max(latest, days[line]);
            }
            return latest;
        }
    }

    /** A work text as rows of steps, and the doing of it. */
    private static final class Work {
        private static final int PUT = 0;
        private static final int TAKE = 1;
        private static final int LAY = 2;
        private static final int PASS = 3;
        private static final int AGAIN = 4;
        // The shortest step is "day;": four bytes.
        private static final int MOST_STEPS = WORK_BYTES / 4 + 1;

        private final Terrace terrace;
        private final int[] kinds = new int[MOST_STEPS];
        private final int[] firsts = new int[MOST_STEPS];
        private final int[] seconds = new int[MOST_STEPS];
        /** Where the step behind each one stands; an again's lies behind all it holds. */
        private final int[] behind = new int[MOST_STEPS];
        int steps;
        private int begun;
        int done;
        int refused;

        Work(Terrace terrace) {
            this.terrace = terrace;
        }

        boolean parse(Tape text) {
            steps = 0;
            begun = 0;
            done = 0;
            refused = 0;
            return parseSteps(text, 0);
        }

        private boolean parseSteps(Tape text, int open) {
            for (int i = 0; i <= WORK_BYTES; i++) {
                if (open == 0 ? text.ended() : text.sees(']')) {
                    return true;
                }
                if (!parseStep(text, open) || !text.takes(';')) {
                    return false;
                }
            }
            return false;
        }

        private boolean parseStep(Tape text, int open) {
            if (!text.takesWord()) {
                return false;
            }
            if (text.isWord("put")) {
                return takesPiano(text) && parseSecond(text, PUT, terrace.houses - 1);
            }
            if (text.isWord("take")) {
                return takesPiano(text) && addStep(TAKE, text.value, 0);
            }
            if (text.isWord("lay")) {
                return takesPiano(text) && parseSecond(text, LAY, MOST_FELT);
            }
            if (text.isWord("day")) {
                return addStep(PASS, 0, 0);
            }
            return text.isWord("again") ? parseAgain(text, open) : text.failsToken(CANNOT_STAND);
        }

        private boolean takesPiano(Tape text) {
            return text.takesNumber(0, terrace.pianos - 1);
        }

        private boolean parseSecond(Tape text, int kind, int most) {
            int piano = text.value;
            return text.takesNumber(0, most) && addStep(kind, piano, text.value);
        }

        private boolean parseAgain(Tape text, int open) {
            if (open >= MOST_OPEN) {
                return text.failsToken(TOO_MANY);
            }
            if (!text.takesNumber(0, MOST_TURNS)) {
                return false;
            }
            int again = steps;
            if (!addStep(AGAIN, text.value, 0) || !text.takes('[')
                    || !parseSteps(text, open + 1) || !text.takes(']')) {
                return false;
            }
            behind[again] = steps;
            return true;
        }

        private boolean addStep(int kind, int first, int second) {
            if (steps >= MOST_STEPS) {
                return false;
            }
            kinds[steps] = kind;
            firsts[steps] = first;
            seconds[steps] = second;
            steps++;
            behind[steps - 1] = steps;
            return true;
        }

        /** Does the steps from one place to another, for a text that was just parsed. */
        private void doSteps(Scene scene, int from, int to, int open) {
            if (open > MOST_OPEN) {
                return;
            }
            for (int i = from; i < to && begun < MOST_BEGUN; i = behind[i]) {
                begun++;
                if (kinds[i] == AGAIN) {
                    for (int turn = 0; turn < firsts[i] && begun < MOST_BEGUN; turn++) {
                        doSteps(scene, i + 1, behind[i], open + 1);
                    }
                } else if (doStep(scene, i)) {
                    done++;
                } else {
                    refused++;
                }
            }
        }

        private boolean doStep(Scene scene, int step) {
            switch (kinds[step]) {
                case PUT: return scene.put(firsts[step], seconds[step]);
                case TAKE: return scene.takeOut(firsts[step]);
                case LAY: return scene.lay(firsts[step], seconds[step]);
                default: break;
            }
            if (scene.cells[Scene.DAY_AT] >= LAST_DAY) {
                return false;
            }
            scene.passDay();
            return true;
        }
    }

    /** How the terrace is at one time: all that work changes, in one row of cells. */
    private static final class Scene {
        static final int HOUSE_AT = MOST_HOUSES * THINGS;
        static final int FELT_AT = HOUSE_AT + MOST_PIANOS;
        static final int DAYS_AT = FELT_AT + MOST_PIANOS;
        static final int DAY_AT = DAYS_AT + MOST_PIANOS;
        static final int LEFT_AT = DAY_AT + 1;
        static final int CELLS = LEFT_AT + 1;

        final Terrace terrace;
        private final Law law;
        final int[] cells = new int[CELLS];
        private final int[] inputs = new int[INPUTS];
        private final int[] forces = new int[MOST_PIANOS];

        Scene(Terrace terrace, Law law) {
            this.terrace = terrace;
            this.law = law;
        }

        void begin() {
            Arrays.fill(cells, 0);
            for (int h = 0; h < terrace.houses; h++) {
                cells[h * THINGS + terrace.houseThing[h]] = FIRST_THERE;
            }
            for (int p = 0; p < MOST_PIANOS; p++) {
                cells[HOUSE_AT + p] = NONE;
            }
            cells[LEFT_AT] = terrace.sheets;
        }

        void copyFrom(Scene other) {
            System.arraycopy(other.cells, 0, cells, 0, CELLS);
        }

        int amount(int house, int thing) {
            return cells[house * THINGS + thing];
        }

        int houseOf(int piano) {
            return cells[HOUSE_AT + piano];
        }

        int feltIn(int piano) {
            return cells[FELT_AT + piano];
        }

        int daysOf(int piano) {
            return cells[DAYS_AT + piano];
        }

        int pianoIn(int house) {
            for (int p = 0; p < terrace.pianos; p++) {
                if (houseOf(p) == house) {
                    return p;
                }
            }
            return NONE;
        }

        /** The pianos that stand in a house, as bits. */
        int standing() {
            int bits = 0;
            for (int p = 0; p < terrace.pianos; p++) {
                if (houseOf(p) != NONE) {
                    bits |= 1 << p;
                }
            }
            return bits;
        }

        /** The houses in which a piano stands, as bits. */
        int occupied() {
            int bits = 0;
            for (int p = 0; p < terrace.pianos; p++) {
                if (houseOf(p) != NONE) {
                    bits |= 1 << houseOf(p);
                }
            }
            return bits;
        }

        boolean put(int piano, int house) {
            if (pianoIn(house) != NONE) {
                return false;
            }
            cells[HOUSE_AT + piano] = house;
            cells[DAYS_AT + piano] = 0;
            return true;
        }

        boolean takeOut(int piano) {
            if (houseOf(piano) == NONE) {
                return false;
            }
            cells[HOUSE_AT + piano] = NONE;
            cells[DAYS_AT + piano] = 0;
            return true;
        }

        boolean lay(int piano, int sheets) {
            int more = sheets - feltIn(piano);
            if (more == 0 || more > cells[LEFT_AT]) {
                return false;
            }
            cells[FELT_AT + piano] = sheets;
            cells[LEFT_AT] -= more;
            return true;
        }

        /** Any day passes here; that work's days end with the last is work's own rule. */
        void passDay() {
            measure();
            for (int p = 0; p < terrace.pianos; p++) {
                int house = houseOf(p);
                if (house != NONE) {
                    // The forces are those of the morning, so what has grown already does not count.
                    int cell = house * THINGS + terrace.pianoThing[p];
                    cells[cell] = Math.min(MOST_THERE, cells[cell] + netForce(p));
                    cells[DAYS_AT + p]++;
                }
            }
            cells[DAY_AT]++;
        }

        int fights(int piano) {
            int house = houseOf(piano);
            return house == NONE ? 0 : fightsAt(piano, house);
        }

        /** Whom a piano would fight from a house, the others standing where they stand. */
        int fightsAt(int piano, int house) {
            int bits = 0;
            for (int p = 0; p < terrace.pianos; p++) {
                int other = houseOf(p);
                if (p != piano && other != NONE && terrace.hasWall(house, other)
                        && terrace.pianoThing[p] != terrace.pianoThing[piano]) {
                    bits |= 1 << p;
                }
            }
            return bits;
        }

        int fighters() {
            int bits = 0;
            for (int p = 0; p < terrace.pianos; p++) {
                if (fights(p) != 0) {
                    bits |= 1 << p;
                }
            }
            return bits;
        }

        int force(int piano) {
            int house = houseOf(piano);
            if (house == NONE) {
                return 0;
            }
            inputs[STRONG] = terrace.pianoStrong[piano];
            inputs[FELT] = feltIn(piano);
            inputs[DAYS] = daysOf(piano);
            inputs[HERE] = amount(house, terrace.pianoThing[piano]);
            inputs[THING] = terrace.pianoThing[piano];
            inputs[NEXT] = Integer.bitCount(terrace.beside[house] & occupied());
            inputs[HOUSE] = house;
            inputs[DAY] = cells[DAY_AT];
            return law.force(inputs);
        }

        int brings(int piano) {
            measure();
            return netForce(piano);
        }

        private void measure() {
            for (int p = 0; p < terrace.pianos; p++) {
                forces[p] = force(p);
            }
        }

        /** What a piano brings by the forces last measured. */
        private int netForce(int piano) {
            int net = forces[piano];
            int against = fights(piano);
            for (int p = 0; p < terrace.pianos; p++) {
                if ((against >> p & 1) != 0) {
                    net -= forces[p];
                }
            }
            return Math.max(0, net);
        }

        /** The thing a house is. */
        int thingIn(int house) {
            return mostBut(house, NONE);
        }

        private int mostBut(int house, int leftOut) {
            int best = NONE;
            for (int m = 0; m < THINGS; m++) {
                if (m != leftOut && (best == NONE || amount(house, m) > amount(house, best))) {
                    best = m;
                }
            }
            return best;
        }

        int lead(int house) {
            int first = thingIn(house);
            int second = mostBut(house, first);
            return amount(house, first) - amount(house, second);
        }

        int kindsIn(int house) {
            int kinds = 0;
            for (int m = 0; m < THINGS; m++) {
                if (amount(house, m) > 0) {
                    kinds++;
                }
            }
            return kinds;
        }

        int total() {
            int sum = 0;
            for (int cell = 0; cell < HOUSE_AT; cell++) {
                sum += cells[cell];
            }
            return sum;
        }

        /** The houses that are what is wished in them, as bits. */
        int content() {
            int bits = 0;
            for (int h = 0; h < terrace.houses; h++) {
                if (thingIn(h) == terrace.wished[h]) {
                    bits |= 1 << h;
                }
            }
            return bits;
        }

        /** The houses that are another thing than was told, as bits. */
        int otherThanTold() {
            int bits = 0;
            for (int h = 0; h < terrace.houses; h++) {
                if (thingIn(h) != terrace.houseThing[h]) {
                    bits |= 1 << h;
                }
            }
            return bits;
        }
    }

    /** How the terrace was ahead of each work that can be undone. */
    private static final class Past {
        private final int[][] rows = new int[MOST_WORKS][Scene.CELLS];
        int works;

        void keep(int[] cells) {
            if (works < MOST_WORKS) {
                System.arraycopy(cells, 0, rows[works], 0, Scene.CELLS);
                works++;
            }
        }

        boolean giveBack(int[] cells) {
            if (works <= 0) {
                return false;
            }
            works--;
            System.arraycopy(rows[works], 0, cells, 0, Scene.CELLS);
            return true;
        }

        void copyFrom(Past other) {
            works = other.works;
            for (int i = 0; i < works; i++) {
                System.arraycopy(other.rows[i], 0, rows[i], 0, Scene.CELLS);
            }
        }
    }

    /** A kept copy of the terrace's state with its past. */
    private static final class Image {
        private final int[] cells = new int[Scene.CELLS];
        private final Past past = new Past();

        void take(Scene scene, Past works) {
            System.arraycopy(scene.cells, 0, cells, 0, Scene.CELLS);
            past.copyFrom(works);
        }

        void giveTo(Scene scene, Past works) {
            System.arraycopy(cells, 0, scene.cells, 0, Scene.CELLS);
            works.copyFrom(past);
        }
    }

    /** The best way to put all pianos into houses; found once for a terrace. */
    private static final class Places {
        private final Terrace terrace;
        private final int[] chosen = new int[MOST_PIANOS];
        final int[] best = new int[MOST_PIANOS];
        int wishes;
        private boolean known;

        Places(Terrace terrace) {
            this.terrace = terrace;
        }

        void forget() {
            known = false;
        }

        void find() {
            if (known) {
                return;
            }
            known = true;
            wishes = NONE;
            Arrays.fill(best, NONE);
            tryFrom(0, 0, 0);
        }

        private void tryFrom(int piano, int taken, int come) {
            if (piano >= terrace.pianos) {
                if (come > wishes) {
                    wishes = come;
                    System.arraycopy(chosen, 0, best, 0, MOST_PIANOS);
                }
                return;
            }
            // The first of alike ways stays, so what can at most draw level is not looked at.
            if (come + terrace.pianos - piano <= wishes) {
                return;
            }
            for (int h = 0; h < terrace.houses; h++) {
                if ((taken >> h & 1) == 0 && isPeaceful(piano, h)) {
                    chosen[piano] = h;
                    int more = terrace.wished[h] == terrace.pianoThing[piano] ? 1 : 0;
                    tryFrom(piano + 1, taken | 1 << h, come + more);
                }
            }
        }

        private boolean isPeaceful(int piano, int house) {
            for (int p = 0; p < piano; p++) {
                if (terrace.pianoThing[p] != terrace.pianoThing[piano] && terrace.hasWall(chosen[p], house)) {
                    return false;
                }
            }
            return true;
        }
    }

    /** The pairs of strong and start that a book leaves, for the house asked last. */
    private static final class Pairs {
        private static final int STARTS = MOST_THERE + 1;
        private static final int ALL = MOST_STRONG * STARTS;

        private final Law law;
        private final Book book;
        private final int[] amounts = new int[ALL];
        private final boolean[] right = new boolean[ALL];
        private final int[] tally = new int[STARTS];
        private final int[] inputs = new int[INPUTS];
        /** Whose answers stand here: many calls ask for the same house, and each answer is dear. */
        private int house = NONE;
        int left;
        int first;
        int lookDay;
        int lookWorst;

        Pairs(Law law, Book book) {
            this.law = law;
            this.book = book;
        }

        void forget() {
            house = NONE;
        }

        void ask(int asked) {
            if (house == asked) {
                return;
            }
            house = asked;
            strikeWrong();
            countLeft();
            chooseLook();
        }

        private void strikeWrong() {
            for (int i = 0; i < ALL; i++) {
                right[i] = true;
            }
            begin();
            int latest = book.latestDay();
            for (int day = 0; day <= latest; day++) {
                int due = book.amountAfter(day);
                if (due != NONE) {
                    strikeUnlike(due);
                }
                grow(day);
            }
        }

        private void strikeUnlike(int due) {
            for (int i = 0; i < ALL; i++) {
                right[i] = right[i] && amounts[i] == due;
            }
        }

        private void countLeft() {
            left = 0;
            first = NONE;
            for (int i = 0; i < ALL; i++) {
                if (right[i]) {
                    left++;
                    if (first == NONE) {
                        first = 100 * strongOf(i) + i % STARTS;
                    }
                }
            }
        }

        private void chooseLook() {
            lookDay = NONE;
            lookWorst = 0;
            begin();
            // No day can part them into more than all amounts, so one that does is not outdone.
            int fewest = (left + STARTS - 1) / STARTS;
            for (int day = 0; day <= BOOK_DAYS && (lookDay == NONE || lookWorst > fewest); day++) {
                if (book.amountAfter(day) == NONE) {
                    int worst = mostAlike();
                    if (lookDay == NONE || worst < lookWorst) {
                        lookDay = day;
                        lookWorst = worst;
                    }
                }
                grow(day);
            }
        }

        private void begin() {
            for (int i = 0; i < ALL; i++) {
                amounts[i] = i % STARTS;
            }
        }

        private static int strongOf(int pair) {
            return pair / STARTS + 1;
        }

        private void grow(int day) {
            inputs[FELT] = 0;
            inputs[DAYS] = day;
            inputs[THING] = 0;
            inputs[NEXT] = 0;
            inputs[HOUSE] = house;
            inputs[DAY] = day;
            for (int i = 0; i < ALL; i++) {
                if (right[i] && amounts[i] < MOST_THERE) {
                    inputs[STRONG] = strongOf(i);
                    inputs[HERE] = amounts[i];
                    amounts[i] = Math.min(MOST_THERE, amounts[i] + law.force(inputs));
                }
            }
        }

        /** How many pairs are left today at the worst. */
        private int mostAlike() {
            Arrays.fill(tally, 0);
            int most = 0;
            for (int i = 0; i < ALL; i++) {
                if (right[i]) {
                    tally[amounts[i]]++;
                    most = Math.max(most, tally[amounts[i]]);
                }
            }
            return most;
        }
    }

    /** A year by a seed, played on a scene that may be spoiled. */
    private static final class Year {
        private static final int FACTOR = 1103515245;
        private static final int SUMMAND = 12345;
        private static final int CHANCES = 16;

        private final Scene scene;
        private int seed;
        int puts;

        Year(Scene scene) {
            this.scene = scene;
        }

        void play(Scene start, int firstSeed, int days, int q) {
            scene.copyFrom(start);
            seed = firstSeed;
            puts = 0;
            for (int day = 0; day < days; day++) {
                if (draw(CHANCES) < q) {
                    putAny();
                }
                scene.passDay();
            }
        }

        private void putAny() {
            Terrace terrace = scene.terrace;
            if (terrace.pianos == 0 || terrace.houses == 0) {
                return;
            }
            int piano = draw(terrace.pianos);
            int house = draw(terrace.houses);
            if (scene.put(piano, house)) {
                puts++;
            }
        }

        private int draw(int by) {
            seed = seed * FACTOR + SUMMAND;
            return by > 0 ? (seed >>> 16 & 32767) % by : 0;
        }
    }
}
