/** The edges of the texts: the tape, terraces, laws, works, books and their faults (the terms, promises 1 to 7). */
public final class TextEdgesTest extends Checks {
    private static final String EIGHT = times(8, "house 1;");
    private static final String TWELVE = "wall 0 1;wall 0 2;wall 0 3;wall 0 4;wall 0 5;wall 0 6;wall 0 7;wall 1 2;"
            + "wall 1 3;wall 1 4;wall 1 5;wall 1 6;";

    public static void main(String[] args) {
        newObject();
        tape();
        lengths();
        clauses();
        houses();
        walls();
        pianos();
        wishesAndFelt();
        terraceIsRead();
        lawNumbers();
        lawValues();
        lawEnds();
        workNumbers();
        workIsRead();
        fullWorks();
        books();
        numbersAndWords();
        blanks();
        firstFault();
        endsTooEarly();
        tooManyOpen();
        leastOfOnePlace();
        faultPlace();
        finish("TextEdgesTest");
    }

    // ---- promises 1 and 2, and how long a text is ----

    private static void newObject() {
        says(1, "A TERRACE without CLAUSES.");
        TunedHouses x = new TunedHouses();
        int[] told = {0, 0, 0, 0, 12, 0, 0, 0, 0, 0, 0};
        for (int w = 0; w < told.length; w++) {
            due(x.told(w), told[w], "told(" + w + ")");
        }
        due(x.alone() | x.changed() | x.empty() | x.those(0) | x.those(9), 0, "bits of houses");
        due(x.places(), 0, "places()");
        due(x.loudest(0), NONE, "loudest(0)");
        due(x.oldest(0), NONE, "oldest(0)");
        due(x.fault(), NONE, "fault()");
        due(x.count(0) | x.count(1) | x.count(2), 0, "counts");
        due(x.status(0) | x.status(1), 0, "status");
        due(x.undo(), -1, "undo()");
        due(x.restore(), -1, "restore()");
        alike(allOf(new TunedHouses()), allOf(with("")), "a new object and an empty text");
        says(0, "without: strong - felt.");
        due(new TunedHouses().would(9, 2, 0, 0, 0, 0, 0, 0), 7, "would of a new object");
        says(0, "An object is used for at most 512 calls after it has been made");
        TunedHouses long512 = with(THREE);
        // Five feeds and the terrace were six calls; the day is fed and done by two.
        for (int call = 7; call <= 510; call++) {
            due(long512.told(10), 150, "call " + call);
        }
        due(work(long512, "day;"), 1, "call 512");
    }

    private static void tape() {
        says(2, "Twenty bytes come on the TAPE, of each number the highest first: how many there are");
        TunedHouses x = new TunedHouses();
        due(x.feed(0x70202020, 0x20202020, 0x20202020, 0x20202020, 0x20202020), 20, "the first twenty");
        due(x.terrace(20), -9, "p");
        due(x.fault(), 0, "the highest byte is the first");
        x.feed(0x20202020, 0x20202020, 0x20202020, 0x20202020, 0x20202070);
        due(x.terrace(19), 0, "nineteen blanks");
        x.feed(0x20202020, 0x20202020, 0x20202020, 0x20202020, 0x20202070);
        due(x.terrace(20), -9, "the lowest byte of the last number is the last");
        due(x.fault(), 19, "the lowest byte of the last number is the last");
        // "house 9;piano 8 7;  " byte by byte, so each number and each byte of it has its place.
        x.feed(0x686f7573, 0x6520393b, 0x7069616e, 0x6f203820, 0x373b2020);
        due(x.terrace(20), 1, "five numbers, one behind another");
        due(x.house(0, 5), 9, "five numbers, one behind another");
        due(x.piano(0, 0) * 10 + x.piano(0, 1), 87, "five numbers, one behind another");
        says(2, "NONE, doing nothing, if there would be more than 600.");
        TunedHouses full = new TunedHouses();
        String text = times(59, "felt 7;") + "felt " + times(600 - 59 * 7 - 8, "0") + "40;";
        for (int at = 0; at < 600; at += 20) {
            due(feed(full, text, at), at + 20, "feed at " + at);
        }
        due(full.count(1), 600, "a full tape");
        for (int i = 0; i < 3; i++) {
            due(full.feed(-1, -1, -1, -1, -1), NONE, "feed beyond 600");
            due(full.count(1), 600, "the tape stays");
        }
        due(full.status(0) + full.status(1), 0, "no call was refused");
        due(full.terrace(600), 0, "its bytes stay, too");
        due(full.told(4), 40, "its bytes stay, too");
        due(feed(full, "felt 3;", 0), 20, "there is room again");
        due(full.terrace(7), 0, "the old bytes are gone");
        due(full.told(4), 3, "the old bytes are gone");
    }

    private static void lengths() {
        says(0, "A TERRACE is a text of up to 600 bytes");
        TunedHouses x = with(times(600, " "));
        due(x.told(4), 12, "600 blanks are a terrace");
        x = new TunedHouses();
        put(x, times(593, " ") + "felt 9;");
        due(x.terrace(600), 0, "the last byte counts");
        due(x.told(4), 9, "the last byte counts");
        says(0, "A LAW is a text of up to 150 bytes");
        x = busy();
        put(x, times(148, " ") + "31" + "9");
        due(x.law(150), 1, "law(150)");
        due(x.would(1, 0, 0, 0, 0, 0, 0, 0), 31, "the 150th byte counts, the 151st does not");
        says(0, "WORK is a text of up to 150 bytes");
        x = with(THREE);
        put(x, times(37, "day;") + "  " + "x");
        due(x.work(150), 37, "work(150)");
        says(0, "A BOOK is a text of up to 60 bytes");
        x = with(THREE);
        put(x, times(55, " ") + "0 99;" + "1 1;");
        due(x.book(60), 1, "book(60)");
        due(x.from(0, 1), 199, "book(60)");
        lengthRefused(4, "Likewise the LAW (n to 150): 1.", 'l', 150);
        lengthRefused(5, "Likewise WORK (n to 150)", 'w', 150);
        lengthRefused(6, "Likewise the BOOK (n to 60)", 'b', 60);
        lengthRefused(3, "IllegalArgumentException: n is not 0 to the TAPE's bytes (it stays).", 't', 600);
    }

    private static void lengthRefused(int promise, String sentence, char kind, int most) {
        says(promise, sentence);
        // The busy object has twenty bytes.
        for (int n : new int[] {-1, 21, most + 1, Integer.MIN_VALUE, Integer.MAX_VALUE}) {
            refused(ILLEGAL, kind + "(" + n + ") of 20 bytes", x -> text(x, kind, n));
        }
        TunedHouses x = new TunedHouses();
        alike(outcome(x, y -> text(y, kind, 1)), ILLEGAL.getName(), kind + "(1) of no bytes");
        due(x.status(1), 1, "status(1)");
        TunedHouses full = new TunedHouses();
        put(full, times(600, " "));
        alike(outcome(full, y -> text(y, kind, most + 1)), ILLEGAL.getName(), kind + "(" + (most + 1) + ") of 600");
        alike(outcome(full, y -> text(y, kind, 601)), ILLEGAL.getName(), kind + "(601) of 600");
        due(full.count(1), 600, "the tape stays");
        due(full.status(1), 2, "status(1)");
        due(text(full, kind, most), kind == 'l' ? -9 : 0, kind + "(" + most + ") of blanks");
        due(full.fault(), kind == 'l' ? 150 : NONE, "fault() of blanks");
        due(full.count(1), 0, "the tape is empty then");
        due(text(full, kind, 0), kind == 'l' ? -9 : 0, kind + "(0) of no bytes");
        due(full.fault(), kind == 'l' ? 0 : NONE, "fault() of no bytes");
    }

    // ---- terraces ----

    private static void clauses() {
        says(0, "{ CLAUSE \";\" }, at most 60.");
        TunedHouses x = fine('t', "", 0);
        due(x.told(0) + x.told(1) + x.told(2), 0, "an empty text");
        x = fine('t', times(60, "felt 7;"), 0);
        due(x.told(4), 7, "60 clauses");
        fine('t', times(60, "felt 7;") + "     ", 0);
        String mixed = EIGHT + TWELVE + times(6, "piano 2 3;") + times(33, "wish 7 4;");
        x = fine('t', mixed + "wish 7 5;", 6);
        due(x.house(7, 3), 5, "the 60th of all kinds");
        faulty('t', mixed + "wish 7 5;wish 7 6;", 3, mixed.length() + 9);
        faulty('t', ";", 1, 0);
        faulty('t', "felt 7;;", 1, 7);
        faulty('t', "felt 7 felt 8;", 1, 7);
        faulty('t', "felt 7,felt 8;", 1, 6);
        faulty('t', "7;", 1, 0);
        says(0, "3 a CLAUSE, HOUSE, WALL or PIANO (at its word), a line (at its D) too many");
        faulty('t', times(60, "felt 7;") + "felt 7;", 3, 420);
        faulty('t', times(60, "felt 7;") + "   felt 7;", 3, 423);
        faulty('t', times(60, "felt 7;") + "house 1;", 3, 420);
        faulty('t', times(60, "felt 7;") + "piano 1 1;", 3, 420);
        faulty('t', times(60, "felt 7;") + "wish 0 1;", 3, 420);
        faulty('t', times(60, "felt 7;") + "wall 0 1;", 3, 420);
        faulty('t', times(60, "felt 7;") + "felt", 3, 420);
    }

    private static void houses() {
        says(0, "\"house\" M (HOUSES, numbered from 0 on, 8 at most");
        TunedHouses x = fine('t', "house 4;", 0);
        due(x.told(0), 1, "one");
        due(x.house(0, 5), 4, "it is number 0");
        x = fine('t', times(7, "house 1;") + "house 2;", 0);
        due(x.told(0), 8, "eight");
        due(x.house(7, 5), 2, "the last is number 7");
        faulty('t', EIGHT + "house 1;", 3, 64);
        faulty('t', EIGHT + "  house 1;", 3, 66);
        faulty('t', EIGHT + "felt 1;house", 3, 71);
        says(0, "of THING M, 0 to 9, there is 50 at first, of others 0)");
        x = fine('t', "house 0;house 9;", 0);
        for (int m = 0; m <= 9; m++) {
            due(x.there(0, m), m == 0 ? 50 : 0, "there(0, " + m + ")");
            due(x.there(1, m), m == 9 ? 50 : 0, "there(1, " + m + ")");
        }
        due(x.told(10), 100, "all there is");
        faulty('t', "house 10;", 2, 6);
        faulty('t', "house 0;house 100;", 2, 14);
    }

    private static void walls() {
        says(0, "\"wall\" A B (WALLS likewise, 12: between HOUSES A and B, both told ahead");
        TunedHouses x = fine('t', EIGHT + TWELVE, 0);
        due(x.told(1), 12, "twelve");
        due(x.wall(0, 0) * 10 + x.wall(0, 1), 1, "the first");
        due(x.wall(11, 0) * 10 + x.wall(11, 1), 16, "the last");
        faulty('t', EIGHT + TWELVE + "wall 2 3;", 3, 172);
        faulty('t', EIGHT + TWELVE + "wall 0 1;", 3, 172);
        faulty('t', EIGHT + TWELVE + "wall 9 9;", 3, 172);
        x = fine('t', EIGHT + "wall 7 0;", 0);
        due(x.house(7, 2), 1, "the greatest and the least");
        due(x.house(0, 2), 128, "the greatest and the least");
        faulty('t', EIGHT + "wall 8 0;", 2, 69);
        faulty('t', EIGHT + "wall 0 8;", 2, 71);
        faulty('t', "wall 0 1;", 2, 5);
        faulty('t', "house 1;wall 0 1;house 1;", 2, 15);
        faulty('t', "house 1;wall 1 0;house 1;", 2, 13);
        says(0, "not one, not two that a WALL is between)");
        faulty('t', "house 1;wall 0 0;", 2, 15);
        faulty('t', EIGHT + "wall 7 7;", 2, 71);
        faulty('t', "house 1;house 1;wall 0 1;wall 0 1;", 2, 32);
        says(0, "2 a number that is none such (B of a wall as A, or one that a WALL is between with A; a D twice)");
        faulty('t', "house 1;house 1;wall 0 1;wall 1 0;", 2, 32);
        faulty('t', "house 1;house 1;wall 0 1;wall   1   1;", 2, 36);
        faulty('t', "house 1;house 1;house 1;wall 0 1;wall 1 2;wall 2 0;wall 2 001;", 2, 58);
    }

    private static void pianos() {
        says(0, "\"piano\" M S (PIANOS likewise, 6: brings THING M, 0 to 9, STRONG S, 1 to 9)");
        TunedHouses x = fine('t', "piano 0 1;" + times(4, "piano 5 5;") + "piano 9 9;", 6);
        due(x.told(2), 6, "six");
        due(x.piano(0, 0) * 10 + x.piano(0, 1), 1, "the least, number 0");
        due(x.piano(5, 0) * 10 + x.piano(5, 1), 99, "the greatest, number 5");
        faulty('t', times(6, "piano 0 1;") + "piano 0 1;", 3, 60);
        faulty('t', times(6, "piano 0 1;") + "piano 10 0;", 3, 60);
        faulty('t', "piano 10 1;", 2, 6);
        faulty('t', "piano 0 0;", 2, 8);
        faulty('t', "piano 0 000;", 2, 8);
        faulty('t', "piano 9 10;", 2, 8);
    }

    private static void wishesAndFelt() {
        says(0, "\"wish\" H M (in HOUSE H, told ahead, they wish for THING M; of one HOUSE the last counts)");
        TunedHouses x = fine('t', EIGHT + "wish 0 0;wish 7 9;", 0);
        due(x.house(0, 3), 0, "thing 0");
        due(x.house(7, 3), 9, "thing 9");
        due(x.house(1, 3), NONE, "no wish");
        faulty('t', EIGHT + "wish 8 1;", 2, 69);
        faulty('t', "wish 0 1;house 1;", 2, 5);
        faulty('t', "house 1;wish 1 1;house 1;", 2, 13);
        faulty('t', "house 1;wish 0 10;", 2, 15);
        x = fine('t', "house 1;house 1;wish 0 1;wish 1 4;wish 0 2;wish 0 3;", 0);
        due(x.house(0, 3), 3, "the last counts");
        due(x.house(1, 3), 4, "of one house");
        x = fine('t', "house 1;", 0);
        due(x.house(0, 3), NONE, "no wish is left of another terrace");
        says(0, "\"felt\" N (0 to 40 sheets; 12 without; the last counts).");
        due(fine('t', "felt 0;", 0).told(4), 0, "none");
        due(fine('t', "felt 40;", 0).told(4), 40, "forty");
        due(fine('t', "house 1;", 0).told(4), 12, "without");
        due(fine('t', "felt 40;felt 0;", 0).told(4), 0, "the last counts");
        due(fine('t', "felt 0;felt 39;felt 5;", 0).told(4), 5, "the last counts");
        faulty('t', "felt 41;", 2, 5);
        faulty('t', "felt 1;felt 400;", 2, 12);
    }

    private static void terraceIsRead() {
        says(3, "The first n bytes of the TAPE (empty then) are the TERRACE");
        TunedHouses x = busy();
        put(x, "house 1;house 2;house 3;");
        due(x.terrace(16), 0, "two of three");
        due(x.told(0), 2, "two of three");
        due(x.count(1), 0, "the tape is empty");
        due(x.terrace(0), 0, "nothing is left of it");
        due(x.told(0), 0, "nothing is left of it");
        says(3, "(DAY 0; no LAW, BOOK, IMAGES, nothing to undo): how many PIANOS");
        x = fine('t', THREE, 3);
        alike(allOf(x), allOf(with(THREE)), "the terrace once more");
        x = fine('t', THREE, 3);
        due(x.told(3), 0, "the day");
        due(x.would(9, 2, 0, 90, 0, 0, 0, 0), 7, "no law");
        due(x.told(8), 0, "no book");
        due(x.from(0, 0), 900, "no book");
        due(x.count(0), 0, "no images");
        due(x.restore(), -1, "no images");
        due(x.count(2), 0, "nothing to undo");
        due(x.undo(), -1, "nothing to undo");
        due(x.told(9), 0, "no work was done on it");
        due(fine('t', times(6, "piano 1 1;"), 6).told(0), 0, "pianos without houses");
        askedAhead();
        says(3, "or the FAULT less 10 (all stays).");
        faulty('t', "house 1;hose 1;", 1, 8);
        faulty('t', "house 1;house 10;", 2, 14);
        faulty('t', EIGHT + "house 1;", 3, 64);
    }

    /** What was asked ahead of a new text says nothing of what is behind it. */
    private static void askedAhead() {
        TunedHouses x = with("house 1;piano 2 3;wish 0 2;");
        book(x, "0 10;1 13;");
        due(x.from(0, 0) * 1000 + x.from(0, 1), 1310, "from by the first book");
        due(x.look(0, 0) * 10 + x.look(0, 1), 21, "look by the first book");
        due(x.places() * 10 + x.placed(0), 10, "places of the first terrace");
        law(x, "strong*3");
        due(x.from(0, 0) * 1000 + x.from(0, 1), 1110, "from by another law");
        law(x, "7");
        due(x.from(0, 0), 0, "from by a law that fits none");
        due(x.look(0, 0) * 10 + x.look(0, 1), 20, "look by a law that fits none");
        book(x, "0 10;1 17;");
        due(x.from(0, 0) * 1000 + x.from(0, 1), 9110, "from by another book");
        due(x.look(0, 0) * 10 + x.look(0, 1), 29, "look by another book");
        due(terrace(x, "house 1;house 1;piano 3 3;wish 0 2;wish 1 3;"), 1, "another terrace");
        due(x.from(0, 0) * 1000 + x.from(0, 1), 900100, "from by no book");
        due(x.look(0, 0) * 10 + x.look(0, 1), 9, "look by no book");
        due(x.places() * 10 + x.placed(0), 11, "places of another terrace");
        due(terrace(x, "piano 3 3;"), 1, "a terrace without houses");
        due(x.places() + x.placed(0), -2, "places without houses");
    }

    // ---- laws ----

    private static void lawNumbers() {
        says(0, "U: N (0 to 999)");
        due(force("0"), 0, "0");
        due(force("999-960"), 39, "999");
        due(force("000999-960"), 39, "000999");
        faulty('l', "1000", 2, 0);
        faulty('l', "1000-999", 2, 0);
        faulty('l', "1+ 01000", 2, 3);
        says(0, "FORCE of a PIANO that stands in a HOUSE: what comes out, 0 at least, 40 at most.");
        due(force("0-1"), 0, "-1");
        due(force("1-1"), 0, "0");
        due(force("2-1"), 1, "1");
        due(force("39"), 39, "39");
        due(force("40"), 40, "40");
        due(force("41"), 40, "41");
        due(force("128*256*256*256"), 0, "the least number");
        due(force("128*256*256*256-1"), 40, "the greatest number");
        says(0, "\"strong\" (S), \"felt\" (sheets in it), \"days\" (since it stands there)");
        due(force("strong*10"), 10, "strong");
        due(force("felt*10"), 20, "felt");
        due(force("days*10"), 30, "days");
        due(force("here*10"), 40, "here");
        due(force("thing*5"), 25, "thing");
        due(force("next+7"), 7, "next");
        due(force("house*5"), 35, "house");
        due(force("day*4"), 32, "day");
        says(0, "\"next\" (PIANOS in HOUSES through a WALL)");
        String star = times(6, "house 1;") + "wall 0 1;wall 2 0;wall 0 3;wall 4 0;wall 0 5;" + times(6, "piano 1 1;");
        TunedHouses x = with(star, "put 0 0;");
        law(x, "next");
        due(x.piano(0, 5), 0, "none is next");
        work(x, "put 1 1;put 2 2;put 3 3;put 4 4;put 5 5;");
        due(x.piano(0, 5), 5, "all five are");
        due(x.piano(5, 5), 1, "one is");
        work(x, "take 0;");
        due(x.piano(5, 5), 0, "those behind no wall are not");
    }

    private static void lawValues() {
        says(0, "\"least\" \"[\" E \",\" E \"]\", \"most\" \"[\" E \",\" E \"]\", or \"(\" E \")\".");
        due(force("least[3,4]"), 3, "least");
        due(force("least[4,3]"), 3, "least");
        due(force("least[3,3]"), 3, "least of alike ones");
        due(force("most[3,4]"), 4, "most");
        due(force("most[4,3]"), 4, "most");
        due(force("5+least[0-3,2]"), 2, "least below 0");
        due(force("5+most[0-3,0-4]"), 2, "most below 0");
        due(force("least[128*256*256*256,1]+5-128*256*256*256"), 5, "the least number is less");
        due(force("most[128*256*256*256-1,0-1]-128*256*256*256+7"), 6, "the greatest number is more");
        says(0, "Values are whole numbers of 32 bits that wrap");
        due(force("(128*256*256*256-1)+1-128*256*256*256+3"), 3, "the greatest and 1");
        due(force("(128*256*256*256-1+1)/256/256/256+128+3"), 3, "the greatest and 1 is the least");
        due(force("(128*256*256*256-1)/256/256/256-127+4"), 4, "the least less 1 is the greatest");
        due(force("256*256*256*256+9"), 9, "two to the 32nd is 0");
        due(force("128*256*256*256*(0-1)/256/256/256+128+6"), 6, "the least by -1 stays so");
        due(force("(256*256*256*16+1)*16"), 16, "a product keeps its lowest bits");
        says(0, "/ cuts, % leaves (with the sign of what is divided)");
        due(force("7/2"), 3, "7/2");
        due(force("10+(0-7)/2"), 7, "-7/2");
        due(force("10+7/(0-2)"), 7, "7/-2");
        due(force("(0-7)/(0-2)"), 3, "-7/-2");
        due(force("7%4"), 3, "7%4");
        due(force("10+(0-7)%4"), 7, "-7%4");
        due(force("10+7%(0-4)"), 13, "7%-4");
        due(force("10+(0-7)%(0-4)"), 7, "-7%-4");
        due(force("3/4"), 0, "3/4");
        due(force("3%4"), 3, "3%4");
        due(force("5+128*256*256*256%(0-1)"), 5, "the least by -1 leaves nothing");
        due(force("(128*256*256*256)/(0-1)/256/256/256+128+6"), 6, "the least by -1");
        says(0, "by 0 both are 0.");
        due(force("5+7/0"), 5, "7/0");
        due(force("5+7%0"), 5, "7%0");
        due(force("5+0/0"), 5, "0/0");
        due(force("5+0%0"), 5, "0%0");
        due(force("5+7/(3-3)*2"), 5, "by a sum that is 0");
        due(force("5+(0-7)%(3-3)"), 5, "by a sum that is 0");
        due(force("5+128*256*256*256/next"), 5, "by next, which is 0");
        says(0, "E: T { + or - T }. T: U { * or / or % U }.");
        due(force("20-5-3"), 12, "from the left");
        due(force("20-5+3"), 18, "from the left");
        due(force("36/6*2"), 12, "from the left");
        due(force("36/6/2"), 3, "from the left");
        due(force("7*5%4"), 3, "from the left");
        due(force("1+2*3"), 7, "* ahead of +");
        due(force("9-8/4"), 7, "/ ahead of -");
        due(force("9-8%5"), 6, "% ahead of -");
    }

    private static void lawEnds() {
        says(0, "E, at the end nothing more");
        due(force("1   "), 1, "blanks at the end");
        faulty('l', "1 1", 1, 2);
        faulty('l', "1;", 1, 1);
        faulty('l', "1)", 1, 1);
        faulty('l', "(1))", 1, 3);
        faulty('l', "1]", 1, 1);
        faulty('l', "1,2", 1, 1);
        faulty('l', "1 strong", 1, 2);
        faulty('l', "least[1,2]3", 1, 10);
        faulty('l', "least[1,2,3]", 1, 9);
        faulty('l', "least[1]", 1, 7);
        faulty('l', "least[]", 1, 6);
        faulty('l', "least(1,2)", 1, 5);
        faulty('l', "least[1,2)", 1, 9);
        faulty('l', "(1]", 1, 2);
        faulty('l', "()", 1, 1);
        faulty('l', "-1", 1, 0);
        faulty('l', "+1", 1, 0);
        faulty('l', "1+-1", 1, 2);
        faulty('l', "1**1", 1, 2);
        faulty('l', "wall", 1, 0);
        faulty('l', "again", 1, 0);
        says(4, "Likewise the LAW (n to 150): 1.");
        TunedHouses x = fine('l', "7", 1);
        due(x.would(1, 0, 0, 0, 0, 0, 0, 0), 7, "the new law");
        due(x.told(8), 2, "the book stays");
        due(x.count(0) * 10 + x.count(2), 12, "images and works stay");
        due(x.told(3), 2, "the day stays");
        due(x.told(9), 1, "the latest work stays");
        due(x.undo(), 1, "undo()");
        due(x.would(1, 0, 0, 0, 0, 0, 0, 0), 7, "no undo brings a law back");
        due(x.restore(), 0, "restore()");
        due(x.would(1, 0, 0, 0, 0, 0, 0, 0), 7, "no image keeps a law");
    }

    // ---- works ----

    private static void workNumbers() {
        says(0, "STEP: \"put\" P H, \"take\" P, \"lay\" P N, \"day\", or \"again\" N \"[\" { STEP \";\" } \"]\" (N 0 to 60).");
        fine('w', "take 0;put 0 0;take 2;put 2 2;", 4);
        fine('w', "lay 0 0;lay 0 1;lay 2 0;", 2);
        faulty('w', "put 3 0;", 2, 4);
        faulty('w', "put 0 3;", 2, 6);
        faulty('w', "take 3;", 2, 5);
        faulty('w', "lay 3 1;", 2, 4);
        faulty('w', "put 0;", 1, 5);
        faulty('w', "put;", 1, 3);
        faulty('w', "take;", 1, 4);
        faulty('w', "take 0 0;", 1, 7);
        faulty('w', "lay 0;", 1, 5);
        faulty('w', "day 1;", 1, 4);
        faulty('w', "put 0 0 0;", 1, 8);
        says(0, "lay: N sheets are in P, 0 to 9");
        TunedHouses x = with("piano 1 1;", "lay 0 9;");
        due(x.piano(0, 3), 9, "nine");
        due(work(x, "lay 0 0;"), 1, "none");
        due(x.piano(0, 3), 0, "none");
        faulty('w', "lay 0 10;", 2, 6);
        says(0, "(N 0 to 60).");
        fine('w', "again 0 [day;];", 0);
        fine('w', "again 1 [day;];", 1);
        fine('w', "again 60 [day;];", 60);
        fine('w', "again 60 [];", 0);
        fine('w', "again 0 [];day;", 1);
        faulty('w', "again 61 [day;];", 2, 6);
        faulty('w', "again [day;];", 1, 6);
        faulty('w', "again 2 day;", 1, 8);
        faulty('w', "again 2 (day;);", 1, 8);
        faulty('w', "again 2 [day];", 1, 12);
        faulty('w', "again 2 [day;]day;", 1, 14);
        faulty('w', "again 2 [;];", 1, 9);
        faulty('w', "day;];", 1, 4);
        faulty('w', "day;;", 1, 4);
        TunedHouses bare = new TunedHouses();
        due(work(bare, "put 0 0;"), -8, "there are no pianos");
        due(bare.fault(), 4, "there are no pianos");
        TunedHouses homeless = with("piano 1 1;");
        due(work(homeless, "put 0 0;"), -8, "there are no houses");
        due(homeless.fault(), 6, "there are no houses");
    }

    private static void workIsRead() {
        says(5, "how many STEPS were done (agains not counted, nor REFUSED ones)");
        fine('w', "", 0);
        fine('w', "again 3 [again 2 [day;];];", 6);
        fine('w', "put 0 0;put 0 1;put 0 2;lay 1 2;", 0);
        fine('w', "put 0 0;take 0;put 0 0;lay 1 2;day;", 3);
        says(5, "or the FAULT less 10 (none is)");
        faulty('w', "day;day;dog;", 1, 8);
        faulty('w', "take 0;put 0 9;", 2, 13);
        faulty('w', "day;" + times(7, "again 1 ["), 3, 58);
        TunedHouses x = busy();
        due(work(x, "day;day"), -9, "a fault at the end");
        due(x.told(3), 2, "none is done");
        due(x.count(2), 2, "it is no work to undo");
        due(x.told(9), 1, "steps refused by the latest work that was done");
    }

    private static TunedHouses sixteen() {
        TunedHouses x = with("house 1;house 2;piano 3 4;");
        for (int i = 1; i <= 16; i++) {
            due(work(x, i == 1 ? "put 0 0;put 0 0;" : i % 2 == 0 ? "day;" : ""), i == 1 || i % 2 == 0 ? 1 : 0, "work " + i);
        }
        return x;
    }

    private static void fullWorks() {
        says(5, "-20 ahead of that (nothing is read, there is no FAULT, the TAPE is empty then): 16 WORKS are there that were"
                + " not undone.");
        TunedHouses x = sixteen();
        due(x.count(2), 16, "the 16th was done");
        String before = seen(x);
        law(x, "1+");
        due(x.fault(), 2, "a fault ahead of it");
        due(work(x, "day;"), -20, "the 17th");
        due(x.fault(), NONE, "there is no fault");
        due(x.count(1), 0, "the tape is empty");
        alike(seen(x), before, "nothing is done");
        due(work(x, "dog"), -20, "ahead of a fault 1");
        due(x.fault(), NONE, "nothing is read");
        due(work(x, "put 9 9;"), -20, "ahead of a fault 2");
        due(x.fault(), NONE, "nothing is read");
        due(work(x, ""), -20, "an empty one, too");
        alike(seen(x), before, "nothing is done");
        due(x.status(0) + x.status(1), 0, "no call was refused");
        put(x, "day;");
        alike(outcome(x, y -> y.work(21)), ILLEGAL.getName(), "its length is looked at first");
        due(x.count(1), 20, "the tape stays");
        due(x.work(4), -20, "work(4)");
        due(x.undo(), 15, "one is undone");
        due(work(x, "dog"), -9, "with 15 the text is read");
        due(x.fault(), 0, "with 15 the text is read");
        due(work(x, "day;"), 1, "with 15 it is done");
        due(work(x, "day;"), -20, "with 16 again it is not");
        TunedHouses y = sixteen();
        for (int i = 15; i >= 0; i--) {
            due(y.undo(), i, "undo()");
        }
        due(y.undo(), -1, "all are undone");
        due(work(y, "day;"), 1, "there is room again");
        TunedHouses z = with(THREE);
        z.image();
        for (int i = 0; i < 16; i++) {
            work(z, "day;");
        }
        due(work(z, "day;"), -20, "full");
        due(z.restore(), 0, "restore()");
        due(work(z, "day;"), 1, "an image without works has room");
        TunedHouses t = sixteen();
        due(terrace(t, "house 1;"), 0, "a new terrace");
        due(work(t, "day;"), 1, "a new terrace has room");
    }

    // ---- books ----

    private static void books() {
        says(0, "{ D V \";\" }, 6 lines at most, no D twice: after D days (0 to 60) there was V of it (0 to 99).");
        due(fine('b', "", 0).told(8), 0, "no lines");
        due(fine('b', "0 1;1 1;2 1;3 1;4 1;5 1;", 6).told(8), 6, "six lines");
        fine('b', "60 99;0 0;", 2);
        fine('b', "0 99;60 0;", 2);
        faulty('b', "61 1;", 2, 0);
        faulty('b', "0 1;61 1;", 2, 4);
        faulty('b', "0 100;", 2, 2);
        faulty('b', "0 1;60 100;", 2, 7);
        faulty('b', "0 1;0 1;", 2, 4);
        faulty('b', "60 1;0 1;060 1;", 2, 9);
        faulty('b', "0 1;1 1;2 1;3 1;4 1;5 1;6 1;", 3, 24);
        faulty('b', "0 1;1 1;2 1;3 1;4 1;5 1;  6 1;", 3, 26);
        faulty('b', "0 1;1 1;2 1;3 1;4 1;5 1;6", 3, 24);
        faulty('b', "0;", 1, 1);
        faulty('b', "0 1 2;", 1, 4);
        faulty('b', ";", 1, 0);
        faulty('b', "day 1;", 1, 0);
        faulty('b', "1,1;", 1, 1);
        says(6, "Likewise the BOOK (n to 60): how many lines.");
        TunedHouses x = fine('b', "5 40;", 1);
        due(x.told(8), 1, "the new book alone");
        due(x.would(9, 9, 0, 0, 0, 0, 0, 0), 9, "the law stays");
        due(x.count(0) * 10 + x.count(2), 12, "images and works stay");
        due(x.undo() + x.restore(), 1, "undo(), restore()");
        due(x.told(8), 1, "neither brings a book back");
    }

    // ---- numbers, words, blanks ----

    private static void numbersAndWords() {
        says(0, "Numbers: digits, as many as stand there");
        TunedHouses x = fine('t', "house 00000000000000000000000000000000007;", 0);
        due(x.house(0, 5), 7, "zeros ahead");
        faulty('t', "house 2147483648;", 2, 6);
        faulty('t', "house 4294967296;", 2, 6);
        faulty('t', "house 4294967299;", 2, 6);
        faulty('t', "house 18446744073709551616;", 2, 6);
        faulty('t', "house 00000000000000000000000000000000018446744073709551619;", 2, 6);
        faulty('t', "house " + times(580, "1") + ";", 2, 6);
        faulty('t', "felt 4294967308;", 2, 5);
        faulty('t', "piano 1 4294967297;", 2, 8);
        faulty('l', "4294967296", 2, 0);
        faulty('l', "18446744073709551617", 2, 0);
        faulty('w', "again 4294967297 [];", 2, 6);
        faulty('w', "put 4294967296 0;", 2, 4);
        faulty('b', "4294967296 1;", 2, 0);
        faulty('b', "0 4294967297;", 2, 2);
        faulty('t', "wall 01;", 2, 5);
        faulty('t', "house 1;wall 00;", 1, 15);
        says(0, "WORDS: small letters, as many as stand there");
        faulty('t', "houses 1;", 1, 0);
        faulty('t', "hous 1;", 1, 0);
        faulty('t', "housewall 1;", 1, 0);
        faulty('t', "housez 1;", 1, 0);
        faulty('t', "housea 1;", 1, 0);
        faulty('t', "House 1;", 1, 0);
        faulty('t', "hoUse 1;", 1, 0);
        faulty('t', "houseX 1;", 1, 5);
        faulty('t', "house{ 1;", 1, 5);
        faulty('t', "house` 1;", 1, 5);
        faulty('t', "pianof 1 1;", 1, 0);
        faulty('w', "days;", 1, 0);
        faulty('w', "dayz;", 1, 0);
        faulty('w', "dayday;", 1, 0);
        faulty('w', "puts 0 0;", 1, 0);
        faulty('l', "strongfelt", 1, 0);
        faulty('l', "dayss", 1, 0);
        faulty('l', "strong2", 1, 6);
        faulty('l', "2strong", 1, 1);
        faulty('b', "0a1;", 1, 1);
        TunedHouses y = fine('t', "house3;house4;wall0 1;piano7 6;wish0 7;felt8;", 1);
        due(y.told(0), 2, "a number may stand right behind a word");
        due(y.wall(0, 1), 1, "a number may stand right behind a word");
        fine('w', "put2 2;take2;lay2 0;again2[day;];", 4);
    }

    private static void blanks() {
        says(0, "blanks (32) may stand ahead of all these, and at the end.");
        TunedHouses x = fine('t', "   house   3  ;  house 4 ; wall  0   1 ;  piano  7  6 ; wish 0  7 ; felt  8 ;   ", 1);
        due(x.told(0) * 100 + x.told(1) * 10 + x.told(2), 211, "blanks in a terrace");
        due(x.told(4), 8, "blanks in a terrace");
        due(force("  ( strong  +  2 )  *  least  [  3  ,  4  ]  -  most [ 1 , 0 ]  "), 8, "blanks in a law");
        fine('w', "  again  2  [  day  ;  again 1 [ ] ;  ]  ;  put  2  2  ;  ", 2);
        fine('b', "   0   10   ;   2  16 ;   ", 2);
        faulty('t', "ho use 1;", 1, 0);
        faulty('t', "house 1 0;", 1, 8);
        faulty('l', "stro ng", 1, 0);
        faulty('l', "1 0", 1, 2);
        faulty('t', "house\t1;", 1, 5);
        faulty('t', "house\n1;", 1, 5);
        faulty('t', "house\0001;", 1, 5);
        faulty('t', "house\u00a01;", 1, 5);
        faulty('t', "house\u001f1;", 1, 5);
        faulty('t', "house!1;", 1, 5);
        faulty('t', "\u00e8ouse 1;", 1, 0);
        faulty('t', "house \u00b1;", 1, 6);
        faulty('t', "house /;", 1, 6);
        faulty('t', "house :;", 1, 6);
        faulty('t', "house 1;\000", 1, 8);
        faulty('l', "1\000", 1, 1);
        faulty('w', "day;\377", 1, 4);
        faulty('b', "0 1;\t", 1, 4);
    }

    // ---- faults ----

    private static void firstFault() {
        says(0, "FAULTS, the first from the left, at its first byte");
        faulty('t', "house 10;hose 1;", 2, 6);
        faulty('t', "hose 1;house 10;", 1, 0);
        faulty('t', "piano 10 0;", 2, 6);
        faulty('t', "piano 10 x", 2, 6);
        faulty('t', "piano 1 0", 2, 8);
        faulty('t', "wall 0 x", 2, 5);
        faulty('t', EIGHT + "house 10", 3, 64);
        faulty('t', "house 1 house 10;", 1, 8);
        faulty('t', "  house    0010;", 2, 11);
        faulty('t', "   hose 1;", 1, 3);
        faulty('l', "1000 x", 2, 0);
        faulty('l', "x 1000", 1, 0);
        faulty('l', "(((((((1000", 3, 6);
        faulty('l', "((((((1000(", 2, 6);
        faulty('w', "put 9 x;", 2, 4);
        faulty('w', "again 61 x", 2, 6);
        faulty('w', "again 2 [put 9 0;", 2, 13);
        faulty('b', "61 100;", 2, 0);
        faulty('b', "0 1;0 100;", 2, 4);
        faulty('b', "0 100;0 1;", 2, 2);
    }

    private static void endsTooEarly() {
        says(0, "1 what can't stand there (at the length, if the text ends too early)");
        for (String s : new String[] {"house", "house ", "house 1", "house 1  ", "house 1;wall", "house 1;wall 0",
            "piano", "piano 1", "piano 1 1", "house 1;wish", "house 1;wish 0", "house 1;wish 0 1", "felt", "felt 1"}) {
            faulty('t', s, 1, s.length());
        }
        for (String s : new String[] {"", "   ", "1+", "1- ", "1*", "1/", "1%", "(", "(1", "(1+", "least", "least ", "least[",
            "least[1", "least[1,", "least[1,2", "most", "most[", "most[1", "most[1,", "most[1,2", "((1)"}) {
            faulty('l', s, 1, s.length());
        }
        for (String s : new String[] {"put", "put 0", "put 0 0", "take", "take 0", "lay", "lay 0", "lay 0 1", "day", "day ",
            "again", "again 2", "again 2 [", "again 2 [day", "again 2 [day;", "again 2 [day;]", "again 2 []  "}) {
            faulty('w', s, 1, s.length());
        }
        for (String s : new String[] {"0", "0 ", "0 1", "0 1 ", "0 1;2", "0 1;2 3"}) {
            faulty('b', s, 1, s.length());
        }
        // The length is that of the text, whatever else is on the tape.
        TunedHouses x = busy();
        put(x, "house 1;");
        due(x.terrace(7), -9, "the first seven bytes");
        due(x.fault(), 7, "the first seven bytes");
        put(x, "(1)");
        due(x.law(2), -9, "the first two bytes");
        due(x.fault(), 2, "the first two bytes");
        put(x, "day;");
        due(x.work(3), -9, "the first three bytes");
        due(x.fault(), 3, "the first three bytes");
        put(x, "12 3;");
        due(x.book(1), -9, "the first byte");
        due(x.fault(), 1, "the first byte");
        put(x, "house 12;");
        due(x.terrace(7), -9, "a number ends with the text");
        put(x, "houses");
        due(x.terrace(5), -9, "a word ends with the text");
        due(x.fault(), 5, "a word ends with the text");
    }

    private static void tooManyOpen() {
        says(0, "or a 7th of ( least most again that is open at one time");
        due(force("((((((1))))))"), 1, "six");
        due(force("least[least[least[least[least[least[1,2],2],2],2],2],2]"), 1, "six");
        due(force("most[1,most[1,most[1,most[1,most[1,most[1,2]]]]]]"), 2, "six");
        due(force("(least[9,most[(least[9,most[1,2]]),1]])"), 2, "six of all kinds");
        faulty('l', "(((((((1)))))))", 3, 6);
        faulty('l', "((((((  (", 3, 8);
        faulty('l', "((((((least[1,2]))))))", 3, 6);
        faulty('l', "((((((most[1,2]))))))", 3, 6);
        faulty('l', "((((((most", 3, 6);
        faulty('l', "least[1,((((((1))))))]", 3, 13);
        faulty('l', "least[((((((1)))))),1]", 3, 11);
        faulty('l', "most[1,most[1,most[1,most[1,most[1,most[1,(2)]]]]]]", 3, 42);
        due(force("((((((1))))))+((((((1))))))*((((((1))))))"), 2, "closed ones do not count");
        due(force("(((((least[1,2]+least[1,2]+most[1,2]+(1))))))"), 5, "closed ones do not count");
        due(force("least[(((((1))))),(((((2)))))]+((((((1))))))"), 2, "closed ones do not count");
        String six = times(6, "again 1 [");
        fine('w', six + "day;" + times(6, "];"), 1);
        faulty('w', six + "again 1 [];" + times(6, "];"), 3, 54);
        faulty('w', six + "day;  again", 3, 60);
        fine('w', "again 2[" + times(7, "again 1[day;];") + "];", 14);
        fine('w', times(5, "again 1[") + "again 1[];again 1[];" + times(5, "];"), 0);
    }

    private static void leastOfOnePlace() {
        says(0, "of one the least.");
        faulty('t', times(60, "felt 7;") + "fel 7;", 1, 420);
        faulty('t', times(60, "felt 7;") + "7;", 1, 420);
        faulty('t', times(60, "felt 7;") + ";", 1, 420);
        faulty('t', EIGHT + "houses 1;", 1, 64);
        String six = "0 1;1 1;2 1;3 1;4 1;5 1;";
        faulty('b', six + "61 1;", 2, 24);
        faulty('b', six + "5 1;", 2, 24);
        faulty('b', six + "0 1;", 2, 24);
        faulty('b', six + "x 1;", 1, 24);
        faulty('b', six + ";", 1, 24);
        faulty('w', times(6, "again 1 [") + "agains 1 [", 1, 54);
        faulty('w', times(6, "again 1 [") + "[", 1, 54);
        faulty('l', "((((((lest[1,2]", 1, 6);
        faulty('l', "(((((([", 1, 6);
    }

    private static void faultPlace() {
        says(7, "The place of the FAULT of the latest text; NONE without.");
        TunedHouses x = new TunedHouses();
        due(x.fault(), NONE, "ahead of any text");
        law(x, "x");
        due(x.fault(), 0, "place 0");
        due(x.fault(), 0, "asked twice");
        law(x, "1");
        due(x.fault(), NONE, "of a law without");
        terrace(x, times(599, " ") + "x");
        due(x.fault(), 599, "the last of 600 bytes");
        terrace(x, times(600 - 7, " ") + "house 1");
        due(x.fault(), 600, "at the length");
        terrace(x, "");
        due(x.fault(), NONE, "of a terrace without");
        book(x, "0");
        due(x.fault(), 1, "of a book");
        book(x, "0 0;");
        due(x.fault(), NONE, "of a book without");
        work(x, "dog");
        due(x.fault(), 0, "of work");
        alike(outcome(x, y -> y.work(1)), ILLEGAL.getName(), "work(1) of no bytes");
        due(x.fault(), 0, "a refused call reads no text");
        x.undo();
        x.image();
        x.restore();
        x.feed(0, 0, 0, 0, 0);
        due(x.fault(), 0, "neither undo, image, restore nor feed is a text");
        due(x.work(0), 0, "work(0)");
        due(x.fault(), NONE, "of work without");
    }
}
