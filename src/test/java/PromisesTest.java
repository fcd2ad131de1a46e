import java.util.NoSuchElementException;

/** Promise by promise: ordinary inputs, the edges that the document names, and wrong inputs. */
public final class PromisesTest extends Checks {
    interface Call {
        long answer();
    }

    public static void main(String[] args) {
        newObject();
        feed();
        terraceTexts();
        terraceLimits();
        terraceFaults();
        terraceResets();
        lawTexts();
        lawValues();
        lawFaults();
        works();
        workLimits();
        workFaults();
        books();
        faults();
        undo();
        told();
        houses();
        pianos();
        would();
        aheadAndWhen();
        muffle();
        places();
        fromAndLook();
        waysAndAlone();
        price();
        tuner();
        share();
        thoseToOldest();
        emptyToTunes();
        years();
        images();
        statusAndCount();
        finish("PromisesTest");
    }

    // ---- helpers ----

    private static String outcome(Call call) {
        try {
            return "answered " + call.answer();
        } catch (RuntimeException e) {
            return e.getClass().getName();
        }
    }

    private static void expect(Class<?> due, Call call, String what) {
        String got = outcome(call);
        if (!got.equals(due.getName())) {
            fail(what + " " + got + ", due is " + due.getName());
        }
    }

    /** The call is refused so and counted once; that nothing else is changed is for the edge tests. */
    private static void refused(TunedHouses x, Class<?> due, Call call, String what) {
        int counter = due == NoSuchElementException.class ? 0 : 1;
        int before = x.status(counter);
        int other = x.status(1 - counter);
        expect(due, call, what);
        due(x.status(counter), before + 1, what + ": status");
        due(x.status(1 - counter), other, what + ": the other status");
    }

    private static void illegal(TunedHouses x, Call call, String what) {
        refused(x, IllegalArgumentException.class, call, what);
    }

    private static void noSuch(TunedHouses x, Call call, String what) {
        refused(x, NoSuchElementException.class, call, what);
    }

    private static TunedHouses three() {
        TunedHouses x = with(THREE);
        work(x, "put 0 0;put 1 1;put 2 2;lay 1 2;day;");
        return x;
    }

    // ---- promises ----

    private static void newObject() {
        promise(1);
        TunedHouses x = new TunedHouses();
        int[] told = {0, 0, 0, 0, 12, 0, 0, 0, 0, 0, 0};
        for (int w = 0; w < told.length; w++) {
            due(x.told(w), told[w], "told(" + w + ")");
        }
        due(x.fault(), -1, "fault()");
        due(x.count(0) + x.count(1) + x.count(2), 0, "counts");
        due(x.places(), 0, "places()");
        due(x.alone() + x.changed() + x.empty() + x.those(0), 0, "bits");
        due(x.loudest(0), -1, "loudest(0)");
        due(x.oldest(1), -1, "oldest(1)");
        due(x.would(9, 2, 0, 0, 0, 0, 0, 0), 7, "would by no law");
        due(work(x, "day;again 2 [day;];"), 3, "days without houses");
        due(x.told(3), 3, "the day");
        due(TunedHouses.NONE, -1, "NONE");
    }

    private static void feed() {
        promise(2);
        TunedHouses x = new TunedHouses();
        for (int i = 1; i <= 30; i++) {
            due(x.feed(0x68206831, 1, 2, 3, 4), 20 * i, "feed " + i);
        }
        due(x.feed(1, 2, 3, 4, 5), -1, "feed beyond 600");
        due(x.count(1), 600, "bytes");
        due(x.terrace(0), 0, "terrace(0)");
        due(x.count(1), 0, "bytes behind a text");
        due(x.feed(0x666c7420, 0x20202020, 0, 0, -1), 20, "feed again");
        due(x.terrace(4), -9, "flt");
        x.feed(0x66656c74, 0x2034303b, 0x20202020, 0x20202020, 0x20202020);
        due(x.terrace(20), 0, "felt 40; highest byte first");
        due(x.told(4), 40, "sheets");
        x.feed(0x666520ff, 0x80000000, 0, 0, 0);
        due(x.terrace(5), -9, "fe");
        due(x.fault(), 0, "at its first byte");
        x.feed(0x20ff2020, 0, 0, 0, 0);
        due(x.terrace(4), -9, "byte 255");
        due(x.fault(), 1, "byte 255 at");
    }

    private static void terraceTexts() {
        promise(3);
        TunedHouses x = with(THREE);
        due(x.told(0), 3, "houses");
        due(x.told(1), 2, "walls");
        due(x.told(2), 3, "pianos");
        due(x.told(4), 8, "sheets");
        due(x.count(1), 0, "the tape is empty");
        due(terrace(x, "  house3 ;house   007;wall 1 00;piano 9  9;wish 1 2;wish 1 3;felt 1;felt 040 ;  "), 1, "blanks");
        due(x.told(0), 2, "houses");
        due(x.house(1, 0), 7, "007");
        due(x.house(1, 3), 3, "the last wish counts");
        due(x.told(4), 40, "the last felt counts");
        due(x.wall(0, 0), 1, "A");
        due(x.wall(0, 1), 0, "B");
        put(x, "house 1;rest is left out");
        due(x.terrace(8), 0, "the first n bytes");
        due(x.told(4), 12, "felt untold");
        due(x.count(1), 0, "all of the tape goes");
        due(terrace(x, "     "), 0, "blanks alone");
        due(x.told(0), 0, "no houses");
        illegal(x, () -> x.terrace(-1), "terrace(-1)");
        put(x, "house 1;");
        illegal(x, () -> x.terrace(21), "terrace(21) of 20 bytes");
        due(x.count(1), 20, "the tape stays");
        illegal(x, () -> x.terrace(Integer.MIN_VALUE), "terrace(least)");
        illegal(x, () -> x.terrace(Integer.MAX_VALUE), "terrace(most)");
        due(x.terrace(8), 0, "terrace(8)");
    }

    private static void terraceLimits() {
        promise(3);
        TunedHouses x = new TunedHouses();
        String eight = times(8, "house 1;");
        due(terrace(x, eight), 0, "8 houses");
        due(x.told(0), 8, "8 houses");
        fault(x, 't', eight + "house 1;", 3, 64);
        fault(x, 't', eight + "house 99;", 3, 64);
        String twelve = "wall 0 1;wall 0 2;wall 0 3;wall 0 4;wall 0 5;wall 0 6;wall 0 7;wall 1 2;wall 1 3;wall 1 4;"
                + "wall 1 5;wall 1 6;";
        due(terrace(x, eight + twelve), 0, "12 walls");
        due(x.told(1), 12, "12 walls");
        fault(x, 't', eight + twelve + "wall 2 3;", 3, 64 + 108);
        due(terrace(x, times(6, "piano 0 1;")), 6, "6 pianos");
        fault(x, 't', times(7, "piano 0 1;"), 3, 60);
        due(x.told(2), 6, "all stays");
        due(terrace(x, times(60, "felt 7;") + "   "), 0, "60 clauses");
        fault(x, 't', times(60, "felt 7;") + " felt 7;", 3, 421);
        fault(x, 't', times(60, "felt 7;") + "felt", 3, 420);
        fault(x, 't', times(60, "felt 7;") + "fel 7;", 1, 420);
        fault(x, 't', times(60, "felt 7;") + ";", 1, 420);
        String full = times(59, "felt 7;") + "felt " + "0".repeat(600 - 59 * 7 - 8) + "40;";
        due(full.length(), 600, "length");
        due(terrace(x, full), 0, "600 bytes");
        due(x.told(4), 40, "600 bytes");
    }

    private static void terraceFaults() {
        promise(3);
        TunedHouses x = with(THREE);
        fault(x, 't', "house 10;", 2, 6);
        fault(x, 't', "house 99999999999999999999;", 2, 6);
        fault(x, 't', "house 4294967296;", 2, 6);
        fault(x, 't', "house;", 1, 5);
        fault(x, 't', "house -1;", 1, 6);
        fault(x, 't', "house 1 2;", 1, 8);
        fault(x, 't', "house 1", 1, 7);
        fault(x, 't', "house 1   ", 1, 10);
        fault(x, 't', "hou", 1, 0);
        fault(x, 't', "House 1;", 1, 0);
        fault(x, 't', "houseA 1;", 1, 5);
        fault(x, 't', "  ;", 1, 2);
        fault(x, 't', "house 1;;", 1, 8);
        fault(x, 't', "7;", 1, 0);
        fault(x, 't', "house\t1;", 1, 5);
        fault(x, 't', "wall 0 0;", 2, 5);
        fault(x, 't', "house 1;wall 0 0;", 2, 15);
        fault(x, 't', "house 1;wall 0 1;house 2;", 2, 15);
        fault(x, 't', "house 1;house 2;wall 2 0;", 2, 21);
        fault(x, 't', "house 1;house 2;wall 0 1;wall 1 0;", 2, 32);
        fault(x, 't', "house 1;house 2;wall 0 1;wall 0 1;", 2, 32);
        fault(x, 't', "house 1;house 2;wall 0;", 1, 22);
        fault(x, 't', "piano 10 1;", 2, 6);
        fault(x, 't', "piano 1 0;", 2, 8);
        fault(x, 't', "piano 1 10;", 2, 8);
        fault(x, 't', "piano 1", 1, 7);
        fault(x, 't', "wish 0 1;", 2, 5);
        fault(x, 't', "house 1;wish 1 1;", 2, 13);
        fault(x, 't', "house 1;wish 0 10;", 2, 15);
        fault(x, 't', "felt 41;", 2, 5);
        fault(x, 't', "felt x;", 1, 5);
    }

    /** A text has this fault at this place; that all else stays is for the edge tests. */
    private static void fault(TunedHouses x, char kind, String text, int fault, int place) {
        due(text(x, kind, put(x, text)), fault - 10, "<" + text + ">");
        due(x.fault(), place, "fault() of <" + text + ">");
    }

    private static void terraceResets() {
        promise(3);
        TunedHouses x = three();
        law(x, "40");
        book(x, "0 1;");
        x.image();
        work(x, "put 0 0;");
        due(x.told(9), 1, "refused");
        due(terrace(x, "house 2;piano 1 3;"), 1, "anew");
        due(x.told(3), 0, "the day");
        due(x.told(8), 0, "no book");
        due(x.told(9), 0, "ahead of any work");
        due(x.count(0), 0, "no images");
        due(x.count(2), 0, "nothing to undo");
        due(x.undo(), -1, "undo()");
        due(x.restore(), -1, "restore()");
        due(x.would(9, 2, 0, 0, 0, 0, 0, 0), 7, "no law");
        due(x.told(10), 50, "all there is");
        due(x.piano(0, 2), -1, "it stands in none");
    }

    private static void lawTexts() {
        promise(4);
        TunedHouses x = with("house 0;piano 0 5;");
        due(law(x, " strong*2-felt "), 1, "law");
        due(x.count(1), 0, "the tape is empty");
        due(x.would(9, 3, 0, 0, 0, 0, 0, 0), 15, "would");
        put(x, "1+1 and what is left out");
        due(x.law(3), 1, "the first n bytes");
        due(x.would(9, 3, 0, 0, 0, 0, 0, 0), 2, "would");
        String most = "1" + times(74, "+0") + " ";
        due(most.length(), 150, "length");
        due(law(x, most), 1, "150 bytes");
        due(x.would(1, 0, 0, 0, 0, 0, 0, 0), 1, "150 bytes");
        put(x, most + " ");
        illegal(x, () -> x.law(151), "law(151)");
        due(x.count(1), 160, "the tape stays");
        illegal(x, () -> x.law(-1), "law(-1)");
        due(x.law(150), 1, "law(150)");
        put(x, "1");
        illegal(x, () -> x.law(21), "law(21) of 20 bytes");
        work(x, "put 0 0;");
        law(x, "7");
        x.undo();
        due(x.would(1, 0, 0, 0, 0, 0, 0, 0), 7, "no undo changes the law");
    }

    private static int value(String text) {
        TunedHouses x = new TunedHouses();
        due(law(x, text), 1, "<" + text + ">");
        return x.would(1, 2, 3, 4, 5, 0, 7, 8);
    }

    private static void lawValues() {
        promise(4);
        due(value("strong+felt*10"), 21, "strong felt");
        due(value("days+here*9"), 39, "days here");
        due(value("thing*7+next"), 35, "thing next");
        due(value("house*3+day"), 29, "house day");
        due(value("10-3-2"), 5, "from the left");
        due(value("100/7/2"), 7, "from the left");
        due(value("2+3*4"), 14, "products first");
        due(value("(2+3)*4"), 20, "brackets");
        due(value("100%7*3"), 6, "from the left");
        due(value("0-7/2+10"), 7, "/ cuts");
        due(value("(0-7)/2+10"), 7, "/ cuts toward 0");
        due(value("(0-7)%4+10"), 7, "% by the sign of what is divided");
        due(value("7%(0-4)+10"), 13, "% by the sign of what is divided");
        due(value("7/0+5"), 5, "by 0");
        due(value("7%0+5"), 5, "by 0");
        due(value("least[3,5]+most[10,20]"), 23, "least most");
        due(value("least[5,3]+most[20,10]"), 23, "least most");
        due(value("least [ 1 , most [ 0-5 , 7 ] ]"), 1, "nested");
        due(value("0-5"), 0, "0 at least");
        due(value("41"), 40, "40 at most");
        due(value("40"), 40, "40");
        // 999 to the fourth is 996005996001, which wraps to -426416671.
        due(value("999*999*999*999/999/999/100+20"), 16, "it wraps");
        due(value("128*256*256*256/(0-1)/128/256/256+256+5"), 5, "the least number by -1");
        due(value("128*256*256*256%(0-1)+5"), 5, "the least number by -1");
        due(value("((((((1))))))+least[(((((2-1))))),1]"), 2, "six open");
        due(value("(1)+(1)+(1)+(1)+(1)+(1)+(1)+(1)"), 8, "closed ones do not count");
        due(value("least[most[(least[most[(3),2],5]),1],9]"), 3, "six of all kinds open");
        due(value("999/999"), 1, "999");
        due(value("000000000000999/999"), 1, "zeros ahead");
    }

    private static void lawFaults() {
        promise(4);
        TunedHouses x = with(THREE);
        law(x, "strong");
        fault(x, 'l', "", 1, 0);
        fault(x, 'l', "   ", 1, 3);
        fault(x, 'l', "stronger", 1, 0);
        fault(x, 'l', "1000", 2, 0);
        fault(x, 'l', "5 + 01000", 2, 4);
        fault(x, 'l', "1 1", 1, 2);
        fault(x, 'l', "1+", 1, 2);
        fault(x, 'l', "-1", 1, 0);
        fault(x, 'l', "1)", 1, 1);
        fault(x, 'l', "(1", 1, 2);
        fault(x, 'l', "(1  ", 1, 4);
        fault(x, 'l', "()", 1, 1);
        fault(x, 'l', "least [1]", 1, 8);
        fault(x, 'l', "least (1,2)", 1, 6);
        fault(x, 'l', "most[1,2,3]", 1, 8);
        fault(x, 'l', "most[1,2)", 1, 8);
        fault(x, 'l', "most", 1, 4);
        fault(x, 'l', "1 ; ", 1, 2);
        fault(x, 'l', "again", 1, 0);
        fault(x, 'l', "strong2", 1, 6);
        fault(x, 'l', "2strong", 1, 1);
        fault(x, 'l', "(((((((1)))))))", 3, 6);
        fault(x, 'l', "(((((( (", 3, 7);
        fault(x, 'l', "((((((least", 3, 6);
        fault(x, 'l', "((((((most[1,2]))))))", 3, 6);
        fault(x, 'l', "((((((1(", 1, 7);
        fault(x, 'l', "most[1,most[1,most[1,least[1,least[1,least[1,(2)]]]]]]", 3, 45);
        fault(x, 'l', "most[most[most[least[least[least[(2),1],1],1],1],1],1]", 3, 33);
        fault(x, 'l', "((((((1001))))))", 2, 6);
        due(x.would(7, 3, 0, 0, 0, 0, 0, 0), 7, "the law stays");
    }

    private static void works() {
        promise(5);
        TunedHouses x = with(THREE);
        due(work(x, "put 0 0;put 1 1;put 2 1;put 2 2;put 0 0;lay 1 2;lay 0 9;lay 1 2;day;"), 5, "done");
        due(x.told(9), 4, "refused");
        due(x.told(3), 1, "the day");
        due(x.told(4), 6, "sheets left");
        due(x.there(0, 7), 4, "6 less 2");
        due(x.there(1, 5), 50, "2 less 8 is none");
        due(x.there(2, 7), 0, "2 less 2");
        due(x.piano(0, 4), 1, "days");
        due(work(x, " put0 1 ; take 1;put 0 1;take 1 ;day ;"), 3, "put where one stands is refused");
        due(x.told(9), 2, "refused");
        due(x.piano(0, 2), 1, "it moved when it could");
        due(x.piano(0, 4), 1, "days anew");
        due(x.piano(1, 3), 2, "felt stays in one that is taken");
        due(x.piano(1, 4), 0, "days of none");
        due(work(x, ""), 0, "no steps");
        due(x.count(2), 3, "an empty work is a work");
        due(work(x, "lay 1 0;lay 0 8;lay 2 1;lay 0 7;lay 2 1;"), 4, "sheets come back");
        due(x.told(4), 0, "none left");
        due(x.piano(0, 3) + x.piano(2, 3) * 10, 17, "sheets in");
        // All as the day begins: a force by "here" is that of the morning, and both fight with it.
        TunedHouses y = with("house 1;house 2;wall 0 1;piano 3 9;piano 4 5;");
        law(y, "here + strong - next");
        work(y, "put 0 0;put 1 1;day;");
        due(y.there(0, 3), 4, "8 less 4");
        due(y.there(1, 4), 0, "4 less 8");
        work(y, "day;day;");
        due(y.there(0, 3), 4 + 8 + 16, "12 less 4, 20 less 4");
        work(y, "again 10 [day;];");
        due(y.there(0, 3), 99, "99 at most");
        due(y.told(3), 13, "the day");
    }

    private static void workLimits() {
        promise(5);
        TunedHouses x = with("house 1;house 1;piano 3 1;");
        due(work(x, "again 20 [again 20 [put 0 0;];];"), 1, "200 begun");
        due(x.told(9), 188, "refused");
        due(work(x, "again 60 [day;day;day;day;];"), 199, "an again is begun, too");
        due(x.told(3), 199, "the day");
        due(work(x, "again 60 [again 0 [day;];];day;again 60 [];again 60 [again 60 [];];"), 1, "empty agains");
        due(work(x, "again 60 [again 60 [];];again 60 [again 60[];];again 60 [again 60[];];again 15 [again 60[];];day;"),
                1, "the 200th");
        due(work(x, "again 60 [again 60 [];];again 60 [again 60[];];again 60 [again 60[];];again 16 [again 60[];];day;"),
                0, "the 201st");
        due(x.told(9), 0, "left out, not refused");
        due(x.told(3), 201, "the day");
        work(x, "again 60 [day;day;day;];");
        due(work(x, "again 60 [day;day;];"), 119, "up to day 500");
        due(x.told(3), 500, "the day");
        due(x.told(9), 1, "refused on day 500");
        due(work(x, "day;take 0;put 0 1;"), 2, "work on day 500");
        due(x.told(3), 500, "the day");
        due(work(x, times(37, "day;") + "  "), 0, "150 bytes");
        due(x.told(9), 37, "all refused");
        TunedHouses y = with("house 1;house 1;piano 3 1;");
        for (int i = 1; i <= 16; i++) {
            due(work(y, i % 2 == 0 ? "" : "put 0 0;"), i == 1 ? 1 : 0, "work " + i);
        }
        fault(y, 'w', "put 0 9;", -10, -1);
        due(work(y, "what"), -20, "16 works are there");
        due(y.fault(), -1, "nothing is read");
        put(y, "day;");
        illegal(y, () -> y.work(21), "work(21) of 20 bytes");
        due(y.count(1), 20, "the tape stays");
        due(y.work(4), -20, "work(4)");
        due(y.count(1), 0, "the tape is empty");
        due(y.told(3), 0, "not done");
        due(y.undo(), 15, "undo()");
        due(work(y, "day;"), 1, "there is room again");
        put(y, times(151, " "));
        illegal(y, () -> y.work(151), "work(151)");
    }

    private static void workFaults() {
        promise(5);
        TunedHouses x = three();
        fault(x, 'w', "put 3 0;", 2, 4);
        fault(x, 'w', "put 0 3;", 2, 6);
        fault(x, 'w', "take 3;", 2, 5);
        fault(x, 'w', "lay 3 0;", 2, 4);
        fault(x, 'w', "lay 0 10;", 2, 6);
        fault(x, 'w', "again 61 [];", 2, 6);
        fault(x, 'w', "day", 1, 3);
        fault(x, 'w', "day; day ", 1, 9);
        fault(x, 'w', "days;", 1, 0);
        fault(x, 'w', "day 1;", 1, 4);
        fault(x, 'w', "day;];", 1, 4);
        fault(x, 'w', "again 2 day;", 1, 8);
        fault(x, 'w', "again 2 [day];", 1, 12);
        fault(x, 'w', "again 2 [day;]", 1, 14);
        fault(x, 'w', "again 2 [day;", 1, 13);
        fault(x, 'w', "again [day;];", 1, 6);
        fault(x, 'w', "put 0;", 1, 5);
        fault(x, 'w', "day;put 0 1;house 1;", 1, 12);
        String six = times(6, "again 1 [");
        fault(x, 'w', six + "again 1 [", 3, 54);
        fault(x, 'w', six + " again", 3, 55);
        fault(x, 'w', six + "agai", 1, 54);
        due(work(x, six + "day;" + times(6, "];")), 1, "six open");
        due(work(x, "again 2 [" + times(6, "again 1 [];") + "];"), 0, "closed ones do not count");
        TunedHouses y = new TunedHouses();
        fault(y, 'w', "put 0 0;", 2, 4);
        fault(y, 'w', "take 0;", 2, 5);
    }

    private static void books() {
        promise(6);
        TunedHouses x = with(THREE);
        due(book(x, "0 10;2 16;"), 2, "book");
        due(x.told(8), 2, "lines");
        due(x.from(0, 1), 310, "by the book");
        fault(x, 'b', "61 1;", 2, 0);
        fault(x, 'b', "0 100;", 2, 2);
        fault(x, 'b', "0 1;0 0;", 2, 4);
        fault(x, 'b', "0 1;00 0;", 2, 4);
        fault(x, 'b', "0 1", 1, 3);
        fault(x, 'b', "0;", 1, 1);
        fault(x, 'b', "a 1;", 1, 0);
        fault(x, 'b', "0 1;;", 1, 4);
        String six = "0 1;1 1;2 1;3 1;4 1;5 1;";
        fault(x, 'b', six + "6 1;", 3, 24);
        fault(x, 'b', six + "6", 3, 24);
        fault(x, 'b', six + "5 1;", 2, 24);
        fault(x, 'b', six + "61 1;", 2, 24);
        fault(x, 'b', six + "x", 1, 24);
        due(x.from(0, 1), 310, "the book stays");
        due(book(x, six + "  "), 6, "six lines");
        due(book(x, "60 99 ; 0 0;" + times(48, " ")), 2, "60 bytes");
        put(x, times(61, " "));
        illegal(x, () -> x.book(61), "book(61)");
        illegal(x, () -> x.book(-1), "book(-1)");
        due(x.count(1), 80, "the tape stays");
        due(x.book(0), 0, "book(0)");
        due(x.count(1), 0, "the tape is empty");
        due(x.from(0, 0), 900, "no lines");
    }

    private static void faults() {
        promise(7);
        TunedHouses x = new TunedHouses();
        due(x.fault(), -1, "ahead of any text");
        law(x, "1 +");
        due(x.fault(), 3, "of a law");
        expect(IllegalArgumentException.class, () -> x.law(1), "law(1) of no bytes");
        due(x.fault(), 3, "a refused call reads no text");
        book(x, "0 ;");
        due(x.fault(), 2, "of a book");
        work(x, "");
        due(x.fault(), -1, "of a work without");
        terrace(x, "house x");
        due(x.fault(), 6, "of a terrace");
        terrace(x, "house 1;");
        due(x.fault(), -1, "of a terrace without");
    }

    private static void undo() {
        promise(8);
        TunedHouses x = with(THREE);
        due(x.undo(), -1, "none");
        String first = seen(x);
        work(x, "put 0 0;lay 0 3;day;");
        String second = seen(x);
        work(x, "put 0 0;");
        due(x.told(9), 1, "refused");
        due(x.undo(), 1, "undo()");
        due(x.told(9), 0, "behind undo()");
        due(seen(x).equals(second) ? 1 : 0, 1, "as it was");
        work(x, "bad");
        due(x.undo(), 0, "a faulty work is none");
        due(seen(x).equals(first) ? 1 : 0, 1, "as it was");
        due(x.told(4), 8, "sheets");
        due(x.told(10), 150, "things");
        due(x.undo(), -1, "none");
        TunedHouses full = with(THREE);
        for (int i = 0; i < 16; i++) {
            work(full, "day;");
        }
        for (int i = 15; i >= 0; i--) {
            due(full.undo(), i, "undo()");
            due(full.told(3), i, "the day");
        }
    }

    private static void told() {
        promise(9);
        TunedHouses x = three();
        int[] due = {3, 2, 3, 1, 6, 7, 0, 7, 0, 0, 154};
        for (int w = 0; w < due.length; w++) {
            due(x.told(w), due[w], "told(" + w + ")");
        }
        for (int w : new int[] {-1, 11, Integer.MIN_VALUE, Integer.MAX_VALUE}) {
            illegal(x, () -> x.told(w), "told(" + w + ")");
        }
        work(x, "again 12 [day;];");
        due(x.told(6), 1, "a wish came");
        work(x, "take 1;");
        due(x.told(5), 5, "who stands");
        due(x.told(7), 0, "none fight");
        book(x, "1 1;");
        due(x.told(8), 1, "lines");
        TunedHouses y = with("house 3;house 4;wish 0 3;");
        due(y.told(6), 1, "what it is and wishes");
        TunedHouses z = with("house 1;house 1;house 1;wall 0 1;piano 1 1;piano 2 1;piano 3 1;");
        work(z, "put 0 0;put 1 1;put 2 2;");
        due(z.told(7), 3, "those that fight");
    }

    private static void houses() {
        promise(10);
        TunedHouses x = three();
        int[][] due = {{3, 0, 2, 7, 2, 3}, {5, 1, 5, -1, 1, 5}, {3, 2, 2, 7, 1, 3}};
        for (int h = 0; h < 3; h++) {
            for (int w = 0; w < 6; w++) {
                due(x.house(h, w), due[h][w], "house(" + h + ", " + w + ")");
            }
        }
        noSuch(x, () -> x.house(3, 0), "house(3, 0)");
        noSuch(x, () -> x.house(-1, 9), "no such house ahead of others");
        illegal(x, () -> x.house(0, 6), "house(0, 6)");
        illegal(x, () -> x.house(0, -1), "house(0, -1)");
        TunedHouses little = with("house 5;piano 2 1;");
        work(little, "put 0 0;day;");
        due(little.house(0, 4), 2, "even one of it");
        TunedHouses tie = with("house 5;piano 2 5;piano 7 5;house 5;");
        work(tie, "put 0 0;put 1 1;again 10 [day;];");
        due(tie.house(0, 0), 2, "of alike ones the least");
        due(tie.house(1, 0), 5, "of alike ones the least");
        work(tie, "take 0;");
        due(tie.house(0, 1), -1, "no piano");
        promise(11);
        due(x.there(0, 7), 4, "there(0, 7)");
        due(x.there(0, 3), 50, "there(0, 3)");
        due(x.there(0, 0), 0, "there(0, 0)");
        noSuch(x, () -> x.there(3, 0), "there(3, 0)");
        noSuch(x, () -> x.there(3, 10), "there(3, 10)");
        illegal(x, () -> x.there(0, 10), "there(0, 10)");
        illegal(x, () -> x.there(0, -1), "there(0, -1)");
        promise(12);
        TunedHouses walled = with("house 1;house 1;house 1;wall 2 0;wall 0 1;");
        due(walled.wall(0, 0), 2, "A");
        due(walled.wall(0, 1), 0, "B");
        due(walled.wall(1, 0), 0, "A");
        due(walled.wall(1, 1), 1, "B");
        noSuch(walled, () -> walled.wall(2, 0), "wall(2, 0)");
        noSuch(walled, () -> walled.wall(-1, 7), "wall(-1, 7)");
        illegal(walled, () -> walled.wall(0, 2), "wall(0, 2)");
        illegal(walled, () -> walled.wall(0, -1), "wall(0, -1)");
    }

    private static void pianos() {
        promise(13);
        TunedHouses x = three();
        int[][] due = {{7, 6, 0, 0, 1, 6, 4, 2}, {5, 4, 1, 2, 1, 2, 0, 5}, {7, 2, 2, 0, 1, 2, 0, 2}};
        for (int p = 0; p < 3; p++) {
            for (int w = 0; w < 8; w++) {
                due(x.piano(p, w), due[p][w], "piano(" + p + ", " + w + ")");
            }
        }
        work(x, "take 1;");
        int[] none = {5, 4, -1, 2, 0, 0, 0, 0};
        for (int w = 0; w < 8; w++) {
            due(x.piano(1, w), none[w], "piano(1, " + w + ") that stands in none");
        }
        due(x.piano(0, 6), 6, "none fights it");
        law(x, "next + house * 10");
        due(x.piano(2, 5), 20, "none next");
        work(x, "put 1 1;");
        due(x.piano(2, 5), 21, "one next");
        due(x.piano(1, 5), 12, "two next");
        due(x.piano(1, 6), 0, "12 less 1 less 21");
        noSuch(x, () -> x.piano(3, 0), "piano(3, 0)");
        noSuch(x, () -> x.piano(-1, 8), "piano(-1, 8)");
        illegal(x, () -> x.piano(0, 8), "piano(0, 8)");
        illegal(x, () -> x.piano(0, -1), "piano(0, -1)");
        // Alike things do not fight through a wall.
        TunedHouses y = with("house 1;house 1;wall 0 1;piano 4 3;piano 4 5;");
        work(y, "put 0 0;put 1 1;");
        due(y.piano(0, 7), 0, "alike things");
        due(y.piano(0, 6), 3, "alike things");
    }

    private static void would() {
        promise(14);
        TunedHouses x = new TunedHouses();
        due(x.would(6, 2, 0, 0, 0, 0, 0, 0), 4, "strong - felt");
        due(x.would(1, 9, 0, 0, 0, 0, 0, 0), 0, "0 at least");
        law(x, "strong+felt+days/100+here/10+thing+next+house+day/100");
        due(x.would(9, 0, 999, 99, 0, 0, 0, 500), 32, "the most");
        due(x.would(9, 9, 999, 99, 9, 5, 7, 500), 40, "40 at most");
        due(x.would(1, 0, 0, 0, 0, 0, 0, 0), 1, "the least");
        int[] least = {1, 0, 0, 0, 0, 0, 0, 0};
        int[] most = {9, 9, 999, 99, 9, 5, 7, 500};
        for (int i = 0; i < 8; i++) {
            int[] low = least.clone();
            low[i]--;
            int[] high = most.clone();
            high[i]++;
            illegal(x, () -> by(x, low), "would, argument " + i + " too low");
            illegal(x, () -> by(x, high), "would, argument " + i + " too high");
        }
    }

    private static int by(TunedHouses x, int[] a) {
        return x.would(a[0], a[1], a[2], a[3], a[4], a[5], a[6], a[7]);
    }

    private static void aheadAndWhen() {
        promise(15);
        TunedHouses x = three();
        String before = seen(x);
        due(x.ahead(0, 0, 0), 3, "ahead(0, 0, 0)");
        due(x.ahead(0, 11, 0), 3, "ahead(0, 11, 0)");
        due(x.ahead(0, 12, 0), 7, "ahead(0, 12, 0)");
        due(x.ahead(0, 12, 1), 52, "ahead(0, 12, 1)");
        due(x.ahead(0, 99, 1), 99, "ahead(0, 99, 1)");
        due(seen(x).equals(before) ? 1 : 0, 1, "nothing stays changed");
        noSuch(x, () -> x.ahead(3, 0, 0), "ahead(3, 0, 0)");
        noSuch(x, () -> x.ahead(-1, 100, 9), "ahead(-1, 100, 9)");
        illegal(x, () -> x.ahead(0, -1, 0), "ahead(0, -1, 0)");
        illegal(x, () -> x.ahead(0, 100, 0), "ahead(0, 100, 0)");
        illegal(x, () -> x.ahead(0, 0, 2), "ahead(0, 0, 2)");
        illegal(x, () -> x.ahead(0, 0, -1), "ahead(0, 0, -1)");
        promise(16);
        due(x.when(0, 3), 0, "now");
        due(x.when(0, 7), 12, "in 12 days");
        due(x.when(1, 7), -1, "never");
        noSuch(x, () -> x.when(3, 0), "when(3, 0)");
        noSuch(x, () -> x.when(-1, 10), "when(-1, 10)");
        illegal(x, () -> x.when(0, 10), "when(0, 10)");
        illegal(x, () -> x.when(0, -1), "when(0, -1)");
        TunedHouses y = with("house 9;piano 1 1;");
        work(y, "put 0 0;");
        law(y, "(day - 197) * 99");
        due(y.when(0, 1), 200, "in 200 days");
        law(y, "(day - 198) * 99");
        due(y.when(0, 1), -1, "in 201 days");
        law(y, "(days / 500) * 20");
        for (int i = 0; i < 3; i++) {
            work(y, "again 60 [day;day;day;];");
        }
        due(y.told(3), 500, "day 500");
        due(y.when(0, 1), 3, "days go by beyond 500");
        due(y.ahead(0, 3, 1), 60, "days go by beyond 500");
    }

    private static void muffle() {
        promise(17);
        TunedHouses x = three();
        due(x.muffle(0), 6, "muffle(0)");
        due(x.muffle(1), 4, "whatever is in it");
        due(x.piano(1, 3), 2, "nothing stays changed");
        work(x, "take 2;");
        due(x.muffle(2), -1, "it stands in none");
        law(x, "strong - felt / 9 * 6");
        due(x.muffle(0), 9, "nine");
        law(x, "strong");
        due(x.muffle(0), -1, "never");
        law(x, "0");
        due(x.muffle(0), 0, "without any");
        law(x, "(felt - 3) * (felt - 5)");
        due(x.muffle(0), 3, "the fewest");
        noSuch(x, () -> x.muffle(3), "muffle(3)");
        noSuch(x, () -> x.muffle(-1), "muffle(-1)");
    }

    private static void places() {
        promise(18);
        TunedHouses x = with("house 1;house 1;house 1;house 1;wall 0 1;wall 1 2;piano 5 1;piano 6 1;wish 1 5;wish 2 6;wish 3 6;");
        due(x.places(), 2, "both wishes");
        promise(19);
        due(x.placed(0), 1, "placed(0)");
        due(x.placed(1), 3, "the other would fight");
        work(x, "put 0 0;");
        due(x.placed(0), 1, "were none anywhere");
        due(x.piano(0, 2), 0, "nothing stays changed");
        noSuch(x, () -> x.placed(2), "placed(2)");
        noSuch(x, () -> x.placed(-1), "placed(-1)");
        promise(18);
        TunedHouses more = with("house 1;piano 5 1;piano 5 1;");
        due(more.places(), -1, "more pianos than houses");
        due(more.placed(0), -1, "placed by none");
        TunedHouses fight = with("house 1;house 1;wall 0 1;piano 5 1;piano 6 1;");
        due(fight.places(), -1, "all fight");
        due(fight.placed(1), -1, "placed by none");
        TunedHouses calm = with("house 1;house 1;house 1;wall 0 1;piano 5 1;piano 5 1;");
        due(calm.places(), 0, "no wishes");
        due(calm.placed(0) * 10 + calm.placed(1), 1, "the first way");
        TunedHouses alike = with("house 1;house 1;house 1;piano 5 1;piano 6 1;wish 0 6;wish 1 5;wish 2 5;");
        due(alike.places(), 2, "alike ways");
        due(alike.placed(0) * 10 + alike.placed(1), 10, "piano by piano the least house");
        terrace(alike, "house 1;piano 1 1;wish 0 1;");
        due(alike.places(), 1, "a new terrace");
        due(with("house 1;").places(), 0, "no pianos");
    }

    private static void fromAndLook() {
        promise(20);
        TunedHouses x = with(THREE);
        due(x.from(0, 0), 900, "no book");
        due(x.from(0, 1), 100, "the first");
        book(x, "5 40;");
        due(x.from(1, 0), 8, "5 s + v = 40 for s to 8");
        due(x.from(1, 1), 135, "strong 1, start 35");
        book(x, "0 10;2 16;");
        due(x.from(0, 0), 1, "one");
        due(x.from(0, 1), 310, "strong 3, start 10");
        law(x, "strong + house");
        due(x.from(0, 1), 310, "house 0");
        due(x.from(1, 1), 210, "house 1");
        due(x.from(2, 1), 110, "house 2");
        law(x, "strong * (1 + felt + thing + next) + day - days");
        due(x.from(2, 1), 310, "felt, thing, next are 0");
        law(x, "strong + days + day");
        due(x.from(2, 1), 210, "2 s + 2 = 6");
        law(x, "here / 10 * strong");
        due(x.from(2, 1), 310, "by what is here");
        law(x, "strong");
        book(x, "0 0;1 1;");
        due(x.from(0, 0), 1, "the very first pair");
        due(x.from(0, 1), 100, "the very first pair");
        terrace(x, THREE);
        due(x.from(0, 0), 900, "a new terrace has no book");
        law(x, "strong");
        book(x, "0 9;1 9;");
        due(x.from(0, 0), 0, "none");
        due(x.from(0, 1), -1, "none");
        work(x, "put 0 0;put 1 1;again 9 [day;];");
        due(x.from(0, 0), 0, "whatever stands there now");
        noSuch(x, () -> x.from(3, 0), "from(3, 0)");
        noSuch(x, () -> x.from(-1, 2), "from(-1, 2)");
        illegal(x, () -> x.from(0, 2), "from(0, 2)");
        illegal(x, () -> x.from(0, -1), "from(0, -1)");
        promise(21);
        due(x.look(0, 0), 2, "in no line");
        due(x.look(0, 1), 0, "none left");
        TunedHouses y = with("house 1;");
        due(y.look(0, 0), 0, "no book");
        due(y.look(0, 1), 9, "no book");
        book(y, "0 99;");
        due(y.look(0, 0), 1, "all are 99 ever after");
        due(y.look(0, 1), 9, "all are 99 ever after");
        book(y, "1 40;");
        due(y.look(0, 0), 0, "of alike days the first");
        due(y.look(0, 1), 1, "each start is another");
        law(y, "least[day / 3, 1] * strong * 4");
        book(y, "0 0;");
        due(y.look(0, 0), 4, "on day 4 all nine are unlike");
        due(y.look(0, 1), 1, "on day 4 all nine are unlike");
        law(y, "day / 59 * strong");
        due(y.look(0, 0), 60, "only the last day parts them");
        due(y.look(0, 1), 1, "only the last day parts them");
        law(y, "0");
        due(y.look(0, 0), 1, "no day parts them");
        due(y.look(0, 1), 9, "no day parts them");
        noSuch(y, () -> y.look(1, 0), "look(1, 0)");
        noSuch(y, () -> y.look(1, 2), "look(1, 2)");
        illegal(y, () -> y.look(0, 2), "look(0, 2)");
        illegal(y, () -> y.look(0, -1), "look(0, -1)");
    }

    private static void waysAndAlone() {
        promise(22);
        TunedHouses x = with(times(8, "house 1;") + "wall 0 1;wall 1 2;wall 2 3;wall 3 4;wall 4 5;wall 5 6;wall 0 3;");
        due(x.way(0, 0), 0, "itself");
        due(x.way(0, 1), 1, "a wall");
        due(x.way(0, 2), 2, "two");
        due(x.way(0, 6), 4, "the fewest");
        due(x.way(6, 0), 4, "back");
        due(x.way(0, 7), -1, "none");
        due(x.way(7, 7), 0, "itself");
        TunedHouses row = with(times(8, "house 1;")
                + "wall 0 1;wall 1 2;wall 2 3;wall 3 4;wall 4 5;wall 5 6;wall 6 7;");
        due(row.way(7, 0), 7, "the longest");
        noSuch(x, () -> x.way(8, 0), "way(8, 0)");
        noSuch(x, () -> x.way(0, 8), "way(0, 8)");
        noSuch(x, () -> x.way(0, -1), "way(0, -1)");
        promise(23);
        due(row.alone(), 0b01010101, "the least bits");
        due(x.alone(), 0b11010101, "every other one, and the one without walls");
        due(with(times(3, "house 1;")).alone(), 7, "no walls");
        due(with(times(3, "house 1;") + "wall 0 1;wall 0 2;wall 1 2;").alone(), 1, "all walls");
        due(with(times(3, "house 1;") + "wall 0 1;wall 0 2;").alone(), 6, "not the first");
    }

    private static void price() {
        promise(24);
        TunedHouses x = new TunedHouses();
        long[][] due = {{1, 3, 2, 1}, {1, 2, 3, 2}, {2, 3, 7, 3}, {3, 2, 15, 8}, {6, 1, 1, 1}, {2, 9, 55, 9},
            {6, 9, 50452, 6561}, {4, 3, 73, 27}, {5, 6, 277, 54}, {6, 2, 127, 64}, {1, 9, 5, 1}, {2, 2, 7, 4}};
        for (long[] d : due) {
            due(x.price((int) d[0], (int) d[1], 0), d[2], "above of " + d[0] + ", " + d[1]);
            due(x.price((int) d[0], (int) d[1], 1), d[3], "below of " + d[0] + ", " + d[1]);
        }
        illegal(x, () -> x.price(0, 1, 0), "price(0, 1, 0)");
        illegal(x, () -> x.price(7, 1, 0), "price(7, 1, 0)");
        illegal(x, () -> x.price(1, 0, 0), "price(1, 0, 0)");
        illegal(x, () -> x.price(1, 10, 0), "price(1, 10, 0)");
        illegal(x, () -> x.price(1, 1, 2), "price(1, 1, 2)");
        illegal(x, () -> x.price(1, 1, -1), "price(1, 1, -1)");
    }

    private static void tuner() {
        promise(25);
        TunedHouses x = new TunedHouses();
        int[][] due = {{3, 5, 1, 0, 6}, {0, 0, 3, 0, 0}, {9, 0, 2, 0, 18}, {0, 5, 2, 0, 0}, {50, 51, 1, 0, 100},
            {99, 99, 1, 0, 198}, {1, 0, 2, 0, 2}};
        for (int[] d : due) {
            for (int w = 0; w < 3; w++) {
                due(x.tuner(d[0], d[1], w), d[2 + w], "tuner(" + d[0] + ", " + d[1] + ", " + w + ")");
            }
        }
        illegal(x, () -> x.tuner(-1, 0, 0), "tuner(-1, 0, 0)");
        illegal(x, () -> x.tuner(100, 0, 0), "tuner(100, 0, 0)");
        illegal(x, () -> x.tuner(0, -1, 0), "tuner(0, -1, 0)");
        illegal(x, () -> x.tuner(0, 100, 0), "tuner(0, 100, 0)");
        illegal(x, () -> x.tuner(0, 0, 3), "tuner(0, 0, 3)");
        illegal(x, () -> x.tuner(0, 0, -1), "tuner(0, 0, -1)");
    }

    private static void share() {
        promise(26);
        TunedHouses x = with(THREE);
        due(x.share(0, 7, 9), 3, "3 and 3 and 2");
        due(x.share(2, 7, 9), 2, "no more than that each");
        due(x.share(0, 7, 10), 4, "4 and 4 and 2");
        due(x.share(0, 7, 11), 5, "5 and 4 and 2");
        due(x.share(0, 7, 12), 6, "all");
        due(x.share(0, 7, 99), 6, "all");
        due(x.share(0, 7, 2), 0, "not even one each");
        due(x.share(0, 7, 0), 0, "none");
        due(x.share(1, 5, 9), 0, "none of them");
        due(x.share(0, 1, 5), 5, "alone");
        due(x.share(0, 0, 5), 0, "nobody told");
        noSuch(x, () -> x.share(3, 7, 9), "share(3, 7, 9)");
        noSuch(x, () -> x.share(-1, 8, 100), "share(-1, 8, 100)");
        illegal(x, () -> x.share(0, 8, 9), "bits of no pianos");
        illegal(x, () -> x.share(0, 9, 9), "bits of no pianos");
        illegal(x, () -> x.share(0, -1, 9), "bits of no pianos");
        illegal(x, () -> x.share(1, Integer.MIN_VALUE, 9), "bits of no pianos");
        illegal(x, () -> x.share(0, 7, -1), "share(0, 7, -1)");
        illegal(x, () -> x.share(0, 7, 100), "share(0, 7, 100)");
    }

    private static void thoseToOldest() {
        promise(27);
        TunedHouses x = three();
        due(x.those(3), 5, "those(3)");
        due(x.those(5), 2, "those(5)");
        due(x.those(7), 0, "those(7)");
        illegal(x, () -> x.those(10), "those(10)");
        illegal(x, () -> x.those(-1), "those(-1)");
        promise(28);
        due(x.loudest(0), 0, "loudest(0)");
        due(x.loudest(1), 6, "loudest(1)");
        work(x, "take 0;");
        due(x.loudest(0), 1, "of alike ones the first");
        due(x.loudest(1), 2, "of alike ones the first");
        law(x, "0");
        due(x.loudest(0), 1, "of no force");
        due(x.loudest(1), 0, "of no force");
        work(x, "take 1;take 2;");
        due(x.loudest(0), -1, "none stands");
        due(x.loudest(1), -1, "none stands");
        illegal(x, () -> x.loudest(2), "loudest(2)");
        illegal(x, () -> x.loudest(-1), "loudest(-1)");
        promise(29);
        TunedHouses y = with("house 3;house 5;house 3;house 1;wall 0 1;wall 1 2;piano 7 6;piano 5 4;piano 7 2;");
        due(y.quiet(0), 15, "none stands");
        work(y, "put 0 0;");
        due(y.quiet(0), 15, "its own, too");
        due(y.quiet(1), 12, "not beside it, not where it stands");
        due(y.quiet(2), 14, "alike ones do not fight");
        work(y, "put 1 1;");
        due(y.quiet(0), 8, "its own, if it fights none there");
        due(y.quiet(1), 12, "not its own, where it fights");
        due(y.piano(0, 2), 0, "nothing stays changed");
        noSuch(y, () -> y.quiet(3), "quiet(3)");
        noSuch(y, () -> y.quiet(-1), "quiet(-1)");
        promise(30);
        TunedHouses z = three();
        due(z.changed(), 0, "none yet");
        work(z, "again 12 [day;];");
        due(z.changed(), 1, "the first");
        promise(31);
        due(z.oldest(0), 0, "of alike ones the first");
        due(z.oldest(1), 13, "its days");
        work(z, "take 0;put 0 0;");
        due(z.oldest(0), 1, "oldest(0)");
        due(z.oldest(1), 13, "oldest(1)");
        work(z, "take 0;take 1;take 2;");
        due(z.oldest(0), -1, "none stands");
        due(z.oldest(1), -1, "none stands");
        work(z, "put 2 0;");
        due(z.oldest(0), 2, "of 0 days");
        due(z.oldest(1), 0, "of 0 days");
        illegal(z, () -> z.oldest(2), "oldest(2)");
        illegal(z, () -> z.oldest(-1), "oldest(-1)");
    }

    private static void emptyToTunes() {
        promise(32);
        TunedHouses x = with(THREE);
        due(x.empty(), 7, "all");
        work(x, "put 0 1;");
        due(x.empty(), 5, "all but one");
        due(with(times(8, "house 1;")).empty(), 255, "eight");
        promise(33);
        TunedHouses y = three();
        due(y.margin(0), 46, "50 and 4");
        due(y.margin(1), 50, "50 and 0");
        due(y.ahead(0, 12, 1), 52, "52 and 50");
        work(y, "again 12 [day;];");
        due(y.margin(0), 2, "52 and 50");
        TunedHouses tie = with("house 5;piano 7 5;");
        work(tie, "put 0 0;again 10 [day;];");
        due(tie.margin(0), 0, "as much");
        noSuch(y, () -> y.margin(3), "margin(3)");
        noSuch(y, () -> y.margin(-1), "margin(-1)");
        promise(34);
        TunedHouses z = three();
        due(z.tunes(0, 0), 4, "its own");
        due(z.tunes(0, 1), -1, "another one");
        due(z.tunes(1, 0), -1, "another one");
        work(z, "take 1;");
        due(z.tunes(1, 1), 0, "2 less 8");
        due(z.tunes(0, 1), 6, "alike ones");
        law(z, "strong + days * 10 + next * 3");
        due(z.tunes(0, 0), 16, "its own: by its days");
        due(z.tunes(0, 1), 9, "put there now: no days, one next");
        due(z.tunes(1, 1), 0, "10 less (19 and 15)");
        due(z.piano(0, 2), 0, "nothing stays changed");
        due(z.piano(0, 4), 1, "nothing stays changed");
        noSuch(z, () -> z.tunes(3, 0), "tunes(3, 0)");
        noSuch(z, () -> z.tunes(0, 3), "tunes(0, 3)");
        noSuch(z, () -> z.tunes(-1, 0), "tunes(-1, 0)");
        noSuch(z, () -> z.tunes(0, -1), "tunes(0, -1)");
        // A neighbour's force changes by who is next to it, once the piano has moved.
        TunedHouses w = with("house 1;house 1;house 1;wall 0 1;wall 1 2;piano 5 9;piano 6 1;");
        law(w, "strong + next * 2");
        work(w, "put 0 0;put 1 1;");
        due(w.tunes(0, 2), 8, "11 less 3");
        due(w.tunes(1, 2), 1, "none next");
    }

    private static void years() {
        promise(35);
        TunedHouses x = with("house 0;piano 4 9;wish 0 4;");
        work(x, "put 0 0;");
        due(x.year(3, 6, 0, 0), 1, "54 of it");
        due(x.year(3, 5, 0, 0), 0, "45 of it");
        due(x.year(3, 6, 0, 1), 0, "none put");
        due(x.year(3, 6, 0, 2), 104, "all there is");
        due(x.year(3, 6, 0, 3), 1, "the wish");
        due(x.told(10), 50, "nothing stays changed");
        due(x.told(3), 0, "nothing stays changed");
        due(x.year(1, 96, 16, 1), 0, "it stands there: no put");
        work(x, "take 0;");
        due(x.year(1, 96, 16, 1), 1, "put once");
        due(x.year(1, 2, 16, 2), 68, "put, then day");
        // Seed 1: 1103527590 gives 16838, then 5758, 10113, 17515, 31051, 5627.
        TunedHouses y = with("house 0;house 1;house 2;piano 4 9;piano 5 8;");
        due(y.year(1, 1, 6, 1), 0, "16838 by 16 is 6: not below 6");
        due(y.year(1, 1, 7, 1), 1, "16838 by 16 is 6: below 7");
        due(y.year(1, 1, 7, 2), 159, "5758 by 2: piano 0");
        due(y.year(1, 1, 16, 2), 159, "5758 by 2: piano 0");
        due(y.year(1, 2, 16, 1), 2, "piano 1 into 5627 by 3 is 2");
        due(y.year(1, 2, 16, 2), 150 + 18 + 8, "10113 by 3 is 0, 31051 by 2 is 1");
        for (int w : new int[] {-1, 4}) {
            illegal(y, () -> y.year(1, 1, 1, w), "year(1, 1, 1, " + w + ")");
        }
        illegal(y, () -> y.year(1, 0, 1, 0), "year(1, 0, 1, 0)");
        illegal(y, () -> y.year(1, 97, 1, 0), "year(1, 97, 1, 0)");
        illegal(y, () -> y.year(1, 1, -1, 0), "year(1, 1, -1, 0)");
        illegal(y, () -> y.year(1, 1, 17, 0), "year(1, 1, 17, 0)");
        due(with("house 1;").year(7, 96, 16, 1), 0, "no pianos");
        due(with("piano 1 1;").year(7, 96, 16, 2), 0, "no houses");
        promise(36);
        spans();
    }

    private static void spans() {
        TunedHouses x = with("house 0;house 1;house 2;wall 0 1;piano 4 9;piano 5 8;wish 0 4;");
        for (int seed : new int[] {1, 77, -5, Integer.MAX_VALUE - 2}) {
            int least = 9;
            int most = 0;
            int often = 0;
            for (int i = 0; i < 5; i++) {
                int bits = x.year(seed + i, 12, 5, 0);
                least = Math.min(least, Integer.bitCount(bits));
                most = Math.max(most, Integer.bitCount(bits));
                often += bits >> 1 & 1;
            }
            due(x.span(seed, 5, 12, 5, 0, 1), least, "the fewest");
            due(x.span(seed, 5, 12, 5, 1, 1), most, "the most");
            due(x.span(seed, 5, 12, 5, 2, 1), often, "how many");
        }
        due(x.span(3, 20, 96, 16, 1, 0) <= 3 ? 1 : 0, 1, "twenty");
        due(x.span(1, 1, 12, 5, 0, 1), Integer.bitCount(x.year(1, 12, 5, 0)), "one");
        illegal(x, () -> x.span(1, 0, 1, 1, 0, 0), "many 0");
        illegal(x, () -> x.span(1, 21, 1, 1, 0, 0), "many 21");
        illegal(x, () -> x.span(1, 1, 0, 1, 0, 0), "days 0");
        illegal(x, () -> x.span(1, 1, 97, 1, 0, 0), "days 97");
        illegal(x, () -> x.span(1, 1, 1, -1, 0, 0), "q -1");
        illegal(x, () -> x.span(1, 1, 1, 17, 0, 0), "q 17");
        illegal(x, () -> x.span(1, 1, 1, 1, 3, 0), "what 3");
        illegal(x, () -> x.span(1, 1, 1, 1, -1, 0), "what -1");
        illegal(x, () -> x.span(1, 1, 1, 1, 0, 3), "house 3");
        illegal(x, () -> x.span(1, 1, 1, 1, 1, -1), "house -1");
    }

    private static void images() {
        promise(37);
        TunedHouses x = with(THREE);
        work(x, "put 0 0;day;");
        String first = seen(x);
        due(x.image(), 1, "image()");
        work(x, "put 0 1;put 0 1;day;");
        due(x.image(), 2, "image()");
        x.undo();
        x.undo();
        due(x.image(), 3, "image()");
        due(x.image(), -1, "there are 3");
        due(x.count(0), 3, "images");
        promise(38);
        work(x, "day;day;day;lay 0 4;lay 0 4;");
        due(x.told(9), 1, "refused");
        law(x, "strong * 3");
        book(x, "1 1;");
        due(x.restore(), 2, "restore()");
        due(x.told(3), 0, "the day");
        due(x.told(9), 0, "behind restore()");
        due(x.count(2), 0, "works that can be undone");
        due(x.undo(), -1, "nothing to undo");
        due(x.restore(), 1, "restore()");
        due(x.told(3), 2, "the day");
        due(x.piano(0, 2), 1, "where it stands");
        due(x.count(2), 2, "works that can be undone");
        due(x.would(2, 1, 0, 0, 0, 0, 0, 0), 6, "no image keeps the law");
        due(x.told(8), 1, "no image keeps the book");
        due(x.undo(), 1, "undo() behind restore()");
        due(x.piano(0, 2), 0, "where it stood");
        due(x.restore(), 0, "restore()");
        law(x, "strong - felt");
        book(x, "");
        due(seen(x).equals(first) ? 1 : 0, 1, "as it was");
        due(x.told(3) * 100 + x.there(0, 7), 106, "as it was");
        due(x.undo(), 0, "undo()");
        due(x.told(3), 0, "the day");
        due(x.restore(), -1, "there is none");
        work(x, "put 0 0;put 0 0;");
        due(x.restore(), -1, "there is none");
        due(x.told(9), 1, "nothing was brought back");
        // An image's works are its own: later ones do not write over them.
        TunedHouses y = with(THREE);
        work(y, "day;");
        work(y, "put 0 0;");
        y.image();
        y.undo();
        y.undo();
        work(y, "put 1 2;");
        work(y, "again 9 [day;];");
        y.restore();
        due(y.undo(), 1, "undo()");
        due(y.told(3) * 10 + y.told(5), 10, "day 1, none stands");
        due(y.undo(), 0, "undo()");
        due(y.told(3) * 10 + y.told(5), 0, "day 0");
    }

    private static void statusAndCount() {
        promise(39);
        TunedHouses x = with(THREE);
        due(x.status(0), 0, "status(0)");
        due(x.status(1), 0, "status(1)");
        x.image();
        expect(NoSuchElementException.class, () -> x.house(9, 9), "house(9, 9)");
        expect(NoSuchElementException.class, () -> x.muffle(9), "muffle(9)");
        expect(IllegalArgumentException.class, () -> x.told(99), "told(99)");
        due(x.status(0), 2, "status(0)");
        due(x.status(1), 1, "status(1)");
        due(x.status(2), -1, "status(2)");
        due(x.status(-1), -1, "status(-1)");
        due(x.status(1), 1, "status refuses nothing");
        x.restore();
        due(x.status(0), 2, "no image keeps it");
        terrace(x, "house 1;");
        due(x.status(0), 2, "no terrace ends it");
        promise(40);
        due(x.count(0), 0, "images");
        due(x.count(1), 0, "bytes");
        due(x.count(2), 0, "works");
        x.image();
        x.image();
        work(x, "day;");
        put(x, "1234567890123456789012");
        due(x.count(0), 2, "images");
        due(x.count(1), 40, "bytes");
        due(x.count(2), 1, "works");
        due(x.count(3), -1, "count(3)");
        due(x.count(-1), -1, "count(-1)");
    }
}
