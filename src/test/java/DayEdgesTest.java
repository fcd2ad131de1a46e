/** The edges of what is and of what work does: the document's part 2, promises 8 to 13, 27 to 33, 37 and 38. */
public final class DayEdgesTest extends Checks {
    private static final String EIGHT = times(8, "house 1;");
    private static final String PAIR = "house 1;house 2;wall 0 1;piano 3 5;piano 4 5;";

    public static void main(String[] args) {
        atFirst();
        stepsInOrder();
        twoHundredSteps();
        put();
        take();
        lay();
        dayFiveHundred();
        daysBring();
        dayBegins();
        fights();
        brings();
        houseIs();
        undo();
        told();
        house();
        thereAndWall();
        piano();
        thoseAndLoudest();
        quiet();
        changedToMargin();
        images();
        finish("DayEdgesTest");
    }

    // ---- part 2: steps ----

    private static void atFirst() {
        says(0, "It is DAY 0 at first, no PIANO stands in a HOUSE, no felt is in any.");
        for (TunedHouses x : new TunedHouses[] {with(THREE), fine('t', THREE, 3)}) {
            due(x.told(3), 0, "the day");
            due(x.told(5), 0, "who stands");
            due(x.empty(), 7, "empty()");
            due(x.told(4), 8, "sheets left");
            for (int p = 0; p < 3; p++) {
                due(x.piano(p, 2), NONE, "the house of piano " + p);
                due(x.piano(p, 3), 0, "sheets in piano " + p);
                due(x.piano(p, 4), 0, "days of piano " + p);
            }
        }
    }

    private static void stepsInOrder() {
        says(0, "STEPS are done in order; one that can't be done is REFUSED, and changes nothing");
        TunedHouses x = with(PAIR, "put 0 1;take 0;put 0 0;put 1 1;day;");
        due(x.piano(0, 2), 0, "the last put counts");
        due(x.piano(0, 4), 1, "its days");
        TunedHouses y = busy();
        due(work(y, "put 0 0;put 0 1;put 1 2;take 2;put 2 2;lay 1 2;lay 0 9;"), 2, "two of seven");
        due(y.told(9), 5, "five of seven");
        due(y.undo(), 2, "undo()");
        TunedHouses z = busy();
        due(work(z, "put 0 0;put 0 1;put 1 2;put 2 0;lay 1 2;lay 0 9;lay 0 0;"), 0, "all refused");
        due(z.told(9), 7, "all refused");
        due(z.undo(), 2, "a work of refused steps can be undone");
        TunedHouses same = busy();
        work(same, "");
        same.undo();
        alike(allOf(z), allOf(same), "refused steps change nothing");
        TunedHouses before = busy();
        work(before, "");
        TunedHouses after = busy();
        work(after, "put 0 0;lay 1 2;lay 0 9;put 2 1;");
        for (int p = 0; p < 3; p++) {
            for (int w = 0; w <= 7; w++) {
                due(after.piano(p, w), before.piano(p, w), "piano(" + p + ", " + w + ") behind refused steps");
            }
        }
        due(after.told(4), before.told(4), "sheets left behind refused steps");
        due(after.told(3), before.told(3), "the day behind refused steps");
    }

    private static void twoHundredSteps() {
        says(0, "200 STEPS at most are begun by one WORK (an again, too, each time it is come to; REFUSED ones, too)");
        TunedHouses x = with(PAIR);
        due(work(x, "again 60 [day;day;day;];again 17 [day;];"), 197, "60 times 3 and 17, with two agains 199");
        due(x.told(3), 197, "the day");
        due(work(with(PAIR), "again 60 [day;day;day;];again 18 [day;];"), 198, "200 are begun");
        due(work(with(PAIR), "again 60 [day;day;day;];again 19 [day;];"), 198, "the 201st is left out");
        due(work(with(PAIR), "again 60 [day;day;day;day;];"), 199, "one again, 199 days");
        due(work(with(PAIR), "again 60 [again 60 [again 60 [day;];];];"), 194, "1, 1, then 61 for 60 days each");
        TunedHouses y = with(PAIR);
        due(work(y, "again 60 [take 0;take 0;take 0;];again 17 [take 0;];day;"), 1, "refused ones: the 200th is the day");
        due(y.told(9), 197, "refused");
        TunedHouses z = with(PAIR);
        due(work(z, "again 60 [take 0;take 0;take 0;];again 18 [take 0;];day;"), 0, "refused ones: the 201st is the day");
        due(z.told(9), 198, "refused");
        due(z.told(3), 0, "the day is left out");
        due(work(with(PAIR), "again 60 [again 0 [];again 0 [];again 0 [];];again 17 [again 9 [];];day;"), 1, "agains alone");
        due(work(with(PAIR), "again 60 [again 0 [];again 0 [];again 0 [];];again 18 [again 9 [];];day;"), 0, "agains alone");
        says(0, "what would come behind is left out.");
        TunedHouses left = with(PAIR);
        due(work(left, "again 60 [day;day;day;day;];put 0 0;take 1;"), 199, "neither done");
        due(left.told(9), 0, "nor refused");
        due(left.told(5), 0, "nor in any way there");
        due(work(left, "again 60 [day;day;day;day;];"), 199, "the next work begins anew");
        TunedHouses inside = with(PAIR);
        due(work(inside, "again 60 [put 0 0;take 0;day;put 1 1;take 1;];"), 199, "in the midst of a turn");
        due(inside.told(3), 40, "40 turns of five, the last without its end");
        due(inside.told(5), 2, "the last take is left out");
    }

    private static void put() {
        says(0, "put: P stands in H from now on, days 0, from wherever (REFUSED, if any stands there, it too).");
        TunedHouses x = with(PAIR + "house 3;", "put 0 0;day;day;");
        due(x.piano(0, 4), 2, "days");
        due(work(x, "put 0 1;"), 1, "from another house");
        due(x.piano(0, 2), 1, "where it stands");
        due(x.piano(0, 4), 0, "days 0");
        due(x.house(0, 1), NONE, "it stands there no more");
        due(x.house(1, 1), 0, "it stands here");
        work(x, "day;");
        due(work(x, "put 0 1;"), 0, "where it stands: refused");
        due(x.told(9), 1, "where it stands: refused");
        due(x.piano(0, 4), 1, "its days go on");
        due(work(x, "put 1 1;"), 0, "where another stands: refused");
        due(x.piano(1, 2), NONE, "where another stands: refused");
        due(work(x, "put 1 2;put 1 1;"), 1, "from a house to where another stands");
        due(x.piano(1, 2), 2, "it stays");
        due(work(x, "put 0 0;put 1 1;"), 2, "the house that was left is free");
        due(work(x, "lay 0 3;put 0 2;"), 2, "felt goes with it");
        due(x.piano(0, 3), 3, "felt goes with it");
    }

    private static void take() {
        says(0, "take: it stands in none (REFUSED, if it does).");
        TunedHouses x = with(PAIR, "put 0 0;lay 0 4;day;");
        due(work(x, "take 0;"), 1, "take");
        due(x.piano(0, 2), NONE, "it stands in none");
        due(x.piano(0, 4), 0, "days");
        due(x.piano(0, 3), 4, "its felt stays in it");
        due(x.told(4), 8, "its felt stays in it");
        due(work(x, "take 0;"), 0, "once more");
        due(x.told(9), 1, "once more");
        due(work(x, "take 1;"), 0, "one that never stood");
        due(work(x, "day;put 0 0;"), 2, "put again");
        due(x.piano(0, 4), 0, "days from now on");
        TunedHouses six = with(EIGHT + times(6, "piano 2 1;") + "felt 40;",
                "put 0 0;put 1 1;put 2 2;put 3 3;put 4 4;put 5 5;lay 0 3;lay 1 4;lay 2 5;lay 3 6;lay 4 7;lay 5 8;day;");
        work(six, "take 5;take 3;take 1;");
        for (int p = 0; p < 6; p++) {
            due(six.piano(p, 2), p % 2 == 0 ? p : NONE, "the house of piano " + p);
            due(six.piano(p, 4), p % 2 == 0 ? 1 : 0, "days of piano " + p);
            due(six.piano(p, 3), p + 3, "sheets in piano " + p);
        }
        due(six.told(5), 0b010101, "who stands");
    }

    private static void lay() {
        says(0, "(REFUSED, if it is so, or if fewer are left than there would be more).");
        TunedHouses x = with("piano 1 1;piano 2 2;felt 9;");
        due(work(x, "lay 0 0;"), 0, "0 are in it");
        due(work(x, "lay 0 9;"), 1, "all that are left");
        due(x.told(4), 0, "none is left");
        due(work(x, "lay 0 9;"), 0, "9 are in it");
        due(work(x, "lay 1 1;"), 0, "none is left");
        due(x.told(9), 1, "none is left");
        due(work(x, "lay 0 8;"), 1, "one less");
        due(x.told(4), 1, "one is left");
        due(work(x, "lay 1 2;"), 0, "two of one");
        due(work(x, "lay 1 1;"), 1, "one of one");
        due(work(x, "lay 0 7;lay 1 3;"), 1, "two more of one that is left");
        due(work(x, "lay 1 2;"), 1, "one more of one that is left");
        due(x.told(4), 0, "none is left");
        due(work(x, "lay 1 0;lay 0 9;"), 2, "what is taken out can be laid in");
        due(x.told(4), 0, "none is left");
        TunedHouses none = with("piano 1 1;felt 0;");
        due(work(none, "lay 0 1;"), 0, "there is no felt");
        TunedHouses most = with(times(6, "piano 1 1;") + "felt 40;");
        due(work(most, "lay 0 9;lay 1 9;lay 2 9;lay 3 9;lay 4 5;lay 5 4;"), 5, "40 sheets");
        due(most.told(4), 4 - 4, "4 times 9, and 4");
        due(most.piano(4, 3), 0, "5 of 4 were refused");
    }

    // ---- part 2: days ----

    private static TunedHouses onDay(int day, String terrace, String work) {
        TunedHouses x = with(terrace, work);
        int left = day;
        while (left > 0) {
            int some = Math.min(left, 180);
            String more = some >= 3 ? "again " + some / 3 + " [day;day;day;];" : "";
            due(work(x, more + times(some % 3, "day;")), some, "days");
            left -= some;
        }
        return x;
    }

    private static void dayFiveHundred() {
        says(0, "day (REFUSED on DAY 500)");
        TunedHouses x = onDay(499, PAIR, "put 0 0;");
        due(x.told(3), 499, "day 499");
        due(work(x, "day;"), 1, "on day 499");
        due(x.told(3), 500, "day 500");
        due(x.piano(0, 4), 500, "days");
        due(work(x, "day;"), 0, "on day 500");
        due(x.told(9), 1, "on day 500");
        due(x.told(3), 500, "day 500");
        due(x.piano(0, 4), 500, "days");
        due(work(x, "again 60 [day;];take 0;put 0 1;lay 0 1;"), 3, "other steps are done");
        due(x.told(9), 60, "days are refused");
        due(x.undo() > 0 ? 1 : 0, 1, "undo()");
        due(x.undo() > 0 ? 1 : 0, 1, "undo()");
        due(x.undo() > 0 ? 1 : 0, 1, "undo()");
        due(x.told(3), 499, "the day is undone");
        due(work(x, "day;day;"), 1, "one of two");
        TunedHouses bringing = onDay(500, "house 1;piano 3 1;", "");
        work(bringing, "put 0 0;day;");
        due(bringing.there(0, 3), 0, "a day that is refused brings nothing");
    }

    private static void daysBring() {
        says(0, "of each PIANO's THING there is more in its HOUSE by what it BRINGS (99 at most), all as the DAY begins");
        TunedHouses x = with("house 1;piano 3 9;", "put 0 0;again 10 [day;];");
        due(x.there(0, 3), 90, "90");
        due(work(x, "day;"), 1, "day");
        due(x.there(0, 3), 99, "99 exactly");
        work(x, "day;");
        due(x.there(0, 3), 99, "99 at most");
        TunedHouses y = with("house 1;piano 3 8;", "put 0 0;again 12 [day;];");
        due(y.there(0, 3), 96, "96");
        work(y, "day;");
        due(y.there(0, 3), 99, "not 104");
        due(y.there(0, 1), 50, "of others nothing");
        TunedHouses own = with("house 3;piano 3 7;", "put 0 0;again 7 [day;];");
        due(own.there(0, 3), 99, "50 and 49");
        due(own.told(10), 99, "all there is");
        TunedHouses one = with("house 1;house 1;piano 3 1;piano 9 9;", "put 0 1;day;");
        due(one.there(1, 3), 1, "in its house");
        due(one.there(0, 3), 0, "not in another");
        due(one.told(10), 101, "one that stands in none brings nothing");
        says(0, "\"here\" (how much there is of its THING in that HOUSE)");
        TunedHouses here = with("house 3;house 1;piano 3 9;piano 1 9;piano 4 9;", "put 0 0;put 1 1;");
        law(here, "here/3");
        due(here.piano(0, 5) * 100 + here.piano(1, 5), 1616, "50 of it");
        work(here, "put 2 0;take 0;put 2 0;");
        due(here.piano(2, 5), 0, "none of it");
        law(here, "here/3+1");
        work(here, "day;day;day;");
        due(here.there(0, 4), 3, "once 1, then 1, then 1");
        due(here.piano(2, 5), 2, "3 of it");
        work(here, "again 60 [day;];");
        due(here.piano(2, 5), 34, "99 of it");
        says(0, "each that stands in a HOUSE has stood there a day longer; the DAY is one more.");
        due(one.piano(0, 4), 1, "it stands");
        due(one.piano(1, 4), 0, "it stands in none");
        due(one.told(3), 1, "the day");
        TunedHouses still = with("house 1;piano 3 1;felt 9;", "put 0 0;lay 0 9;day;");
        due(still.piano(0, 4), 1, "one that brings nothing, too");
        due(work(new TunedHouses(), "day;"), 1, "a day without houses");
    }

    /** Two that fight; were the first one's day done ahead of the second's, it would have no force any more. */
    private static void dayBegins() {
        says(0, "all as the DAY begins");
        for (String law : new String[] {"strong*10-here*40", "strong*10-days*40", "strong*(10-day*40)"}) {
            TunedHouses x = with("house 1;house 2;wall 0 1;piano 3 3;piano 4 2;", "put 0 0;put 1 1;");
            law(x, law);
            work(x, "day;");
            due(x.there(0, 3), 10, "30 less 20 by " + law);
            due(x.there(1, 4), 0, "20 less 30 by " + law);
            TunedHouses y = with("house 1;house 2;wall 0 1;piano 3 2;piano 4 3;", "put 0 0;put 1 1;");
            law(y, law);
            work(y, "day;");
            due(y.there(0, 3), 0, "20 less 30 by " + law);
            due(y.there(1, 4), 10, "30 less 20 by " + law);
        }
    }

    private static void fights() {
        says(0, "Two PIANOS FIGHT, if a WALL is between their HOUSES and their THINGS are unlike.");
        TunedHouses x = with("house 1;house 1;house 1;wall 1 0;wall 1 2;piano 3 5;piano 4 5;piano 5 5;piano 3 1;",
                "put 0 0;put 1 1;put 2 2;");
        due(x.piano(0, 7), 2, "through one wall");
        due(x.piano(1, 7), 5, "on both sides, whichever house of the wall");
        due(x.piano(2, 7), 2, "not through two walls");
        due(x.piano(3, 7), 0, "it stands in none");
        due(x.told(7), 7, "all that fight");
        work(x, "take 1;put 3 1;");
        due(x.piano(0, 7), 0, "alike things");
        due(x.piano(3, 7), 4, "unlike things");
        due(x.piano(2, 7), 8, "unlike things");
        due(x.told(7), 12, "all that fight");
        TunedHouses apart = with("house 1;house 1;piano 3 5;piano 4 5;", "put 0 0;put 1 1;");
        due(apart.piano(0, 7) + apart.piano(1, 7) + apart.told(7), 0, "no wall");
        TunedHouses ends = with("house 1;house 1;wall 0 1;piano 0 5;piano 9 5;", "put 0 0;put 1 1;");
        due(ends.told(7), 3, "things 0 and 9");
        TunedHouses quiet = with("house 1;house 1;wall 0 1;piano 0 1;piano 9 1;", "lay 0 9;put 0 0;put 1 1;");
        due(quiet.told(7), 3, "one of no force fights, too");
    }

    private static void brings() {
        says(0, "BRINGS: its FORCE less the FORCE of all it FIGHTS, 0 at least (0: it stands in none).");
        String row = "house 1;house 1;house 1;wall 0 1;wall 1 2;";
        TunedHouses x = with(row + "piano 3 3;piano 4 7;piano 5 3;", "put 0 0;put 1 1;put 2 2;");
        due(x.piano(1, 6), 1, "7 less 3 less 3");
        due(x.piano(0, 6), 0, "3 less 7");
        TunedHouses y = with(row + "piano 3 3;piano 4 6;piano 5 3;", "put 0 0;put 1 1;put 2 2;");
        due(y.piano(1, 6), 0, "6 less 3 less 3");
        TunedHouses z = with(row + "piano 3 3;piano 4 5;piano 5 3;", "put 0 0;put 1 1;put 2 2;");
        due(z.piano(1, 6), 0, "5 less 3 less 3");
        work(z, "day;");
        due(z.told(10), 150, "nothing was brought, nothing is less");
        due(with(row + "piano 3 3;").piano(0, 6), 0, "it stands in none");
        TunedHouses most = with(PAIR, "put 0 0;");
        law(most, "999");
        due(most.piano(0, 6), 40, "40 at most is its force");
        work(most, "put 1 1;");
        due(most.piano(0, 6), 0, "40 less 40");
        TunedHouses low = with(PAIR, "put 0 0;put 1 1;");
        law(low, "3-thing*10+thing/4*40");
        due(low.piano(1, 6), 3, "a force below 0 is 0, and no gain to whom it fights");
    }

    private static void houseIs() {
        says(0, "A HOUSE IS the THING of which there is most in it, of alike ones the least.");
        TunedHouses x = with("house 5;house 5;piano 2 5;piano 8 5;", "put 0 0;put 1 1;again 9 [day;];");
        due(x.house(0, 0), 5, "45 of 2, 50 of 5");
        due(x.house(1, 0), 5, "50 of 5, 45 of 8");
        work(x, "day;");
        due(x.house(0, 0), 2, "50 of 2, 50 of 5");
        due(x.house(1, 0), 5, "50 of 5, 50 of 8");
        work(x, "day;");
        due(x.house(0, 0), 2, "55 of 2, 50 of 5");
        due(x.house(1, 0), 8, "50 of 5, 55 of 8");
        TunedHouses ends = with("house 9;house 0;piano 0 5;piano 9 5;", "put 0 0;put 1 1;again 10 [day;];");
        due(ends.house(0, 0), 0, "50 of 0, 50 of 9");
        due(ends.house(1, 0), 0, "50 of 0, 50 of 9");
        work(ends, "day;");
        due(ends.house(1, 0), 9, "50 of 0, 55 of 9");
        TunedHouses beside = with("house 9;house 5;house 0;piano 9 9;piano 0 9;", "put 0 0;put 1 2;again 5 [day;];");
        due(beside.there(0, 9) * 100 + beside.there(2, 0), 9595, "95 in the houses on both sides");
        due(beside.house(1, 0), 5, "what there is in other houses does not count");
        due(beside.margin(1), 50, "what there is in other houses does not count");
        due(beside.house(1, 4), 1, "what there is in other houses does not count");
    }

    // ---- promises 8 to 13 ----

    private static void undo() {
        says(8, "The latest WORK that was done is undone: how many are left; -1: there is none.");
        TunedHouses x = with(THREE);
        due(x.undo(), -1, "there is none");
        due(x.undo(), -1, "there is none");
        alike(allOf(x), allOf(with(THREE)), "nothing is changed");
        TunedHouses y = with(THREE);
        String[] seen = new String[17];
        for (int i = 0; i < 16; i++) {
            seen[i] = brief(y);
            work(y, i % 4 == 0 ? "put 0 0;put 1 1;lay 0 3;day;" : i % 4 == 1 ? "day;day;" : i % 4 == 2 ? "take 0;lay 0 1;" : "");
        }
        due(work(y, "dog"), -20, "full");
        for (int i = 15; i >= 0; i--) {
            due(y.undo(), i, "undo()");
            alike(brief(y), seen[i], "ahead of work " + i);
        }
        due(y.undo(), -1, "there is none");
        due(y.status(0) + y.status(1), 0, "that is no refusal");
        TunedHouses z = with(THREE, "put 0 0;");
        due(work(z, "dog"), -9, "not done");
        due(z.undo(), 0, "the latest that was done");
        due(z.told(5), 0, "the latest that was done");
        TunedHouses felt = with(THREE, "lay 0 8;");
        felt.undo();
        due(felt.told(4), 8, "sheets come back");
        due(work(felt, "lay 1 8;"), 1, "sheets come back");
    }

    private static String brief(TunedHouses x) {
        StringBuilder b = new StringBuilder();
        for (int w : new int[] {3, 4, 5, 10}) {
            b.append(x.told(w)).append(' ');
        }
        return b.append(x.piano(0, 2)).append(' ').append(x.piano(0, 3)).append(' ').append(x.piano(0, 4)).toString();
    }

    private static void told() {
        says(9, "0 HOUSES, 1 WALLS, 2 PIANOS, 3 the DAY, 4 sheets that are left");
        TunedHouses full = with(EIGHT + "wall 0 1;wall 0 2;wall 0 3;wall 0 4;wall 0 5;wall 0 6;wall 0 7;wall 1 2;"
                + "wall 1 3;wall 1 4;wall 1 5;wall 1 6;" + times(6, "piano 1 9;") + "felt 40;"
                + "wish 0 1;wish 1 1;wish 2 1;wish 3 1;wish 4 1;wish 5 1;wish 6 1;wish 7 1;");
        due(full.told(0) * 10000 + full.told(1) * 100 + full.told(2), 81206, "the most");
        due(full.told(4), 40, "the most");
        says(9, "5 PIANOS that stand in a HOUSE (bits), 6 HOUSES that are what they wish for (bits; those without a wish are not)");
        due(full.told(6), 255, "all eight");
        due(full.told(5), 0, "none");
        work(full, "put 0 7;put 1 6;put 2 5;put 3 4;put 4 3;put 5 2;");
        due(full.told(5), 63, "all six");
        due(full.empty(), 3, "two are empty");
        says(9, "7 PIANOS that FIGHT (bits)");
        due(full.told(7), 0, "alike ones fight none");
        TunedHouses ring = with(times(6, "house 1;") + "wall 0 1;wall 1 2;wall 2 3;wall 3 4;wall 4 5;piano 1 1;piano 2 1;piano 1 1;"
                + "piano 2 1;piano 1 1;piano 2 1;", "put 0 0;put 1 1;put 2 2;put 3 3;put 4 4;put 5 5;");
        due(ring.told(7), 63, "all six");
        TunedHouses wish = with("house 0;house 0;house 3;wish 1 1;wish 2 3;");
        due(wish.told(6), 4, "one without a wish is not, one of another thing is not");
        due(with("house 0;").told(6), 0, "one without a wish is not");
        due(with("house 0;wish 0 0;").told(6), 1, "thing 0");
        says(9, "8 lines of the BOOK");
        due(with(THREE).told(8), 0, "without");
        due(fine('b', "0 1;1 1;2 1;3 1;4 1;5 1;", 6).told(8), 6, "the most");
        says(9, "9 STEPS REFUSED by the latest WORK (0 ahead of any, behind undo(), restore())");
        TunedHouses x = with(THREE);
        due(x.told(9), 0, "ahead of any");
        work(x, "take 0;take 0;");
        due(x.told(9), 2, "two");
        x.image();
        due(x.told(9), 2, "an image changes nothing");
        work(x, "take 0;day;");
        due(x.told(9), 1, "of the latest");
        work(x, "dog");
        due(x.told(9), 1, "one with a fault was not done");
        due(x.undo(), 1, "undo()");
        due(x.told(9), 0, "behind undo()");
        work(x, "take 0;take 0;take 0;");
        due(x.told(9), 3, "three");
        due(x.restore(), 0, "restore()");
        due(x.told(9), 0, "behind restore()");
        work(x, "day;");
        due(x.told(9), 0, "none was refused");
        says(9, "10 all there is of all THINGS.");
        due(new TunedHouses().told(10), 0, "nothing");
        due(full.told(10), 400, "eight houses");
        work(full, "again 60 [day;];");
        due(full.told(10), 6 * 99 + 100, "six are full");
    }

    private static void house() {
        says(10, "0 the THING it IS, 1 the PIANO in it (NONE), 2 HOUSES through a WALL (bits), 3 what they wish for (NONE)");
        TunedHouses x = with(EIGHT + "wall 7 0;wall 1 7;wall 7 2;wall 3 7;wall 7 4;wall 5 7;wall 7 6;" + times(6, "piano 2 1;")
                + "wish 7 0;", "put 5 7;");
        due(x.house(7, 0), 1, "as told");
        due(x.house(7, 1), 5, "the last piano in the last house");
        due(x.house(6, 1), NONE, "none");
        work(x, "take 5;put 0 7;");
        due(x.house(7, 1), 0, "piano 0");
        due(x.house(7, 2), 127, "all others");
        due(x.house(6, 2), 128, "the last");
        due(with("house 1;").house(0, 2), 0, "no walls");
        due(x.house(7, 3), 0, "thing 0");
        due(x.house(6, 3), NONE, "no wish");
        says(10, "4 how many THINGS there is anything of, 5 the THING as told.");
        TunedHouses y = with("house 4;piano 4 1;piano 0 1;piano 9 1;");
        due(y.house(0, 4), 1, "one");
        work(y, "put 0 0;day;");
        due(y.house(0, 4), 1, "more of the same");
        work(y, "put 1 0;take 0;put 1 0;day;");
        due(y.house(0, 4), 2, "even one of thing 0");
        work(y, "take 1;put 2 0;again 60 [day;];");
        due(y.house(0, 4), 3, "thing 9, too");
        due(y.house(0, 0) * 10 + y.house(0, 5), 94, "it is 9, as told it was 4");
        TunedHouses all = with("house 0;piano 1 1;piano 2 1;piano 3 1;piano 4 1;piano 5 1;piano 6 1;");
        for (int p = 0; p < 6; p++) {
            work(all, "put " + p + " 0;day;take " + p + ";");
        }
        due(all.house(0, 4), 7, "one told and six brought");
    }

    private static void thereAndWall() {
        says(11, "How much there is of a THING (0 to 9) in a HOUSE.");
        TunedHouses x = with(times(7, "house 0;") + "house 9;piano 0 9;", "put 0 7;again 60 [day;];");
        due(x.there(0, 0), 50, "thing 0 in the first");
        due(x.there(7, 9), 50, "thing 9 in the last");
        due(x.there(7, 0), 99, "the most");
        due(x.there(0, 9), 0, "the least");
        says(12, "Of a WALL: 0 A, 1 B.");
        TunedHouses y = with("house 0;house 0;house 0;wall 2 1;wall 0 2;");
        due(y.wall(0, 0) * 10 + y.wall(0, 1), 21, "A and B as told");
        due(y.wall(1, 0) * 10 + y.wall(1, 1), 2, "A and B as told");
    }

    private static void piano() {
        says(13, "2 the HOUSE (NONE), 3 sheets in it, 4 days (0: none), 5 FORCE (0: none), 6 what it BRINGS, 7 PIANOS it FIGHTS");
        TunedHouses x = with(PAIR, "lay 0 2;put 0 0;put 1 1;day;");
        law(x, "7");
        int[] stands = {3, 5, 0, 2, 1, 7, 0, 2};
        for (int w = 0; w <= 7; w++) {
            due(x.piano(0, w), stands[w], "piano(0, " + w + ") that stands");
        }
        work(x, "take 0;");
        int[] none = {3, 5, NONE, 2, 0, 0, 0, 0};
        for (int w = 0; w <= 7; w++) {
            due(x.piano(0, w), none[w], "piano(0, " + w + ") that stands in none");
        }
        due(x.piano(1, 7), 0, "one that stands in none is fought by none");
        due(x.piano(1, 6), 7, "one that stands in none is fought by none");
    }

    // ---- promises 27 to 33 ----

    private static void thoseAndLoudest() {
        says(27, "HOUSES (bits) that are a THING (0 to 9).");
        TunedHouses x = with("house 0;house 9;house 0;house 5;house 9;house 5;house 5;house 9;");
        due(x.those(0), 0b00000101, "thing 0");
        due(x.those(9), 0b10010010, "thing 9");
        due(x.those(5), 0b01101000, "thing 5");
        due(x.those(1), 0, "none");
        due(with(EIGHT).those(1), 255, "all");
        says(28, "The PIANO of most FORCE (what 0), of alike ones the first, its FORCE (1); NONE both: none stands in a HOUSE.");
        TunedHouses y = with("house 1;house 1;house 1;house 1;piano 1 9;piano 2 4;piano 3 6;piano 4 6;");
        due(y.loudest(0), NONE, "none stands");
        due(y.loudest(1), NONE, "none stands");
        work(y, "put 1 3;put 3 1;put 2 2;");
        due(y.loudest(0), 2, "of alike ones the first; one that stands in none is not");
        due(y.loudest(1), 6, "its force");
        work(y, "put 0 0;");
        due(y.loudest(0) * 10 + y.loudest(1), 9, "the strongest");
        law(y, "0");
        due(y.loudest(0), 0, "all of force 0: the first that stands");
        due(y.loudest(1), 0, "of force 0");
        law(y, "9-strong");
        due(y.loudest(0) * 10 + y.loudest(1), 15, "by the law");
        TunedHouses last = with("house 1;" + times(6, "piano 1 1;"), "put 5 0;lay 5 1;");
        due(last.loudest(0), 5, "the last one, of force 0");
        due(last.loudest(1), 0, "the last one, of force 0");
        says(31, "The PIANO that stands longest where it stands (what 0), of alike ones the first, its days (1); NONE both: none "
                + "stands in a HOUSE.");
        TunedHouses z = with("house 1;house 1;house 1;house 1;piano 1 9;piano 2 4;piano 3 6;piano 4 6;");
        due(z.oldest(0), NONE, "none stands");
        due(z.oldest(1), NONE, "none stands");
        work(z, "put 2 0;");
        due(z.oldest(0), 2, "of 0 days");
        due(z.oldest(1), 0, "of 0 days");
        work(z, "put 3 1;put 1 2;day;");
        due(z.oldest(0) * 10 + z.oldest(1), 11, "of alike ones the first");
        work(z, "put 1 3;day;");
        due(z.oldest(0) * 10 + z.oldest(1), 22, "where it stands: one that moved is younger");
        work(z, "take 2;take 3;");
        due(z.oldest(0) * 10 + z.oldest(1), 11, "one that stands in none is not");
        work(z, "take 1;");
        due(z.oldest(0), NONE, "none stands");
        due(z.oldest(1), NONE, "none stands");
        TunedHouses six = with("house 1;" + times(6, "piano 1 1;") + "felt 40;", "lay 0 3;lay 5 2;day;");
        due(six.oldest(0), NONE, "none of six stands");
        due(six.loudest(0), NONE, "none of six stands");
        work(six, "put 0 0;day;");
        due(six.oldest(0) * 10 + six.oldest(1), 1, "the first of six");
        work(six, "take 0;put 5 0;day;");
        due(six.oldest(0) * 10 + six.oldest(1), 51, "the last of six");
    }

    private static void quiet() {
        says(29, "HOUSES (bits) in which a PIANO could be put now and FIGHT none (its own, if it stands in one, too, if it FIGHTS "
                + "none there).");
        TunedHouses x = with(EIGHT + "wall 0 1;wall 1 2;wall 2 3;piano 3 1;piano 4 1;piano 3 9;");
        due(x.quiet(0), 255, "all are empty");
        work(x, "put 0 0;");
        due(x.quiet(0), 255, "its own, too");
        due(x.quiet(1), 0b11111100, "neither there nor beside it");
        due(x.quiet(2), 0b11111110, "beside an alike one, but not there");
        work(x, "put 1 1;");
        due(x.quiet(0), 0b11111000, "not its own, where it fights");
        due(x.quiet(1), 0b11111100, "not its own; where it stands it does not count against itself");
        work(x, "put 1 3;");
        due(x.quiet(1), 0b11111100, "its own: it fights none there");
        work(x, "take 1;put 1 2;");
        due(x.quiet(2), 0b11110000, "not beside that one");
        due(with("piano 1 1;").quiet(0), 0, "there are no houses");
    }

    private static void changedToMargin() {
        says(30, "HOUSES (bits) that are another THING than was told.");
        TunedHouses x = with(times(7, "house 5;") + "house 5;piano 2 5;piano 8 5;piano 5 5;", "put 0 0;put 1 7;put 2 3;");
        due(x.changed(), 0, "none");
        work(x, "again 9 [day;];");
        due(x.changed(), 0, "45 and 50");
        work(x, "day;");
        due(x.changed(), 1, "50 of 2 and 50 of 5; 50 of 5 and 50 of 8");
        work(x, "day;");
        due(x.changed(), 129, "the first and the last; more of the same is no change");
        says(32, "HOUSES (bits) in which no PIANO stands.");
        due(new TunedHouses().empty(), 0, "no houses");
        due(with(EIGHT).empty(), 255, "all");
        due(x.empty(), 0b01110110, "but three");
        TunedHouses none = with("house 1;piano 1 1;", "put 0 0;");
        due(none.empty(), 0, "none");
        work(none, "take 0;");
        due(none.empty(), 1, "again");
        says(33, "How much more there is in a HOUSE of the THING it IS than of the one of which there is most but that (0: as much).");
        TunedHouses y = with("house 5;piano 2 5;piano 8 4;", "");
        due(y.margin(0), 50, "50 and 0");
        work(y, "put 0 0;again 9 [day;];");
        due(y.margin(0), 5, "50 and 45");
        work(y, "day;");
        due(y.margin(0), 0, "as much");
        work(y, "day;");
        due(y.margin(0), 5, "55 and 50");
        work(y, "take 0;put 1 0;again 13 [day;];");
        due(y.margin(0), 3, "55 and 52, not 50");
        work(y, "again 60 [day;];");
        due(y.margin(0), 44, "99 and 55");
        due(with("house 0;").margin(0), 50, "thing 0");
        due(with("house 9;").margin(0), 50, "thing 9");
    }

    // ---- promises 37 and 38 ----

    private static void images() {
        says(37, "An IMAGE of all that WORK changes, and of WORKS that can be undone: how many there are; -1: there are 3.");
        TunedHouses x = with(THREE);
        due(x.image(), 1, "one");
        work(x, "put 0 0;lay 0 2;day;");
        due(x.image(), 2, "two");
        work(x, "put 0 1;take 0;lay 0 1;day;put 1 2;");
        due(x.image(), 3, "three");
        work(x, "day;");
        due(x.image(), -1, "there are 3");
        due(x.image(), -1, "there are 3");
        due(x.count(0), 3, "three");
        due(x.status(0) + x.status(1), 0, "that is no refusal");
        says(38, "All that is as in the latest IMAGE, which is gone: how many are left; -1: there is none.");
        due(x.restore(), 2, "the third");
        due(x.told(3), 2, "as in the third, not as in one that was not made");
        due(x.count(2), 2, "works");
        due(x.told(5), 2, "who stands");
        due(x.piano(0, 3), 1, "felt");
        due(x.image(), 3, "there is room again");
        due(x.restore(), 2, "the third once more");
        due(x.restore(), 1, "the second");
        due(x.told(3) * 100 + x.piano(0, 3) * 10 + x.told(5), 121, "as in the second");
        due(x.there(0, 7), 4, "as in the second");
        due(x.piano(0, 4), 1, "as in the second");
        due(x.count(2), 1, "works");
        due(x.undo(), 0, "its works can be undone");
        due(x.told(4), 8, "its works can be undone");
        due(x.restore(), 0, "the first");
        due(x.count(2), 0, "works");
        due(x.restore(), -1, "there is none");
        due(x.restore(), -1, "there is none");
        alike(allOf(x), allOf(with(THREE)), "as at first");
        TunedHouses y = busy();
        due(y.restore(), 0, "the only one");
        String before = brief(y);
        work(y, "take 2;take 2;");
        due(y.restore(), -1, "there is none");
        due(y.told(9), 2, "nothing is changed");
        due(y.undo(), 1, "undo()");
        alike(brief(y), before, "nothing was changed");
        keptApart();
        law(y, "3");
        y.image();
        law(y, "4");
        book(y, "");
        y.restore();
        due(y.would(1, 0, 0, 0, 0, 0, 0, 0), 4, "work does not change the law");
        due(y.told(8), 0, "work does not change the book");
        TunedHouses tape = with(THREE);
        tape.image();
        put(tape, "felt 1;");
        tape.restore();
        due(tape.count(1), 20, "work does not change the tape");
    }

    /** An image has works of its own: what is undone or done behind it does not reach them. */
    private static void keptApart() {
        TunedHouses x = with(THREE);
        for (int i = 0; i < 16; i++) {
            work(x, "day;");
        }
        x.image();
        for (int i = 0; i < 16; i++) {
            x.undo();
        }
        for (int i = 0; i < 5; i++) {
            work(x, "put 0 0;take 0;");
        }
        due(x.restore(), 0, "restore()");
        due(x.count(2), 16, "all sixteen are back");
        due(work(x, "day;"), -20, "all sixteen are back");
        for (int i = 15; i >= 0; i--) {
            due(x.undo(), i, "undo()");
            due(x.told(3), i, "the day");
        }
        alike(allOf(x), allOf(with(THREE)), "as at first");
    }
}
