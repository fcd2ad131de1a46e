/** The edges of the questions: the document's part 3, promises 14 to 26 and 34 to 36. */
public final class QuestionEdgesTest extends Checks {
    private static final String EIGHT = times(8, "house 1;");

    public static void main(String[] args) {
        beyondFiveHundred();
        would();
        ahead();
        when();
        muffle();
        places();
        firstPlaces();
        from();
        fromAsIfAlone();
        look();
        way();
        alone();
        price();
        tuner();
        share();
        tunes();
        year();
        draws();
        span();
        finish("QuestionEdgesTest");
    }

    // ---- days that are asked for ----

    private static TunedHouses onDay500() {
        TunedHouses x = with("house 9;piano 1 1;", "");
        work(x, "again 60 [day;day;day;];");
        work(x, "again 60 [day;day;day;];");
        work(x, "again 60 [day;day;];again 20 [day;];");
        work(x, "put 0 0;");
        due(x.told(3), 500, "the day");
        // Nothing on day 500, 1 on day 501, 2 on day 502 ..
        law(x, "day-500");
        return x;
    }

    private static void beyondFiveHundred() {
        says(0, "Asked, nothing stays changed; DAYS go by as by day (beyond 500, too).");
        TunedHouses x = onDay500();
        due(x.ahead(0, 1, 1), 50, "in one day");
        due(x.ahead(0, 10, 1), 50, "in ten days: 45 of it");
        due(x.ahead(0, 11, 1), 55, "in eleven days: 55 of it");
        due(x.ahead(0, 11, 0), 1, "in eleven days: 55 of it");
        due(x.when(0, 1), 11, "in eleven days");
        due(x.year(1, 10, 0, 0), 0, "a year of ten days");
        due(x.year(1, 11, 0, 0), 1, "a year of eleven days");
        due(x.year(1, 11, 0, 2), 105, "a year of eleven days");
        due(x.span(1, 2, 11, 0, 2, 0), 2, "two years of eleven days");
        due(x.told(3), 500, "nothing stays changed");
        due(x.piano(0, 4), 0, "nothing stays changed");
        due(x.told(10), 50, "nothing stays changed");
        due(work(x, "day;"), 0, "the day is refused as ever");
    }

    private static void would() {
        says(14, "FORCE by the LAW for such strong (1 to 9), felt (0 to 9), days (0 to 999), here (0 to 99), thing (0 to 9), next (0 "
                + "to 5), house (0 to 7), day (0 to 500).");
        String[] words = {"strong", "felt", "days", "here", "thing", "next", "house", "day"};
        int[] least = {1, 0, 0, 0, 0, 0, 0, 0};
        int[] most = {9, 9, 999, 99, 9, 5, 7, 500};
        for (int i = 0; i < 8; i++) {
            TunedHouses x = new TunedHouses();
            law(x, words[i] + "-" + (most[i] - 30 < 0 ? "0" : String.valueOf(most[i] - 30)));
            int[] a = least.clone();
            due(by(x, a), most[i] > 30 ? 0 : least[i], "the least " + words[i]);
            a[i] = most[i];
            due(by(x, a), Math.min(most[i], 30), "the greatest " + words[i]);
            int[] b = most.clone();
            b[i] = least[i];
            due(by(x, b), most[i] > 30 ? 0 : least[i], "the least " + words[i] + " among the greatest");
        }
        TunedHouses x = new TunedHouses();
        due(by(x, most), 0, "all at their greatest");
        due(by(x, least), 1, "all at their least");
        due(x.would(1, 9, 0, 0, 0, 0, 0, 0), 0, "0 at least");
        law(x, "day*days");
        due(x.would(1, 0, 999, 0, 0, 0, 0, 500), 40, "40 at most");
    }

    private static int by(TunedHouses x, int[] a) {
        return x.would(a[0], a[1], a[2], a[3], a[4], a[5], a[6], a[7]);
    }

    private static void ahead() {
        says(15, "In n DAYS (0 to 99), nothing being done: 0 the THING a HOUSE IS, 1 how much there is of that.");
        TunedHouses x = with("house 5;piano 2 1;piano 8 1;house 5;", "put 0 0;put 1 1;");
        due(x.ahead(0, 0, 0) * 100 + x.ahead(0, 0, 1), 550, "in 0 days");
        due(x.ahead(0, 49, 0) * 100 + x.ahead(0, 49, 1), 550, "in 49 days");
        due(x.ahead(0, 50, 0) * 100 + x.ahead(0, 50, 1), 250, "in 50 days: the least of alike ones");
        due(x.ahead(1, 50, 0) * 100 + x.ahead(1, 50, 1), 550, "in 50 days: the least of alike ones");
        due(x.ahead(1, 51, 0) * 100 + x.ahead(1, 51, 1), 851, "in 51 days");
        due(x.ahead(0, 99, 0) * 100 + x.ahead(0, 99, 1), 299, "in 99 days");
        law(x, "2");
        due(x.ahead(0, 99, 1), 99, "99 at most");
        law(x, "days/98*40");
        due(x.ahead(0, 99, 0), 5, "in 99 days: 40 of it");
        law(x, "days/97*40");
        due(x.ahead(0, 98, 0), 5, "in 98 days: 40 of it");
        due(x.ahead(0, 99, 0), 2, "in 99 days: 80 of it");
    }

    private static void when() {
        says(0, "WHEN of a HOUSE and a THING: in how many DAYS (of 200) it IS that, nothing being done; NONE.");
        TunedHouses x = with("house 9;piano 1 1;", "put 0 0;");
        law(x, "(day-197)*99");
        due(x.when(0, 1), 200, "40 on day 198, 40 on day 199");
        law(x, "(day-198)*99");
        due(x.when(0, 1), NONE, "40 on day 199, 40 on day 200");
        law(x, "(day-196)*99");
        due(x.when(0, 1), 199, "40 on day 197, 40 on day 198");
        law(x, "0");
        due(x.when(0, 1), NONE, "never");
        law(x, "strong-felt");
        due(x.when(0, 1), 50, "of alike ones the least");
        work(x, "take 0;");
        due(x.when(0, 1), NONE, "nothing being done");
        says(16, "WHEN of a THING (0 to 9; 0: now).");
        due(x.when(0, 9), 0, "now, thing 9");
        TunedHouses y = with("house 0;piano 9 9;", "put 0 0;");
        due(y.when(0, 0), 0, "now, thing 0");
        due(y.when(0, 9), 6, "54 of 9");
        due(y.when(0, 5), NONE, "of thing 5 nothing comes");
        work(y, "again 6 [day;];");
        due(y.when(0, 9), 0, "now");
        due(y.when(0, 0), NONE, "never again");
        TunedHouses z = with("house 5;piano 5 1;piano 8 1;house 5;wall 0 1;", "put 0 0;put 1 1;");
        law(z, "thing/8*40");
        due(z.when(1, 8), 2, "in two days");
    }

    private static void muffle() {
        says(0, "MUFFLE of a PIANO that stands in a HOUSE: the fewest sheets in it (0 to 9, whatever are left) by which its FORCE is 0; "
                + "NONE.");
        TunedHouses x = with("house 1;house 1;wall 0 1;piano 1 9;piano 2 1;felt 0;", "put 0 0;put 1 1;");
        due(x.muffle(0), 9, "nine, though none is left");
        due(x.muffle(1), 1, "one");
        law(x, "10-felt");
        due(x.muffle(0), NONE, "ten would be");
        law(x, "0-1");
        due(x.muffle(0), 0, "none is needed");
        law(x, "0");
        due(x.muffle(0), 0, "none is needed");
        law(x, "1");
        due(x.muffle(0), NONE, "no felt helps");
        law(x, "(felt-4)*(felt-7)");
        due(x.muffle(0), 4, "the fewest");
        law(x, "felt");
        due(x.muffle(0), 0, "none is needed");
        TunedHouses y = with("house 1;piano 1 6;felt 9;", "put 0 0;lay 0 9;");
        due(y.muffle(0), 6, "whatever is in it");
        TunedHouses z = with("house 1;house 1;wall 0 1;piano 1 3;piano 2 9;", "put 0 0;put 1 1;");
        due(z.muffle(0), 3, "its force, not what it brings");
        TunedHouses there = with(EIGHT + "wall 6 5;piano 1 6;piano 2 9;", "put 0 6;put 1 5;day;day;");
        for (String law : new String[] {"house-felt", "next*6-felt", "days*3-felt", "day*3-felt", "here/8-felt"}) {
            law(there, law);
            due(there.muffle(0), 6, "as it stands there now, by " + law);
        }
        says(17, "MUFFLE; NONE also: it stands in none.");
        work(y, "take 0;");
        due(y.muffle(0), NONE, "it stands in none");
        law(y, "0");
        due(y.muffle(0), NONE, "it stands in none");
    }

    // ---- places ----

    private static void places() {
        says(18, "PLACES: how many wishes come (0: there are no PIANOS).");
        due(new TunedHouses().places(), 0, "neither pianos nor houses");
        due(with("house 1;wish 0 1;").places(), 0, "no pianos");
        due(with("piano 1 1;").places(), NONE, "no houses");
        says(0, "PLACES: of all ways to put all PIANOS into unlike HOUSES (were none anywhere) so that no two FIGHT");
        TunedHouses x = with("house 1;house 1;piano 4 1;piano 5 1;wish 0 5;wish 1 4;");
        due(x.places(), 2, "as many as houses");
        due(x.placed(0) * 10 + x.placed(1), 10, "as many as houses");
        TunedHouses more = with("house 1;house 1;piano 4 1;piano 5 1;piano 4 1;wish 0 5;wish 1 4;");
        due(more.places(), NONE, "one more than houses");
        due(more.placed(0), NONE, "one more than houses");
        TunedHouses full = with(EIGHT + "piano 1 1;piano 2 1;piano 3 1;piano 4 1;piano 5 1;piano 6 1;"
                + "wish 7 1;wish 6 2;wish 5 3;wish 4 4;wish 3 5;wish 2 6;");
        due(full.places(), 6, "six of six");
        for (int p = 0; p < 6; p++) {
            due(full.placed(p), 7 - p, "placed(" + p + ")");
        }
        TunedHouses walled = with("house 1;house 1;wall 0 1;piano 4 1;piano 5 1;wish 0 4;wish 1 5;");
        due(walled.places(), NONE, "all ways fight");
        due(walled.placed(0) + walled.placed(1), -2, "all ways fight");
        TunedHouses alike = with("house 1;house 1;wall 0 1;piano 4 1;piano 4 9;wish 1 4;");
        due(alike.places(), 1, "alike ones do not fight");
        TunedHouses less = with("house 1;house 1;house 1;wall 0 1;piano 4 1;piano 5 1;wish 0 4;wish 1 5;");
        due(less.places(), 1, "both wishes would be a fight");
        due(less.placed(0) * 10 + less.placed(1), 2, "one wish, the other in house 2");
        work(less, "put 0 2;put 1 0;");
        due(less.places(), 1, "were none anywhere");
        due(less.placed(0) * 10 + less.placed(1), 2, "were none anywhere");
        due(less.piano(0, 2), 2, "they stand where they stood");
    }

    private static void firstPlaces() {
        says(0, "of alike ways the first (PIANO by PIANO the least HOUSE); NONE.");
        TunedHouses none = with(EIGHT + times(6, "piano 4 1;"));
        due(none.places(), 0, "no wishes");
        for (int p = 0; p < 6; p++) {
            due(none.placed(p), p, "placed(" + p + ")");
        }
        TunedHouses x = with("house 1;house 1;house 1;piano 4 1;piano 5 1;wish 1 5;wish 2 5;");
        due(x.places(), 1, "one of two");
        due(x.placed(0) * 10 + x.placed(1), 1, "piano 0 in 0, piano 1 in the first that wishes");
        TunedHouses y = with("house 1;house 1;house 1;piano 4 1;piano 5 1;wish 0 5;wish 2 5;");
        due(y.placed(0) * 10 + y.placed(1), 2, "piano 0 first: in 0, though piano 1 could be there");
        says(0, "that by which most HOUSES have a PIANO of the THING they wish");
        TunedHouses z = with("house 1;house 1;piano 4 1;piano 4 1;piano 4 1;house 1;wish 2 4;wish 1 0;");
        due(z.places(), 1, "of another thing it does not count");
        due(with("house 0;piano 0 1;wish 0 0;").places(), 1, "thing 0");
        due(with("house 0;piano 0 1;").places(), 0, "no wish is none for thing 0");
        says(19, "The HOUSE of a PIANO by PLACES; NONE.");
        due(z.placed(2), 2, "the last one");
        due(with("house 1;piano 1 1;").placed(0), 0, "house 0");
        due(with("piano 1 1;").placed(0), NONE, "no houses");
    }

    // ---- books ----

    private static void from(TunedHouses x, String book, int house, int many, int first) {
        book(x, book);
        due(x.from(house, 0), many, "from(" + house + ", 0) by <" + book + ">");
        due(x.from(house, 1), first, "from(" + house + ", 1) by <" + book + ">");
    }

    private static void from() {
        says(0, "FROM by BOOK of a HOUSE: pairs of STRONG (1 to 9) and START (0 to 99) by which all lines would be right");
        TunedHouses x = with("house 3;");
        due(x.from(0, 0), 900, "no book: all pairs");
        due(x.from(0, 1), 100, "no book: the least strong, the least start");
        from(x, "", 0, 900, 100);
        from(x, "0 0;", 0, 9, 100);
        from(x, "0 99;", 0, 9, 199);
        from(x, "0 50;1 59;", 0, 1, 950);
        from(x, "0 50;1 60;", 0, 0, NONE);
        from(x, "0 50;1 50;", 0, 0, NONE);
        from(x, "0 0;1 1;", 0, 1, 100);
        // Start 99 less strong and more: two for strong 1, ten for strong 9.
        from(x, "1 99;", 0, 54, 198);
        // Start and 60 times strong: 39 to 99 for strong 1, all for others.
        from(x, "60 99;", 0, 861, 139);
        from(x, "60 98;", 0, 1, 138);
        from(x, "60 60;", 0, 1, 100);
        from(x, "60 59;", 0, 0, NONE);
        from(x, "1 14;0 10;5 30;3 22;4 26;2 18;", 0, 1, 410);
        from(x, "1 14;0 10;5 30;3 22;4 26;2 17;", 0, 0, NONE);
        says(0, "how many, the first (by STRONG, then START).");
        // Strong 5 from 35, strong 4 from 36 .. strong 1 from 39: the least strong, though its start is not the least.
        from(x, "1 40;", 0, 9, 139);
        law(x, "strong/5*here");
        from(x, "1 40;", 0, 9, 140);
        law(x, "(10-strong)/5*here");
        from(x, "1 40;", 0, 9, 120);
        says(20, "FROM of a HOUSE: 0 how many pairs, 1 the first (100 times STRONG, and START; NONE).");
        law(x, "strong/9");
        from(x, "0 98;1 99;", 0, 1, 998);
        from(x, "0 5;1 5;", 0, 8, 105);
        law(x, "here/99*40");
        from(x, "60 98;", 0, 9, 198);
    }

    private static void fromAsIfAlone() {
        says(0, "were there START of THING 0 in it on DAY 0, and stood a PIANO of THING 0 so STRONG in it from then on, no felt in it, "
                + "no others anywhere");
        TunedHouses x = with(EIGHT + "wall 0 1;wall 7 0;piano 5 9;piano 6 9;piano 0 9;felt 40;",
                "lay 0 9;lay 1 9;lay 2 9;put 0 0;put 1 1;put 2 7;again 7 [day;];");
        from(x, "0 10;2 16;", 0, 1, 310);
        law(x, "strong+thing*9+felt*9+next*9");
        from(x, "0 10;2 16;", 0, 1, 310);
        law(x, "strong+9*(day-days)");
        from(x, "0 10;2 16;", 0, 1, 310);
        law(x, "strong+day");
        from(x, "0 10;2 15;", 0, 1, 210);
        law(x, "strong+days");
        from(x, "0 10;3 19;", 0, 1, 210);
        law(x, "strong+house");
        from(x, "0 10;1 18;", 0, 1, 810);
        from(x, "0 10;1 18;", 7, 1, 110);
        from(x, "0 10;1 17;", 7, 0, NONE);
        law(x, "here*strong");
        from(x, "0 1;2 9;", 0, 1, 201);
    }

    private static void look(TunedHouses x, String law, String book, int day, int worst) {
        law(x, law);
        book(x, book);
        due(x.look(0, 0), day, "look(0, 0) by <" + law + ">, <" + book + ">");
        due(x.look(0, 1), worst, "look(0, 1) by <" + law + ">, <" + book + ">");
    }

    private static void look() {
        says(0, "LOOK: the day (0 to 60) in no line by which, however much there is, fewest such pairs are left at the worst, of these the "
                + "first.");
        TunedHouses x = with("house 3;");
        due(x.look(0, 0) * 10 + x.look(0, 1), 9, "no book: on day 0 nine of each");
        look(x, "strong", "", 0, 9);
        look(x, "strong", "1 40;", 0, 1);
        look(x, "strong", "0 99;", 1, 9);
        look(x, "strong", "60 99;", 0, 9);
        look(x, "strong", "1 99;", 0, 9);
        // Only a growth on day 59 can be seen on day 60; one on day 60 can't be seen at all.
        look(x, "day/59*strong", "0 0;", 60, 1);
        look(x, "day/60*strong", "0 0;", 1, 9);
        look(x, "day/58*strong", "0 0;60 0;", 1, 0);
        look(x, "day/58*strong", "0 0;", 59, 1);
        look(x, "0", "0 0;1 0;2 0;3 0;4 0;5 0;", 6, 9);
        look(x, "0", "5 0;4 0;2 0;1 0;0 0;", 3, 9);
        look(x, "0", "60 7;", 0, 9);
        look(x, "strong/9", "0 0;", 1, 8);
        look(x, "strong/5", "0 0;", 1, 5);
        // Day 1 leaves 8 or 1; day 2 leaves 4, 4 or 1.
        look(x, "strong/9+day*(strong/5-strong/9)", "0 0;", 2, 4);
        // two at the worst from day 1 on is nearly the fewest there can be, but not yet it
        look(x, "strong/2+strong*(day/3)", "0 0;", 4, 1);
        says(21, "LOOK of a HOUSE: 0 the day, 1 how many pairs are left at the worst.");
        look(x, "strong", "0 50;1 50;", 2, 0);
        look(x, "strong", "0 50;1 59;", 2, 1);
        TunedHouses y = with("house 3;house 3;");
        law(y, "house*strong");
        book(y, "0 0;");
        due(y.look(0, 0) * 10 + y.look(0, 1), 19, "in house 0 nothing comes");
        due(y.look(1, 0) * 10 + y.look(1, 1), 11, "in house 1 it does");
    }

    // ---- ways, prices, tuners, shares ----

    private static void way() {
        says(0, "WAY of two HOUSES: the fewest WALLS one goes through; NONE.");
        TunedHouses x = with(EIGHT + "wall 0 1;wall 2 1;wall 2 3;wall 4 3;wall 4 5;wall 6 5;wall 6 7;");
        due(x.way(0, 7), 7, "the longest");
        due(x.way(7, 0), 7, "the longest, back");
        due(x.way(0, 6), 6, "six");
        TunedHouses ring = with(EIGHT + "wall 0 1;wall 1 2;wall 2 3;wall 3 4;wall 4 5;wall 5 6;wall 6 7;wall 7 0;");
        due(ring.way(0, 7), 1, "the fewest");
        due(ring.way(0, 4), 4, "the fewest");
        due(ring.way(0, 5), 3, "the fewest");
        TunedHouses apart = with("house 1;house 1;house 1;house 1;wall 0 1;wall 2 3;");
        due(apart.way(0, 3), NONE, "none");
        due(apart.way(3, 1), NONE, "none");
        due(apart.way(3, 2), 1, "one");
        says(22, "WAY (0: one HOUSE).");
        due(apart.way(0, 0) + apart.way(3, 3) + x.way(7, 7), 0, "one house");
        due(with("house 1;").way(0, 0), 0, "the only house");
    }

    private static void alone() {
        says(0, "ALONE: the most HOUSES no two of which have a WALL between; of alike sets the least bits.");
        due(new TunedHouses().alone(), 0, "no houses");
        due(with("house 1;").alone(), 1, "one house");
        due(with(EIGHT).alone(), 255, "no walls");
        due(with("house 1;house 1;wall 0 1;").alone(), 1, "two sets of one");
        due(with("house 1;house 1;house 1;wall 0 1;wall 0 2;").alone(), 6, "two, not the first");
        due(with("house 1;house 1;house 1;house 1;wall 0 1;wall 1 2;wall 2 3;wall 3 0;").alone(), 5, "two sets of two");
        due(with("house 1;house 1;house 1;house 1;wall 0 1;wall 2 3;").alone(), 5, "four sets of two");
        due(with(EIGHT + "wall 7 0;wall 7 1;wall 7 2;wall 7 3;wall 7 4;wall 7 5;wall 7 6;").alone(), 127, "all but one");
        due(with(EIGHT + "wall 0 1;wall 0 2;wall 0 3;wall 0 4;wall 0 5;wall 0 6;wall 0 7;").alone(), 254, "all but one");
        says(23, "ALONE, as bits.");
        TunedHouses x = with(EIGHT + "wall 0 1;piano 1 1;", "put 0 0;");
        due(x.alone(), 253, "whoever stands there");
    }

    private static void price(TunedHouses x, int n, int k, long above, long below) {
        due(x.price(n, k, 0), above, "price(" + n + ", " + k + ", 0)");
        due(x.price(n, k, 1), below, "price(" + n + ", " + k + ", 1)");
    }

    private static void price() {
        says(24, "PRICE by n (1 to 6), k (1 to 9): above (part 0), below (part 1), in least terms.");
        TunedHouses x = new TunedHouses();
        price(x, 1, 1, 1, 1);
        price(x, 6, 1, 1, 1);
        price(x, 1, 9, 5, 1);
        price(x, 6, 9, 50452, 6561);
        says(0, "PRICE by n, k: on each of n days one is bid 1 to k coins, alike likely; he takes it, or waits for the next day (the last bid "
                + "he takes): what he has on the mean, if he does best.");
        price(x, 1, 2, 3, 2);
        price(x, 1, 4, 5, 2);
        price(x, 2, 2, 7, 4);
        price(x, 3, 2, 15, 8);
        price(x, 6, 2, 127, 64);
        price(x, 2, 3, 7, 3);
        // 2 and a third on the next day: 7/3, 7/3, 3.
        price(x, 3, 3, 23, 9);
        // 5/2 on the next day: 5/2, 5/2, 3, 4.
        price(x, 2, 4, 3, 1);
        // 3 on the next day: 3, 3, 3, 4.
        price(x, 3, 4, 13, 4);
        for (int n = 1; n <= 6; n++) {
            for (int k = 1; k <= 9; k++) {
                long above = x.price(n, k, 0);
                long below = x.price(n, k, 1);
                due(gcd(above, below), 1, "least terms of price(" + n + ", " + k + ")");
                due(below > 0 && above >= below && above <= k * below ? 1 : 0, 1, "price(" + n + ", " + k + ") in its bounds");
            }
        }
    }

    private static long gcd(long a, long b) {
        return b == 0 ? a : gcd(b, a % b);
    }

    private static void tuner() {
        says(25, "TUNER by v, w (0 to 99): 0 how many RESTS, 1 the first");
        int[][] due = {{0, 0, 3, 0, 0}, {0, 1, 2, 0, 0}, {0, 99, 2, 0, 0}, {1, 0, 2, 0, 2}, {99, 0, 2, 0, 198}, {1, 1, 1, 0, 2},
            {99, 99, 1, 0, 198}, {1, 99, 1, 0, 2}, {99, 1, 1, 0, 198}};
        TunedHouses x = new TunedHouses();
        for (int[] d : due) {
            for (int w = 0; w < 3; w++) {
                due(x.tuner(d[0], d[1], w), d[2 + w], "tuner(" + d[0] + ", " + d[1] + ", " + w + ")");
            }
        }
        says(0, "he tunes and it gives way: both have v; it gives way alone: it has w, he 0; he tunes alone: he has 1 less than 0, it 0; "
                + "neither: both have 0;");
        // Both is ever a rest; he not, it giving way, if v is 0; neither, if w is 0; he alone never.
        for (int v = 0; v <= 99; v++) {
            TunedHouses y = new TunedHouses();
            for (int w : new int[] {0, 1, 2, 50, 98, 99}) {
                due(y.tuner(v, w, 0), 1 + (v == 0 ? 1 : 0) + (w == 0 ? 1 : 0), "tuner(" + v + ", " + w + ", 0)");
                due(y.tuner(v, w, 1), 0, "tuner(" + v + ", " + w + ", 1)");
                due(y.tuner(v, w, 2), 2 * v, "tuner(" + v + ", " + w + ", 2)");
            }
        }
        says(0, "RESTS: neither would have more by the other thing.");
        due(x.tuner(0, 0, 0), 3, "as much is not more: both, he not, neither");
        due(x.tuner(0, 5, 0), 2, "it would have more by giving way, where neither does");
        due(x.tuner(5, 0, 0), 2, "he would have more by tuning, where it gives way");
    }

    private static void share() {
        says(0, "SHARES of n among told PIANOS (bits) by STRONG: levelled: no more than that each, no more than a bound, the greatest by "
                + "which no more than n are given (all, if they are no more).");
        TunedHouses x = with("piano 1 6;piano 1 4;piano 1 2;");
        int[][] due = {{0, 0, 0, 0}, {1, 0, 0, 0}, {2, 0, 0, 0}, {3, 1, 1, 1}, {5, 1, 1, 1}, {6, 2, 2, 2}, {7, 2, 2, 2}, {8, 3, 3, 2},
            {9, 3, 3, 2}, {10, 4, 4, 2}, {11, 5, 4, 2}, {12, 6, 4, 2}, {13, 6, 4, 2}, {99, 6, 4, 2}};
        for (int[] d : due) {
            for (int p = 0; p < 3; p++) {
                due(x.share(p, 7, d[0]), d[1 + p], "share(" + p + ", 7, " + d[0] + ")");
            }
        }
        TunedHouses six = with(times(6, "piano 1 9;"));
        due(six.share(5, 63, 54), 9, "all");
        due(six.share(5, 63, 53), 8, "one less");
        due(six.share(5, 63, 6), 1, "one each");
        due(six.share(5, 63, 5), 0, "not one each");
        due(six.share(5, 32, 9), 9, "alone");
        due(six.share(5, 32, 8), 8, "alone");
        says(26, "What a PIANO gets of n (0 to 99) by SHARES among told PIANOS (0, if it is none of them).");
        due(x.share(1, 5, 99), 0, "none of them");
        due(x.share(0, 5, 7), 5, "5 and 2");
        due(x.share(2, 5, 7), 2, "5 and 2");
        due(x.share(0, 6, 99), 0, "none of them");
        due(x.share(0, 0, 99), 0, "nobody is told");
        due(six.share(0, 62, 99), 0, "none of them");
        says(26, "IllegalArgumentException: bits of no PIANOS.");
        for (int bits : new int[] {8, 15, 64, -1, -8, 1 << 31, 1 << 30, Integer.MAX_VALUE}) {
            refused(ILLEGAL, "share(0, " + bits + ", 9)", y -> y.share(0, bits, 9));
        }
        asked("share(0, 7, 9)", y -> y.share(0, 7, 9));
        asked("share(0, 0, 9)", y -> y.share(0, 0, 9));
    }

    private static void tunes() {
        says(34, "What a PIANO would BRING in a HOUSE, were it put there now, all others where they are (its own: what it BRINGS); NONE: "
                + "another one stands there.");
        TunedHouses x = with("house 1;house 1;house 1;house 1;wall 0 1;wall 1 2;piano 3 5;piano 4 3;piano 5 9;", "put 0 0;put 2 3;");
        due(x.tunes(1, 1), 0, "3 less 5");
        due(x.tunes(1, 2), 3, "it fights none");
        due(x.tunes(1, 0), NONE, "another one stands there");
        due(x.tunes(1, 3), NONE, "another one stands there");
        due(x.tunes(0, 3), NONE, "another one stands there");
        due(x.tunes(0, 0), 5, "its own");
        due(x.tunes(2, 1), 4, "9 less 5");
        work(x, "put 1 1;");
        due(x.tunes(0, 0), 2, "its own: 5 less 3");
        due(x.tunes(1, 1), 0, "its own: 3 less 5");
        due(x.tunes(0, 2), 2, "5 less 3");
        due(x.tunes(2, 2), 6, "9 less 3");
        work(x, "day;day;");
        law(x, "days*10+next+1");
        due(x.tunes(1, 1), 0, "its own: 22 less 22");
        due(x.tunes(2, 3), 21, "its own: by its days");
        due(x.tunes(2, 2), 0, "days 0, one is next, and more against it");
        due(x.tunes(1, 2), 1, "days 0, none is next once it has moved");
        law(x, "here+house+1");
        due(x.tunes(0, 2), 1, "by what there is, and by that house's number: 3 less 2");
        due(x.piano(0, 2), 0, "nothing stays changed");
    }

    // ---- years ----

    private static void year() {
        says(35, "A YEAR of so many DAYS (1 to 96), Q (0 to 16)");
        TunedHouses x = with("house 0;piano 4 9;wish 0 4;", "put 0 0;");
        due(x.year(3, 1, 0, 2), 59, "one day");
        due(x.year(3, 5, 0, 0), 0, "45 of it");
        due(x.year(3, 6, 0, 0), 1, "54 of it");
        due(x.year(3, 5, 0, 3), 0, "45 of it");
        due(x.year(3, 6, 0, 3), 1, "54 of it");
        due(x.year(3, 96, 0, 2), 149, "99 at most");
        law(x, "days/94*40");
        due(x.year(3, 95, 0, 2), 90, "95 days: once 40");
        due(x.year(3, 96, 0, 2), 130, "96 days: twice 40");
        due(x.year(3, 96, 16, 1), 0, "where it stands it can't be put");
        law(x, "strong-felt");
        work(x, "take 0;");
        due(x.year(3, 96, 0, 1), 0, "Q 0: none is put");
        due(x.year(3, 96, 0, 2), 50, "Q 0: none is put");
        due(x.year(3, 96, 16, 1), 1, "Q 16: put on the first day, then never again");
        due(x.year(3, 1, 16, 2), 59, "put, then day");
        due(x.year(3, 6, 16, 0), 1, "put, then day");
        says(35, "0 HOUSES (bits) that are another THING than was told then, 1 how often one was put, 2 all there is of all THINGS then, 3 "
                + "HOUSES that are what they wish for then (bits).");
        TunedHouses eight = with(times(7, "house 5;") + "house 4;piano 4 9;piano 2 9;wish 7 4;wish 0 2;wish 1 5;", "put 0 7;put 1 0;");
        due(eight.year(3, 5, 0, 0) * 1000 + eight.year(3, 5, 0, 3), 130, "45 of 2 in house 0");
        due(eight.year(3, 6, 0, 0) * 1000 + eight.year(3, 6, 0, 3), 1131, "54 of 2 in house 0");
        due(eight.year(3, 96, 0, 2), 400 + 49 + 99, "both houses are full");
        says(0, "(as by put, if it can; without PIANOS or HOUSES there is no such DRAW); then day.");
        due(with("house 1;house 1;").year(9, 96, 16, 1), 0, "without pianos");
        due(with("house 1;house 1;").year(9, 96, 16, 2), 100, "without pianos");
        due(with("piano 1 1;").year(9, 96, 16, 1), 0, "without houses");
        due(new TunedHouses().year(9, 96, 16, 0), 0, "without both");
        TunedHouses y = with(THREE, "put 0 0;put 1 1;put 2 2;");
        due(y.year(9, 96, 16, 1), 0, "every house has one");
    }

    private static void draws() {
        says(0, "DRAW: the SEED (32 bits) becomes itself times 1,103,515,245, and 12,345 (it wraps); its bits 16 to 30, what is left of them.");
        says(0, "DRAW by 16 below Q: the PIANO that is DRAW by how many there are is put into the HOUSE that is DRAW by how many there are");
        // Seed 1 gives 16838, 5758, 10113, 17515, 31051, 5627: by 16 that is 6, then piano 5758, house 10113.
        TunedHouses x = with("house 0;house 1;house 2;piano 4 9;piano 5 8;piano 6 7;piano 7 5;piano 8 3;");
        due(x.year(1, 1, 6, 1), 0, "6 is not below 6");
        due(x.year(1, 1, 7, 1), 1, "6 is below 7");
        due(x.year(1, 1, 7, 2), 150 + 5, "5758 by 5 is 3");
        work(x, "put 0 0;");
        due(x.year(1, 1, 7, 1), 0, "10113 by 3 is 0: one stands there");
        due(x.year(1, 1, 7, 2), 150 + 9, "nothing is put, the day goes by");
        // The second day's draws: 17515 by 16 is 11, piano 31051 by 5 is 1, house 5627 by 3 is 2.
        due(x.year(1, 2, 12, 1), 1, "11 is below 12");
        due(x.year(1, 2, 11, 1), 0, "11 is not below 11");
        due(x.year(1, 2, 12, 2), 150 + 18 + 8, "piano 1");
        says(0, "its bits 16 to 30, what is left of them.");
        // Seed 0 gives 0 first: below every Q but 0.
        due(x.year(0, 1, 0, 1), 0, "0 is not below 0");
        // Then 21468 by 5 is 3, and 9988 by 3 is 1; both have bit 31 set, which is left out.
        due(x.year(0, 1, 1, 1), 1, "0 is below 1");
        due(x.year(0, 1, 1, 2), 150 + 9 + 5, "piano 3");
        // The greatest seed and -1 give 15929 (by 16: 9), 4409 (by 5: 4), 9862 (by 3: 1).
        due(x.year(Integer.MAX_VALUE, 1, 10, 2), 150 + 9 + 3, "the greatest seed");
        due(x.year(Integer.MAX_VALUE, 1, 9, 1), 0, "the greatest seed");
        due(x.year(-1, 1, 10, 2), 150 + 9 + 3, "-1");
        // The least seed gives what 0 gives, but for bit 31.
        due(x.year(Integer.MIN_VALUE, 1, 1, 2), 150 + 9 + 5, "the least seed");
        due(x.year(Integer.MIN_VALUE, 1, 1, 1), 1, "the least seed");
        // Without a put there is but one draw a day: seed 1 gives 6, then 5758 by 16 is 14.
        due(with("house 1;piano 1 1;").year(1, 2, 6, 1), 0, "6 and 14 are not below 6");
        // Seed 2 gives 908 (by 16: 12), 22817 (by 16: 1): only the second day's is below 12.
        TunedHouses one = with("house 0;piano 4 9;");
        due(one.year(2, 2, 12, 2), 59, "12 is not, 1 is below 12");
        due(one.year(2, 2, 13, 2), 68, "12 is below 13");
    }

    private static void span() {
        says(36, "Of so many SEEDS (1 to 20; seed, seed and 1, ..): 0 the fewest HOUSES that are another THING than was told then, 1 the most, "
                + "2 by how many a HOUSE is.");
        TunedHouses x = with("house 0;house 1;house 2;wall 0 1;piano 4 9;piano 5 8;wish 0 4;");
        for (int seed : new int[] {0, -1, Integer.MIN_VALUE, Integer.MAX_VALUE}) {
            compareSpan(x, seed, 1, 12, 5);
            compareSpan(x, seed, 2, 12, 5);
        }
        compareSpan(with(THREE), 4, 20, 20, 9);
        compareSpan(with(THREE), Integer.MAX_VALUE - 9, 20, 15, 16);
        compareSpan(with(THREE), 77, 3, 96, 4);
        compareSpan(with(THREE), 77, 3, 1, 0);
        TunedHouses full = with(EIGHT + times(6, "piano 2 9;"), "put 0 0;put 1 1;put 2 2;put 3 3;put 4 4;put 5 7;");
        due(full.span(5, 20, 6, 0, 0, 0), 6, "six in every year");
        due(full.span(5, 20, 6, 0, 1, 0), 6, "six in every year");
        due(full.span(5, 20, 6, 0, 2, 7), 20, "in all twenty");
        due(full.span(5, 20, 6, 0, 2, 6), 0, "in none");
        due(full.span(5, 20, 5, 0, 1, 0), 0, "none in any year");
        due(full.span(5, 1, 6, 0, 2, 7), 1, "in the only one");
        law(full, "40");
        work(full, "day;day;put 0 5;put 1 6;day;day;");
        due(full.changed(), 255, "all eight");
        due(full.span(5, 2, 1, 0, 0, 7), 8, "all eight in every year");
        due(full.span(5, 2, 1, 0, 1, 7), 8, "all eight in every year");
        says(36, "(IllegalArgumentException: no such HOUSE, also for 0, 1.)");
        for (int what = 0; what <= 2; what++) {
            for (int house : new int[] {-1, 3, 8, 32, Integer.MIN_VALUE, Integer.MAX_VALUE}) {
                int w = what;
                refused(ILLEGAL, "span of house " + house + ", what " + what, y -> y.span(1, 1, 1, 1, w, house));
            }
        }
        TunedHouses none = new TunedHouses();
        for (int w = 0; w <= 2; w++) {
            int what = w;
            alike(outcome(none, y -> y.span(1, 1, 1, 1, what, 0)), ILLEGAL.getName(), "span without houses, what " + w);
        }
        due(none.status(1), 3, "status(1)");
    }

    private static void compareSpan(TunedHouses x, int seed, int many, int days, int q) {
        int fewest = 8;
        int most = 0;
        int often = 0;
        for (int i = 0; i < many; i++) {
            int bits = x.year(seed + i, days, q, 0);
            fewest = Math.min(fewest, Integer.bitCount(bits));
            most = Math.max(most, Integer.bitCount(bits));
            often += bits >> 2 & 1;
        }
        String what = "of " + many + " seeds from " + seed + " on, " + days + " days, q " + q;
        due(x.span(seed, many, days, q, 0, 2), fewest, "the fewest " + what);
        due(x.span(seed, many, days, q, 1, 2), most, "the most " + what);
        due(x.span(seed, many, days, q, 2, 2), often, "how many " + what);
    }
}
