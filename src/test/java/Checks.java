import java.io.IOException;
import java.nio.charset.StandardCharsets;
import java.nio.file.Files;
import java.nio.file.Path;
import java.util.NoSuchElementException;

/**
 * What the edge tests share: each test names a promise and the sentence of the document that it holds the
 * class to; a sentence that the document does not have is itself a failure. Promise 0 stands for what is
 * said ahead of the promises (the face and the terms).
 */
abstract class Checks {
    static final int NONE = -1;
    static final Class<? extends RuntimeException> ILLEGAL = IllegalArgumentException.class;
    static final Class<? extends RuntimeException> NO_SUCH = NoSuchElementException.class;
    static final String THREE = "house 3;house 5;house 3;wall 0 1;wall 1 2;piano 7 6;piano 5 4;piano 7 2;"
            + "wish 0 7;wish 2 7;felt 8;";

    private static final String DOC = readDoc();
    private static int wrong;
    private static int checks;
    private static int sentences;
    private static String place = "";

    /** A call on an object, or a run of calls with one answer. */
    interface Ask {
        long of(TunedHouses x);
    }

    // ---- what is said and what is due ----

    private static String readDoc() {
        Path doc = Path.of("..", "shared", "DOC.md");
        try {
            return Files.exists(doc) ? plain(Files.readString(doc, StandardCharsets.UTF_8)) : "";
        } catch (IOException e) {
            return "";
        }
    }

    private static String plain(String text) {
        return text.replaceAll("\\s+", " ");
    }

    /** Names the promise alone, for checks of its ordinary answers. */
    static void promise(int promise) {
        place = "promise " + promise;
    }

    /** Names what else the checks behind it are about. */
    static void about(String what) {
        place = what;
    }

    /** Names the sentence that the checks behind it hold the class to. */
    static void says(int promise, String sentence) {
        place = "promise " + promise + ", \"" + sentence + "\"";
        sentences++;
        if (!DOC.isEmpty() && !DOC.contains(plain(sentence))) {
            fail("the document does not say so");
        }
    }

    static void fail(String what) {
        wrong++;
        System.out.println(place + ": " + what);
    }

    static void due(long got, long want, String what) {
        checks++;
        if (got != want) {
            fail(what + " answered " + got + ", due is " + want);
        }
    }

    static void alike(String got, String want, String what) {
        checks++;
        if (!got.equals(want)) {
            fail(what + ": it is\n    " + got + "\n  but was\n    " + want);
        }
    }

    static void finish(String name) {
        System.out.println(name + ": " + sentences + " sentences, " + checks + " checks, " + wrong + " wrong");
        if (wrong != 0) {
            System.exit(1);
        }
    }

    // ---- texts ----

    private static int four(String s, int at) {
        int word = 0;
        for (int i = at; i < at + 4; i++) {
            word = word << 8 | (i < s.length() ? s.charAt(i) & 255 : 0);
        }
        return word;
    }

    /** Twenty bytes from a place in a text; zeros behind its end. */
    static int feed(TunedHouses x, String s, int at) {
        return x.feed(four(s, at), four(s, at + 4), four(s, at + 8), four(s, at + 12), four(s, at + 16));
    }

    static int put(TunedHouses x, String s) {
        for (int at = 0; at < s.length(); at += 20) {
            feed(x, s, at);
        }
        return s.length();
    }

    static int terrace(TunedHouses x, String s) {
        return x.terrace(put(x, s));
    }

    static int law(TunedHouses x, String s) {
        return x.law(put(x, s));
    }

    static int work(TunedHouses x, String s) {
        return x.work(put(x, s));
    }

    static int book(TunedHouses x, String s) {
        return x.book(put(x, s));
    }

    /** 't' a terrace, 'l' a law, 'w' work, 'b' a book. */
    static int text(TunedHouses x, char kind, int n) {
        switch (kind) {
            case 't': return x.terrace(n);
            case 'l': return x.law(n);
            case 'w': return x.work(n);
            default: return x.book(n);
        }
    }

    static String times(int n, String s) {
        return s.repeat(n);
    }

    static TunedHouses with(String terrace) {
        TunedHouses x = new TunedHouses();
        if (terrace(x, terrace) < 0) {
            fail("a terrace was not read: " + terrace);
        }
        return x;
    }

    static TunedHouses with(String terrace, String work) {
        TunedHouses x = with(terrace);
        if (work(x, work) < 0) {
            fail("work was not read: " + work);
        }
        return x;
    }

    /** What a law makes of a piano of strong 1, felt 2, days 3, here 4, thing 5, next 0, house 7, day 8. */
    static int force(String law) {
        TunedHouses x = new TunedHouses();
        due(law(x, law), 1, "law <" + law + ">");
        return x.would(1, 2, 3, 4, 5, 0, 7, 8);
    }

    // ---- an object with something of everything, and all of it ----

    /** Nothing in it is as in a new object, so whatever a call changes can be seen; no bytes on the tape. */
    static TunedHouses busy() {
        TunedHouses x = with(THREE);
        law(x, "strong*2-felt+here/9");
        book(x, "0 10;2 36;");
        work(x, "put 0 0;put 1 1;lay 1 2;day;");
        x.image();
        work(x, "put 2 2;put 0 0;day;lay 2 1;");
        book(x, "1 x");
        return x;
    }

    static TunedHouses busyWithTape() {
        TunedHouses x = busy();
        put(x, "house 1;piano 2 3;  ");
        return x;
    }

    /** All that can be asked without a change, but for fault and status. */
    static String seen(TunedHouses x) {
        StringBuilder b = new StringBuilder();
        for (int w = 0; w <= 10; w++) {
            b.append(x.told(w)).append(' ');
        }
        for (int w = 0; w <= 2; w++) {
            b.append(x.count(w)).append(' ');
        }
        b.append('|').append(x.would(5, 1, 2, 33, 4, 1, 6, 7)).append(' ').append(x.would(9, 9, 0, 0, 0, 0, 0, 0));
        for (int h = 0; h < x.told(0); h++) {
            b.append("|h");
            for (int w = 0; w <= 5; w++) {
                b.append(' ').append(x.house(h, w));
            }
            for (int m = 0; m <= 9; m++) {
                b.append(' ').append(x.there(h, m));
            }
        }
        for (int v = 0; v < x.told(1); v++) {
            b.append("|w ").append(x.wall(v, 0)).append(' ').append(x.wall(v, 1));
        }
        for (int p = 0; p < x.told(2); p++) {
            b.append("|p");
            for (int w = 0; w <= 7; w++) {
                b.append(' ').append(x.piano(p, w));
            }
            b.append(' ').append(x.placed(p));
        }
        if (x.told(0) > 0) {
            b.append("|f ").append(x.from(0, 0)).append(' ').append(x.from(0, 1));
            b.append(' ').append(x.look(0, 0)).append(' ').append(x.look(0, 1));
        }
        return b.toString();
    }

    private static void brief(StringBuilder b, TunedHouses x, String how, int answer) {
        b.append('|').append(how).append(' ').append(answer);
        for (int w : new int[] {3, 4, 5, 9, 10}) {
            b.append(' ').append(x.told(w));
        }
    }

    /** What undo and restore bring back, and the bytes on the tape; it is all gone then. */
    static String kept(TunedHouses x) {
        StringBuilder b = new StringBuilder();
        for (int image = x.count(0); image >= 0; image--) {
            for (int i = x.count(2); i >= 0; i--) {
                brief(b, x, "undo", x.undo());
            }
            brief(b, x, "restore", x.restore());
        }
        int bytes = x.count(1);
        b.append("|tape ").append(bytes).append(' ').append(x.terrace(bytes)).append(' ').append(x.told(0));
        return b.toString();
    }

    static String allOf(TunedHouses x) {
        return seen(x) + " || " + kept(x);
    }

    static String allOfBusy() {
        return allOf(busy());
    }

    // ---- refusals and faults ----

    static String outcome(TunedHouses x, Ask ask) {
        try {
            return "answered " + ask.of(x);
        } catch (RuntimeException e) {
            return e.getClass().getName();
        }
    }

    /** The call throws this very exception, status counts it once, and all else is as it was. */
    static void refused(Class<? extends RuntimeException> due, String what, Ask ask) {
        TunedHouses x = busyWithTape();
        alike(outcome(x, ask), due.getName(), what);
        due(x.status(0), due == NO_SUCH ? 1 : 0, what + ", then status(0)");
        due(x.status(1), due == NO_SUCH ? 0 : 1, what + ", then status(1)");
        due(x.fault(), 2, what + ", then fault()");
        alike(allOf(x), allOf(busyWithTape()), what);
    }

    /** The call answers, is not counted by status, and all is as it was. */
    static void asked(String what, Ask ask) {
        TunedHouses x = busyWithTape();
        String got = outcome(x, ask);
        if (!got.startsWith("answered")) {
            fail(what + " " + got);
        }
        due(x.status(0) + x.status(1), 0, what + ", then status");
        due(x.fault(), 2, what + ", then fault()");
        alike(allOf(x), allOf(busyWithTape()), what);
    }

    /** A text has this fault at this place; all stays, but the tape is empty. */
    static void faulty(char kind, String text, int fault, int place) {
        TunedHouses x = busy();
        int n = put(x, text);
        due(text(x, kind, n), fault - 10, "<" + text + ">");
        due(x.fault(), place, "fault() of <" + text + ">");
        due(x.status(0) + x.status(1), 0, "status behind <" + text + ">");
        alike(allOf(x), allOfBusy(), "<" + text + ">");
    }

    /** A text without a fault, on a busy object. */
    static TunedHouses fine(char kind, String text, int answer) {
        TunedHouses x = busy();
        int n = put(x, text);
        due(text(x, kind, n), answer, "<" + text + ">");
        due(x.fault(), NONE, "fault() of <" + text + ">");
        due(x.count(1), 0, "the tape behind <" + text + ">");
        return x;
    }
}
