import java.util.ArrayList;
import java.util.List;
import java.util.NoSuchElementException;
import java.util.function.Consumer;
import java.util.function.Supplier;

/**
 * Boundary cases of the document: each has a name (the promise's number, or T and the part of the terms, and what
 * its sentence says) and objects of its own, so that a failure tells the sentence that does not hold.
 */
final class Edges {
    static final int NONE = AgeRoofs.NONE;
    static final int HIDDEN = AgeRoofs.HIDDEN;
    static final int LEAST = Integer.MIN_VALUE;
    static final int MOST = Integer.MAX_VALUE;
    /** Numbers that are no person, house, law, what or sort of any parish. */
    static final int[] NO_SUCH = {-2, -3, 7, 100, HIDDEN, LEAST, MOST};
    /** Numbers that are no count of DAYS. */
    static final int[] NO_DAYS = {0, -1, 721, 722, HIDDEN, LEAST, MOST};
    private static final long THROWN = 1L << 40;

    private final String title;
    private String edge = "";
    private int tried = 0;
    private int wrong = 0;

    Edges(String title) {
        this.title = title;
    }

    /** One boundary case. What its body throws is a failure of this case alone. */
    void edge(String name, Runnable body) {
        edge = name;
        tried++;
        try {
            body.run();
        } catch (RuntimeException e) {
            fail("threw " + e);
        }
    }

    void due(long got, long want) {
        if (got != want) {
            fail("answered " + got + ", due is " + want);
        }
    }

    void due(boolean got, boolean want) {
        if (got != want) {
            fail("answered " + got + ", due is " + want);
        }
    }

    private void fail(String what) {
        wrong++;
        System.out.println(title + ": \"" + edge + "\" " + what + " (" + where() + ")");
    }

    private String where() {
        for (StackTraceElement at : new Throwable().getStackTrace()) {
            if (at.getClassName().equals(title)) {
                return "line " + at.getLineNumber();
            }
        }
        return "no line";
    }

    void finish() {
        System.out.println(title + ": " + tried + " edges, " + wrong + " wrong answers");
        if (wrong != 0) {
            System.exit(1);
        }
    }

    /** Feeds a text of any length, in pieces of twenty bytes; answers what the last piece did. */
    static int put(AgeRoofs x, String text) {
        int answer = x.count(3);
        for (int at = 0; at < text.length(); at += 20) {
            int[] five = new int[5];
            for (int k = 0; k < 20 && at + k < text.length(); k++) {
                five[k / 4] |= text.charAt(at + k) << 24 - 8 * (k % 4);
            }
            answer = x.feed(five[0], five[1], five[2], five[3], five[4]);
        }
        return answer;
    }

    static AgeRoofs tape(String text) {
        AgeRoofs x = new AgeRoofs();
        put(x, text);
        return x;
    }

    static int fault(int sort, String text) {
        return tape(text).fault(sort);
    }

    static AgeRoofs parish(String text) {
        AgeRoofs x = tape(text);
        if (x.text(0) < 1) {
            throw new IllegalArgumentException("no parish: " + text);
        }
        return x;
    }

    /** A parish in which a law holds. */
    static AgeRoofs parish(String text, String law) {
        AgeRoofs x = parish(text);
        if (!x.law(tell(x, law))) {
            throw new IllegalArgumentException("no law: " + law);
        }
        return x;
    }

    /** Tells one more law; answers its number. */
    static int tell(AgeRoofs x, String law) {
        x.end(0);
        put(x, law);
        return x.text(1);
    }

    static boolean throwsFor(AgeRoofs x, int person, int what) {
        try {
            x.person(person, what);
            return false;
        } catch (NoSuchElementException e) {
            return true;
        }
    }

    static String times(String text, int n) {
        return text.repeat(n);
    }

    /** A call that is refused leaves an object like its twin for which the call was never made. */
    void refused(String name, Supplier<AgeRoofs> made, Consumer<AgeRoofs> calls) {
        edge(name + ", and changes nothing", () -> {
            AgeRoofs one = made.get();
            AgeRoofs twin = made.get();
            calls.accept(one);
            List<Long> got = told(one);
            List<Long> want = told(twin);
            for (int k = 0; k < want.size(); k++) {
                if (!got.get(k).equals(want.get(k))) {
                    fail("made answer " + k + " of what is told then " + got.get(k) + ", not " + want.get(k));
                    return;
                }
            }
        });
    }

    /** All that can be asked of an object, in the end by calls that change it. */
    private static List<Long> told(AgeRoofs x) {
        List<Long> all = new ArrayList<>();
        add(all, x.fault(0), x.fault(1));
        tellState(all, x);
        for (int k = 0; k < 36; k++) {
            if (k / 6 < k % 6) {
                add(all, x.clash(k / 6, k % 6, 0), x.clash(k / 6, k % 6, 200));
            }
        }
        for (int person = 0; person < 6; person++) {
            add(all, x.rather(person));
        }
        add(all, x.best(0), x.best(1), x.known(30, 0), x.known(30, 1), x.known(30, 2), x.say(0, 5));
        add(all, x.turn(), x.days(400), x.days(360));
        tellState(all, x);
        add(all, x.back(), x.text(0), x.text(1), x.count(3), x.days(370));
        tellState(all, x);
        for (int law = 0; law < 4; law++) {
            add(all, x.law(law) ? 1 : 0, x.clash(0, 1, 3), x.clash(1, 2, 30));
        }
        return all;
    }

    private static void tellState(List<Long> all, AgeRoofs x) {
        for (int what = 0; what <= 8; what++) {
            add(all, x.count(what));
        }
        for (int k = 0; k < 24; k++) {
            all.add(throwsFor(x, k / 4, k % 4) ? THROWN : x.person(k / 4, k % 4));
        }
        for (int k = 0; k < 16; k++) {
            add(all, x.house(k / 4, k % 4));
        }
    }

    private static void add(List<Long> all, int... more) {
        for (int one : more) {
            all.add((long) one);
        }
    }
}
