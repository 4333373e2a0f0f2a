import java.util.NoSuchElementException;

/** Counts the calls whose answer is not the one that is due, and tells them. */
final class Due {
    static final long OUT_OF_BOUNDS = Long.MIN_VALUE;
    static final long NO_SUCH_ELEMENT = Long.MIN_VALUE + 1;

    private int wrong = 0;
    private int checked = 0;

    void is(String call, long got, long want) {
        checked++;
        if (got != want) {
            wrong++;
            System.out.println(call + " answered " + got + ", due is " + want);
        }
    }

    void is(String call, boolean got, boolean want) {
        is(call, got ? 1 : 0, want ? 1 : 0);
    }

    void is(String call, String got, String want) {
        checked++;
        if (!got.equals(want)) {
            wrong++;
            System.out.println(call + "\n  told:   " + got + "\n  due is: " + want);
        }
    }

    /** The fault of a text that is all the statutes of a new court; kind 0: it has none. */
    void fault(String text, int kind, int place) {
        BurdenCourt court = new BurdenCourt();
        int answer = statutes(court, text);
        is("statutes of '" + text + "' has a fault", answer == -1, kind != 0);
        is("fault 0 of '" + text + "'", court.fault(0), kind);
        is("fault 1 of '" + text + "'", court.fault(1), kind == 0 ? -1 : place);
    }

    void finish() {
        System.out.println(checked + " answers, " + wrong + " wrong");
        if (wrong != 0 || checked == 0) {
            System.exit(1);
        }
    }

    /** look(), an exception told as a number of its own. */
    static long look(BurdenCourt court, int man, int what) {
        try {
            return court.look(man, what);
        } catch (IndexOutOfBoundsException e) {
            return OUT_OF_BOUNDS;
        } catch (NoSuchElementException e) {
            return NO_SUCH_ELEMENT;
        }
    }

    static void feed(BurdenCourt court, String text) {
        for (int i = 0; i < text.length(); i += 20) {
            court.feed(word(text, i), word(text, i + 4), word(text, i + 8), word(text, i + 12), word(text, i + 16));
        }
    }

    static int statutes(BurdenCourt court, String text) {
        feed(court, text);
        return court.statutes(text.length());
    }

    static BurdenCourt court(String text) {
        BurdenCourt court = new BurdenCourt();
        if (statutes(court, text) < 0) {
            throw new IllegalArgumentException("a test's statutes have a fault: " + text);
        }
        return court;
    }

    static void men(BurdenCourt court, int... declared) {
        for (int coins : declared) {
            court.man(coins, 0);
        }
    }

    /** All that the face tells without changing anything. */
    static String picture(BurdenCourt court) {
        StringBuilder told = new StringBuilder("counts");
        for (int what = 0; what < 6; what++) {
            told.append(' ').append(court.count(what));
        }
        told.append(", fault ").append(court.fault(0)).append(' ').append(court.fault(1));
        for (int man = 0; man < court.count(0); man++) {
            told.append(", man ").append(man);
            for (int what = 0; what < 6; what++) {
                told.append(' ').append(look(court, man, what));
            }
        }
        for (int place = 0; place < court.count(1); place++) {
            told.append(", place ").append(place).append(' ').append(court.place(place, 0));
            told.append(' ').append(court.place(place, 1)).append(' ').append(court.part(place));
        }
        for (int challenge = 0; challenge < court.count(4); challenge++) {
            told.append(", challenge ").append(challenge);
            for (int what = 0; what < 6; what++) {
                told.append(' ').append(court.told(challenge, what));
            }
        }
        return told.toString();
    }

    private static int word(String text, int from) {
        int word = 0;
        for (int i = from; i < from + 4; i++) {
            word = word << 8 | (i < text.length() ? text.charAt(i) & 255 : 0);
        }
        return word;
    }
}
