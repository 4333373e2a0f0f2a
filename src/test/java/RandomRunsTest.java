import java.util.NoSuchElementException;
import java.util.Random;

/** Runs of chance calls: the program answers as PlainCourt does, and throws nothing else. */
public final class RandomRunsTest {
    private static final int RUNS = 2000;
    /** With those of whole() and what a last text needs, fewer than the 512 that an object is promised for. */
    private static final int CALLS = 400;
    private static final int[] WILD = {Integer.MIN_VALUE, -2, -1, 600, 1 << 16, Integer.MAX_VALUE};

    private final Random random;
    private final BurdenCourt court = new BurdenCourt();
    private final PlainCourt plain = new PlainCourt();
    private final int run;
    private int calls = 0;
    private String text = "";
    private int fed = 0;

    private RandomRunsTest(int number) {
        run = number;
        random = new Random(number);
    }

    public static void main(String[] args) {
        Due due = new Due();
        for (int run = 0; run < RUNS; run++) {
            new RandomRunsTest(run).go(due);
        }
        due.finish();
    }

    private void go(Due due) {
        // some runs are of poor men, so that floors and freedoms bite; some of rich ones
        int coins = new int[] {30, 300, 100000}[random.nextInt(3)];
        for (int men = random.nextInt(9); men > 0; men--) {
            calls++;
            int declared = random.nextInt(coins + 1);
            due.is("run " + run + ": man", court.man(declared, coins / 2), plain.man(declared, coins / 2));
        }
        text = newText();
        while (calls < CALLS) {
            calls++;
            String call;
            long got;
            long want;
            if (fed < text.length() || random.nextInt(60) == 0) {
                text(due);
                continue;
            }
            int some = random.nextBoolean() ? 13 : plain.count(0);
            int a = small(some);
            int b = small(some);
            int what = small(7);
            int suit = small(4);
            boolean yes = random.nextBoolean();
            switch (random.nextInt(25)) {
                case 0 -> { call = "fault " + what; got = court.fault(what); want = plain.fault(what); }
                case 1 -> {
                    int declared = small(coins + 1);
                    int hidden = small(coins + 1);
                    call = "man " + declared + " " + hidden;
                    got = court.man(declared, hidden);
                    want = plain.man(declared, hidden);
                }
                case 2 -> {
                    int n = small(coins / 2);
                    call = "found " + a + " " + n;
                    got = court.found(a, n) ? 1 : 0;
                    want = plain.found(a, n) ? 1 : 0;
                }
                case 3 -> { call = "look " + a + " " + what; got = Due.look(court, a, what); want = look(a, what); }
                case 4 -> { call = "richest " + a; got = court.richest(a); want = plain.richest(a); }
                case 5 -> { call = "place " + a + " " + what; got = court.place(a, what); want = plain.place(a, what); }
                case 6, 7 -> { call = "begin"; got = court.begin(); want = plain.begin(); }
                case 8 -> {
                    int days = small(random.nextInt(8) == 0 ? 403 : 9);
                    call = "pass " + days;
                    got = court.pass(days);
                    want = plain.pass(days);
                }
                case 9, 10, 11, 12, 21, 22 -> {
                    int x = random.nextBoolean() ? plain.place(random.nextInt(Math.max(1, plain.count(1))), 1) : a;
                    call = "challenge " + x + " " + b;
                    got = court.challenge(x, b);
                    want = plain.challenge(x, b);
                }
                case 13 -> {
                    int which = Math.max(0, plain.count(4) - 1) - suit / 2;
                    call = "answer " + which + " " + yes;
                    got = court.answer(which, yes) ? 1 : 0;
                    want = plain.answer(which, yes) ? 1 : 0;
                }
                case 14, 15, 23, 24 -> {
                    int which = Math.max(0, plain.count(4) - 1) - suit / 2;
                    call = "swear " + which + " " + yes;
                    got = court.swear(which, yes) ? 1 : 0;
                    want = plain.swear(which, yes) ? 1 : 0;
                }
                case 16 -> { call = "told " + a + " " + what; got = court.told(a, what); want = plain.told(a, what); }
                case 17 -> {
                    call = "end";
                    got = court.end();
                    want = plain.end();
                }
                case 18 -> { call = "part " + a; got = court.part(a); want = plain.part(a); }
                case 19 -> { call = "gain " + a + " " + b; got = court.gain(a, b); want = plain.gain(a, b); }
                default -> { int k = small(22); call = "ahead " + k; got = court.ahead(k); want = plain.ahead(k); }
            }
            due.is("run " + run + ", call " + calls + ": " + call, got, want);
            calls++;
            what = small(7);
            due.is("run " + run + ", call " + calls + ": count " + what, court.count(what), plain.count(what));
        }
        whole(due);
    }

    /** What is left behind the run: 12 * 5 + 40 calls. */
    private void whole(Due due) {
        for (int man = 0; man < 12; man++) {
            for (int what = 0; what < 5; what++) {
                due.is("run " + run + ", at its end, look " + man + " " + what,
                    Due.look(court, man, what), look(man, what));
            }
        }
        for (int suit = 0; suit < 40; suit++) {
            due.is("run " + run + ", at its end, told " + suit, court.told(suit, 4), plain.told(suit, 4));
        }
    }

    private int small(int below) {
        return random.nextInt(12) == 0 ? WILD[random.nextInt(WILD.length)] : random.nextInt(Math.max(1, below));
    }

    private long look(int man, int what) {
        try {
            return plain.look(man, what);
        } catch (IndexOutOfBoundsException e) {
            return Due.OUT_OF_BOUNDS;
        } catch (NoSuchElementException e) {
            return Due.NO_SUCH_ELEMENT;
        }
    }

    /** One call of feed(), or of statutes() when the text has been fed. */
    private void text(Due due) {
        if (fed >= text.length()) {
            text = newText();
            fed = 0;
        }
        int[] numbers = new int[5];
        for (int i = 0; i < 20; i++) {
            int sign = fed + i < text.length() ? text.charAt(fed + i) & 255 : 0;
            numbers[i / 4] = numbers[i / 4] << 8 | sign;
        }
        fed += 20;
        due.is("run " + run + ", call " + calls + ": feed",
            court.feed(numbers[0], numbers[1], numbers[2], numbers[3], numbers[4]), plain.feed(numbers));
        if (fed >= text.length()) {
            calls += 3;
            int n = random.nextInt(15) == 0 ? small(700) : text.length();
            due.is("run " + run + ", call " + calls + ": statutes of '" + text + "'",
                court.statutes(n), plain.statutes(n));
            due.is("run " + run + ": fault 0 of '" + text + "'", court.fault(0), plain.fault(0));
            due.is("run " + run + ": fault 1 of '" + text + "'", court.fault(1), plain.fault(1));
        }
    }

    private String newText() {
        StringBuilder made = new StringBuilder();
        String[] words = {"free", "floor", "answer", "swear"};
        int[] most = {3, 30, 6, 6};
        for (char name = 'F'; name >= 'A'; name--) {
            if (random.nextInt(3) == 0) {
                made.append("burden ").append(name).append(" cost ").append(1 + random.nextInt(20))
                    .append("\nshare ").append(1 + random.nextInt(4)).append(';');
            }
        }
        for (int i = 0; i < words.length; i++) {
            if (random.nextInt(4) != 0) {
                made.append(words[i]).append(' ').append(random.nextInt(most[i] + 1)).append("; ");
            }
        }
        if (made.length() > 0 && random.nextInt(3) == 0) {
            spoil(made);
        }
        return made.toString();
    }

    private void spoil(StringBuilder made) {
        int at = random.nextInt(made.length());
        switch (random.nextInt(4)) {
            case 0 -> made.deleteCharAt(at);
            case 1 -> made.setCharAt(at, (char) random.nextInt(256));
            case 2 -> made.insert(at, made.substring(at, Math.min(made.length(), at + 12)));
            default -> made.insert(at, " 09;AGz\t".charAt(random.nextInt(8)));
        }
    }
}
