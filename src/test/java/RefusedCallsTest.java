import java.util.ArrayList;
import java.util.List;
import java.util.function.Supplier;
import java.util.function.ToLongFunction;

/**
 * A refused call, of whatever promise, changes nothing: a court with it and a twin without it tell
 * the same, then and behind all that comes later.
 */
public final class RefusedCallsTest {
    private record Call(String name, ToLongFunction<BurdenCourt> made, long answer) { }

    private record Moment(String name, Supplier<BurdenCourt> made, List<Call> refused) { }

    public static void main(String[] args) {
        Due due = new Due();
        for (Moment moment : moments()) {
            for (Call call : moment.refused()) {
                refuse(due, moment, call);
            }
        }
        due.finish();
    }

    private static void refuse(Due due, Moment moment, Call call) {
        BurdenCourt court = moment.made().get();
        BurdenCourt twin = moment.made().get();
        String what = moment.name() + ", " + call.name();
        due.is(what, call.made().applyAsLong(court), call.answer());
        due.is(what + ", then", Due.picture(court), Due.picture(twin));
        due.is(what + ", later", later(court), later(twin));
    }

    /** Calls that change the court, with their answers, and what it tells behind them. */
    private static String later(BurdenCourt court) {
        StringBuilder told = new StringBuilder();
        told.append(court.feed(0x20202020, 0x20202020, 0x20202020, 0x20202020, 0x20202020));
        told.append(' ').append(court.pass(1)).append(' ').append(court.swear(0, false));
        told.append(' ').append(court.challenge(1, 3)).append(' ').append(court.pass(3));
        told.append(' ').append(court.end()).append(' ').append(court.statutes(24));
        told.append(' ').append(court.begin()).append(' ').append(court.man(3, 3));
        return told.append(' ').append(Due.picture(court)).toString();
    }

    private static List<Moment> moments() {
        List<Moment> moments = new ArrayList<>();
        moments.add(new Moment("new", BurdenCourt::new, without("new")));
        moments.add(new Moment("between years", RefusedCallsTest::between, without("between")));
        moments.add(new Moment("in a year", RefusedCallsTest::inYear, within()));
        moments.add(new Moment("full", RefusedCallsTest::full, List.of(
            new Call("feed beyond 600", c -> c.feed(-1, -1, -1, -1, -1), -1),
            new Call("a thirteenth man", c -> c.man(1, 1), -1),
            new Call("a year beyond 40", BurdenCourt::begin, -1))));
        return moments;
    }

    private static BurdenCourt between() {
        BurdenCourt court = Due.court("burden A cost 7 share 2;answer 4;swear 3;floor 5;free 1;");
        Due.men(court, 40, 30);
        court.man(20, 9);
        Due.men(court, 10, 4);
        court.begin();
        court.pass(2);
        court.challenge(1, 2);
        court.end();
        Due.feed(court, "burden C cost 5 share 1;");
        return court;
    }

    /** Challenge 0 is answered with CHANGE and sworn by X, 1 is taken, 2 is open; the tape has a text. */
    private static BurdenCourt inYear() {
        BurdenCourt court = Due.court("burden A cost 7 share 3;answer 4;swear 3;floor 5;");
        Due.men(court, 40, 30, 20, 10, 4);
        court.begin();
        Due.men(court, 18, 17, 16);
        court.man(9, 6);
        court.pass(399);
        court.challenge(0, 5);
        court.answer(0, false);
        court.swear(0, true);
        court.challenge(1, 6);
        court.answer(1, true);
        court.challenge(2, 7);
        Due.feed(court, "burden C cost 5 share 1;");
        return court;
    }

    private static BurdenCourt full() {
        BurdenCourt court = new BurdenCourt();
        Due.statutes(court, "burden A cost 7 share 1;answer 4;");
        for (int man = 0; man < 12; man++) {
            court.man(10 + man, 5);
        }
        for (int year = 0; year < 40; year++) {
            court.begin();
            if (year == 39) {
                court.challenge(court.place(0, 1), court.place(0, 1) == 0 ? 1 : 0);
            }
            court.end();
        }
        for (int bytes = 0; bytes < 600; bytes += 20) {
            court.feed(0x20202020, 0x20202020, 0x20202020, 0x20202020, 0x20202020);
        }
        return court;
    }

    /** What is refused when no year is on. */
    private static List<Call> without(String moment) {
        List<Call> calls = wrongNumbers();
        calls.add(new Call("pass 0", c -> c.pass(0), -1));
        calls.add(new Call("pass 1", c -> c.pass(1), -1));
        calls.add(new Call("end", BurdenCourt::end, -1));
        calls.add(new Call("challenge", c -> c.challenge(0, 2), -1));
        calls.add(new Call("answer", c -> c.answer(0, true) ? 1 : 0, 0));
        calls.add(new Call("swear", c -> c.swear(0, true) ? 1 : 0, 0));
        calls.add(new Call("part", c -> c.part(0), -1));
        calls.add(new Call("gain", c -> c.gain(0, 1), Integer.MIN_VALUE));
        if (moment.equals("new")) {
            calls.add(new Call("one byte of none", c -> c.statutes(1), -2));
            calls.add(new Call("look", c -> Due.look(c, 0, 0), Due.OUT_OF_BOUNDS));
        }
        return calls;
    }

    /** What is refused in the year of inYear(). */
    private static List<Call> within() {
        List<Call> calls = wrongNumbers();
        calls.add(new Call("begin", BurdenCourt::begin, -1));
        calls.add(new Call("statutes", c -> c.statutes(24), -2));
        calls.add(new Call("no statutes", c -> c.statutes(0), -2));
        calls.add(new Call("beyond day 400", c -> c.pass(2), -1));
        calls.add(new Call("far beyond day 400", c -> c.pass(400), -1));
        calls.add(new Call("x has an open one", c -> c.challenge(0, 3), -1));
        calls.add(new Call("y has an open one", c -> c.challenge(6, 7), -1));
        calls.add(new Call("y has borne it", c -> c.challenge(6, 1), -3));
        calls.add(new Call("y bears", c -> c.challenge(6, 0), -1));
        calls.add(new Call("y is below the floor", c -> c.challenge(6, 4), -1));
        calls.add(new Call("x bears nothing", c -> c.challenge(3, 8), -1));
        calls.add(new Call("answered", c -> c.answer(0, true) ? 1 : 0, 0));
        calls.add(new Call("taken", c -> c.answer(1, false) ? 1 : 0, 0));
        calls.add(new Call("x has sworn", c -> c.swear(0, true) ? 1 : 0, 0));
        calls.add(new Call("taken, no oath", c -> c.swear(1, true) ? 1 : 0, 0));
        calls.add(new Call("not answered, no oath of x", c -> c.swear(2, true) ? 1 : 0, 0));
        calls.add(new Call("not answered, no oath of y", c -> c.swear(2, false) ? 1 : 0, 0));
        calls.add(new Call("more than is hidden", c -> c.found(8, 7) ? 1 : 0, 0));
        calls.add(new Call("no such what of a man", c -> Due.look(c, 0, 6), Due.NO_SUCH_ELEMENT));
        return calls;
    }

    /** What is refused at any time. */
    private static List<Call> wrongNumbers() {
        List<Call> calls = new ArrayList<>();
        for (int wild : new int[] {Integer.MIN_VALUE, -1, 601, Integer.MAX_VALUE}) {
            calls.add(new Call("statutes " + wild, c -> c.statutes(wild), -2));
            calls.add(new Call("fault " + wild, c -> c.fault(wild), -1));
            int coins = wild == 601 ? 100001 : wild;
            calls.add(new Call("man, declared " + coins, c -> c.man(coins, 0), -1));
            calls.add(new Call("man, hidden " + coins, c -> c.man(0, coins), -1));
            calls.add(new Call("found, man " + wild, c -> c.found(wild, 1) ? 1 : 0, 0));
            calls.add(new Call("found, coins " + wild, c -> c.found(2, wild) ? 1 : 0, 0));
            calls.add(new Call("look, man " + wild, c -> Due.look(c, wild, 0), Due.OUT_OF_BOUNDS));
            calls.add(new Call("richest " + wild, c -> c.richest(wild), -1));
            calls.add(new Call("place " + wild, c -> c.place(wild, 1), -2));
            calls.add(new Call("place, what " + wild, c -> c.place(0, wild), -2));
            calls.add(new Call("pass " + wild, c -> c.pass(wild), -1));
            calls.add(new Call("challenge, x " + wild, c -> c.challenge(wild, 3), -1));
            calls.add(new Call("challenge, y " + wild, c -> c.challenge(1, wild), -1));
            calls.add(new Call("answer " + wild, c -> c.answer(wild, true) ? 1 : 0, 0));
            calls.add(new Call("swear " + wild, c -> c.swear(wild, false) ? 1 : 0, 0));
            calls.add(new Call("told " + wild, c -> c.told(wild, 4), -1));
            calls.add(new Call("told, what " + wild, c -> c.told(0, wild), -1));
            calls.add(new Call("part " + wild, c -> c.part(wild), -1));
            calls.add(new Call("gain, x " + wild, c -> c.gain(wild, 1), Integer.MIN_VALUE));
            calls.add(new Call("gain, y " + wild, c -> c.gain(0, wild), Integer.MIN_VALUE));
            calls.add(new Call("ahead " + wild, c -> c.ahead(wild), -1));
            calls.add(new Call("count " + wild, c -> c.count(wild), -1));
        }
        calls.add(new Call("found, no coin", c -> c.found(2, 0) ? 1 : 0, 0));
        calls.add(new Call("ahead 21", c -> c.ahead(21), -1));
        return calls;
    }
}
