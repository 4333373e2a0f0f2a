/** Promises 18 and 19: who would gain, and how many places will lack. */
public final class ForesightTest {
    public static void main(String[] args) {
        Due due = new Due();
        promise18(due);
        promise19(due);
        promise19Years(due);
        promise19InYear(due);
        due.finish();
    }

    private static void promise18(Due due) {
        BurdenCourt court = Due.court("burden A cost 10 share 1;floor 50;");
        court.man(90, 10);
        due.is("18: no year", court.gain(0, 0), Integer.MIN_VALUE);
        court.man(50, 60);
        court.man(50, 59);
        court.man(0, 111);
        due.is("18: no year", court.gain(0, 1), Integer.MIN_VALUE);
        court.begin();
        due.is("18: alike: take", court.gain(0, 1), 10);
        due.is("18: change, and y is the richer", court.gain(0, 2), 9);
        due.is("18: y need not be fit", court.gain(0, 3), 10);
        due.is("18: himself", court.gain(0, 0), Integer.MIN_VALUE);
        due.is("18: x bears nothing", court.gain(1, 0), Integer.MIN_VALUE);
        due.is("18: no such man", court.gain(0, 4), Integer.MIN_VALUE);
        due.is("18: no such man", court.gain(4, 0), Integer.MIN_VALUE);
        due.is("18: no such man", court.gain(0, -1), Integer.MIN_VALUE);
        due.is("18: no such man", court.gain(-1, 0), Integer.MIN_VALUE);
        court.man(0, 0);
        due.is("18: change with a poor one", court.gain(0, 4), -100);
        court.end();
        due.is("18: over", court.gain(0, 1), Integer.MIN_VALUE);
    }

    private static void promise19(Due due) {
        BurdenCourt court = Due.court("burden A cost 10 share 1;burden B cost 3 share 1;free 1;floor 5;");
        due.is("19: below 0", court.ahead(-1), -1);
        due.is("19: beyond 20", court.ahead(21), -1);
        due.is("19: nobody", court.ahead(20), 2);
        Due.men(court, 16, 8, 7);
        // year 0: 0 pays 10, 1 pays 3; 1: 2 pays 10; 2: 0 pays 10, 1 pays 3; then nobody is at the floor
        int[] want = {0, 1, 0, 2, 2};
        foresees(due, court, "ahead of year 0", want);
        due.is("19: nothing has changed", Due.look(court, 0, 0), 16);
        due.is("19: nothing has changed", Due.look(court, 0, 3), 0);
        for (int year = 0; year < want.length; year++) {
            due.is("19: so it comes in " + year, court.begin(), want[year]);
            court.end();
        }
    }

    private static void foresees(Due due, BurdenCourt court, String when, int... want) {
        for (int k = 0; k < want.length; k++) {
            due.is("19: " + when + ", k " + k, court.ahead(k), want[k]);
        }
    }

    private static void promise19Years(Due due) {
        BurdenCourt court = Due.court("burden A cost 1 share 1;");
        court.man(50, 0);
        for (int year = 0; year < 40; year++) {
            due.is("19: lacking", court.begin(), 0);
            court.end();
        }
        // ten coins are left: eleven years more, for at 0 he is still not below the floor
        for (int k = 0; k <= 20; k++) {
            due.is("19: beyond 40, k " + k, court.ahead(k), k <= 10 ? 0 : 1);
        }
    }

    private static void promise19InYear(Due due) {
        BurdenCourt court = Due.court("burden A cost 5 share 1;free 1;answer 60;floor 12;");
        Due.men(court, 20);
        court.begin();
        court.man(20, 10);
        // 0 pays in the years 0 and 2, 1 in 1 and 3; then both are below the floor
        foresees(due, court, "as things stand", 0, 0, 0, 1, 1);
        court.challenge(0, 1);
        foresees(due, court, "judged to x", 0, 0, 0, 1, 1);
        court.found(1, 10);
        // 1 pays in the years 0, 2, 4 and 6, 0 in 1 and 3 alone
        int[] want = {0, 0, 0, 0, 1, 0, 1};
        foresees(due, court, "judged to y", want);
        due.is("19: it stays open", court.told(0, 4), 0);
        due.is("19: x bears still", court.place(0, 1), 0);
        due.is("19: nothing is paid", court.count(5), 0);
        for (int i = 0; i < want.length; i++) {
            due.is("19: next, " + i, court.ahead(0), want[i]);
            court.end();
            due.is("19: so it comes, " + i, court.begin(), want[i]);
        }
    }
}
