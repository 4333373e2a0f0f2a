/** Promises 9 to 11, 16, 17 and 20: places, the run of a year, costs and counts. */
public final class YearTest {
    public static void main(String[] args) {
        Due due = new Due();
        promise9(due);
        promise10(due);
        promise10Free(due);
        promise10Forty(due);
        promise11(due);
        promise16(due);
        promise16Judges(due);
        promise17(due);
        promise20(due);
        due.finish();
    }

    private static void promise9(Due due) {
        BurdenCourt court = Due.court("burden F cost 5 share 2;burden C cost 5 share 1;");
        Due.men(court, 10, 20);
        int[] names = {2, 5, 5};
        int[] bearers = {1, 0, -1};
        for (int place = 0; place < 3; place++) {
            due.is("9: name of " + place, court.place(place, 0), names[place]);
            due.is("9: no year", court.place(place, 1), -1);
        }
        court.begin();
        for (int place = 0; place < 3; place++) {
            due.is("9: bearer of " + place, court.place(place, 1), bearers[place]);
        }
        due.is("9: no such place", court.place(3, 0), -2);
        due.is("9: no such place", court.place(-1, 1), -2);
        due.is("9: no such what", court.place(0, 2), -2);
        due.is("9: no such what", court.place(0, -1), -2);
        court.end();
        due.is("9: the year is over", court.place(0, 1), -1);
    }

    private static void promise10(Due due) {
        BurdenCourt court = Due.court("burden A cost 4 share 2;burden B cost 1 share 3;floor 5;");
        due.is("10: nobody", court.begin(), 5);
        due.is("10: a year is on", court.begin(), -1);
        court.end();
        Due.men(court, 4, 5, 9, 9, 7);
        due.is("10: one below the floor", court.begin(), 1);
        int[] want = {2, 3, 4, 1, -1};
        for (int place = 0; place < want.length; place++) {
            due.is("10: bearer of " + place, court.place(place, 1), want[place]);
        }
        due.is("10: day 0", court.count(3), 0);
    }

    private static void promise10Free(Due due) {
        BurdenCourt court = Due.court("burden A cost 4 share 1;free 1;");
        Due.men(court, 50, 40);
        int[] want = {0, 1, 0, 1};
        for (int year = 0; year < want.length; year++) {
            due.is("10: lacking in " + year, court.begin(), 0);
            due.is("10: bearer in " + year, court.place(0, 1), want[year]);
            court.end();
        }
        Due.statutes(court, "burden A cost 4 share 2;free 9;");
        due.is("10: the last bearer is free", court.begin(), 1);
        court.end();
        for (int year = 5; year < 14; year++) {
            int lacking = year == 5 ? 1 : 2;
            due.is("10: nine years free, " + year, court.begin(), lacking);
            court.end();
        }
        due.is("10: the first is back", court.begin(), 1);
    }

    private static void promise10Forty(Due due) {
        BurdenCourt court = new BurdenCourt();
        for (int year = 0; year < 40; year++) {
            due.is("10: year " + year, court.begin(), 0);
            court.end();
        }
        due.is("10: there were 40", court.begin(), -1);
        due.is("10: 40 begun", court.count(2), 40);
        due.is("10: no year is on", court.end(), -1);
    }

    private static void promise11(Due due) {
        BurdenCourt court = new BurdenCourt();
        due.is("11: no year", court.pass(0), -1);
        court.begin();
        due.is("11: below 0", court.pass(-1), -1);
        due.is("11: no such number", court.pass(401), -1);
        due.is("11: no such number", court.pass(Integer.MAX_VALUE), -1);
        due.is("11: none", court.pass(0), 0);
        due.is("11: some", court.pass(399), 399);
        due.is("11: beyond", court.pass(2), -1);
        due.is("11: nothing happened", court.count(3), 399);
        due.is("11: the last", court.pass(1), 400);
        court.end();
        due.is("11: over", court.pass(0), -1);
        court.begin();
        due.is("11: day 0 again", court.pass(0), 0);
    }

    private static void promise16(Due due) {
        BurdenCourt court = Due.court("burden A cost 11 share 4;burden B cost 3 share 4;");
        due.is("16: no year", court.end(), -1);
        Due.men(court, 20, 19, 18, 17, 2, 1);
        court.begin();
        // A: 3 3 3 2; B: 0 each and three coins left, for two that do not lack
        due.is("16: paid", court.end(), 13);
        int[] want = {17, 16, 15, 15, 1, 0};
        for (int man = 0; man < want.length; man++) {
            due.is("16: declared of " + man, Due.look(court, man, 0), want[man]);
        }
        due.is("16: over", court.end(), -1);
        court.begin();
        court.end();
        due.is("16: declared may be below 0", Due.look(court, 5, 0), -1);
        due.is("16: all paid", court.count(5), 26);
        due.is("16: below 0 is not fit", court.begin(), 3);
    }

    private static void promise16Judges(Due due) {
        BurdenCourt court = Due.court("burden A cost 6 share 2;answer 60;swear 60;");
        Due.men(court, 20, 19);
        court.begin();
        Due.men(court, 50, 1);
        due.is("16: a challenge", court.challenge(0, 2), 0);
        due.is("16: a challenge", court.challenge(1, 3), 1);
        court.answer(1, false);
        court.swear(1, true);
        due.is("16: paid", court.end(), 6);
        due.is("16: judged without answer", court.told(0, 4), 4);
        due.is("16: judged by the oath", court.told(1, 4), 4);
        int[] want = {20, 19, 47, -2};
        for (int man = 0; man < want.length; man++) {
            due.is("16: declared of " + man, Due.look(court, man, 0), want[man]);
            due.is("16: years borne of " + man, Due.look(court, man, 4), man < 2 ? 0 : 1);
        }
    }

    private static void promise17(Due due) {
        BurdenCourt court = Due.court("burden A cost 11 share 3;burden B cost 2 share 1;");
        Due.men(court, 10, 9);
        due.is("17: no year", court.part(0), -1);
        court.begin();
        due.is("17: first", court.part(0), 4);
        due.is("17: second", court.part(1), 4);
        due.is("17: it lacks", court.part(2), -1);
        due.is("17: it lacks", court.part(3), -1);
        due.is("17: no such place", court.part(4), -1);
        due.is("17: no such place", court.part(-1), -1);
        due.is("17: so it is paid", court.end(), 8);
        due.is("17: over", court.part(0), -1);
        Due.men(court, 8, 7);
        court.begin();
        due.is("17: the cut one", court.part(2), 3);
        due.is("17: a burden of its own", court.part(3), 2);
    }

    private static void promise20(Due due) {
        BurdenCourt court = Due.court("burden A cost 5 share 2;answer 1;");
        Due.men(court, 30, 20, 40);
        court.begin();
        court.challenge(2, 1);
        court.pass(7);
        counts(due, court, "in the year", 3, 2, 1, 7, 1, 0);
        court.end();
        counts(due, court, "behind it", 3, 2, 1, -1, 1, 5);
        court.begin();
        counts(due, court, "in the next", 3, 2, 2, 0, 0, 5);
        due.is("20: another what", court.count(6), -1);
        due.is("20: another what", court.count(-1), -1);
    }

    private static void counts(Due due, BurdenCourt court, String when, int... want) {
        for (int what = 0; what < want.length; what++) {
            due.is("20: " + when + ", what " + what, court.count(what), want[what]);
        }
    }
}
