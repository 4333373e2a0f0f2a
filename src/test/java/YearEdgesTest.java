/** Promises 9 to 11, 16, 17 and 20, the run of a year: a test for each sentence that names a boundary case. */
public final class YearEdgesTest {
    private static final int[] NO_WHAT = {Integer.MIN_VALUE, -1, 6, Integer.MAX_VALUE};

    public static void main(String[] args) {
        Due due = new Due();
        noSuchPlace(due);
        noSuchWhatOfAPlace(due);
        bearerOrNone(due);
        yearIsOnAlready(due);
        fortyYears(due);
        yearsFromNone(due);
        filledByDeclared(due);
        notBelowFloor(due);
        freeBehind(due);
        freeByTheStatutesOfThen(due);
        onePlaceAMan(due);
        nobodyIsFit(due);
        morePlacesThanMen(due);
        daysThatAreNoNumber(due);
        noYearToPass(due);
        beyondTheLastDay(due);
        noDayLater(due);
        noYearToEnd(due);
        endOnWhateverDay(due);
        costByShare(due);
        coinsLeftOfTheLargestCost(due);
        whatLacksNobodyPays(due);
        paidFromDeclared(due);
        noPart(due);
        partAsThingsStand(due);
        countsOfANewObject(due);
        anotherWhatOfCount(due);
        dayOrNone(due);
        fiveHundredAndTwelveCalls(due);
        due.finish();
    }

    /** "-2: no such PLACE" */
    private static void noSuchPlace(Due due) {
        due.is("9: without statutes", new BurdenCourt().place(0, 0), -2);
        due.is("9: without statutes", new BurdenCourt().place(0, 1), -2);
        BurdenCourt court = Due.court("burden A cost 1 share 2;burden C cost 1 share 1;");
        Due.men(court, 3, 2, 1);
        for (int year = 0; year < 2; year++) {
            for (int place : new int[] {Integer.MIN_VALUE, -1, 3, 23, 24, Integer.MAX_VALUE}) {
                due.is("9: name of place " + place, court.place(place, 0), -2);
                due.is("9: bearer of place " + place, court.place(place, 1), -2);
                due.is("9: neither place nor what, " + place, court.place(place, 2), -2);
            }
            due.is("9: the last", court.place(2, 0), 2);
            court.begin();
        }
        due.is("9: bearer of the last", court.place(2, 1), 2);
    }

    /** "-2: no such .. what" */
    private static void noSuchWhatOfAPlace(Due due) {
        BurdenCourt court = Due.court("burden A cost 1 share 1;");
        Due.men(court, 1);
        for (int year = 0; year < 2; year++) {
            for (int what : new int[] {Integer.MIN_VALUE, -1, 2, Integer.MAX_VALUE}) {
                due.is("9: what " + what, court.place(0, what), -2);
            }
            court.begin();
        }
    }

    /** "1: who bears it (NONE: it LACKS, or no YEAR is on)" */
    private static void bearerOrNone(Due due) {
        BurdenCourt court = Due.court("burden A cost 1 share 2;");
        Due.men(court, 1);
        due.is("9: ahead of the year", court.place(0, 1), -1);
        court.begin();
        due.is("9: in the year", court.place(0, 1), 0);
        due.is("9: it lacks", court.place(1, 1), -1);
        court.man(9, 0);
        due.is("9: it lacks all the year, whoever comes", court.place(1, 1), -1);
        court.pass(400);
        due.is("9: on the last day", court.place(0, 1), 0);
        due.is("9: it lacks on the last day", court.place(1, 1), -1);
        court.end();
        due.is("9: behind the year", court.place(0, 1), -1);
    }

    /** "NONE: a YEAR is on": nothing begins anew */
    private static void yearIsOnAlready(Due due) {
        BurdenCourt court = Due.court("burden A cost 1 share 1;answer 60;");
        Due.men(court, 5, 4);
        court.begin();
        court.pass(7);
        court.challenge(0, 1);
        due.is("10: a year is on", court.begin(), -1);
        due.is("10: years begun", court.count(2), 1);
        due.is("10: the day stays", court.count(3), 7);
        due.is("10: the challenge stays", court.told(0, 4), 0);
        due.is("10: who bears, bears", court.place(0, 1), 0);
    }

    /** "A YEAR (0, 1, ..; at most 40)"; "NONE: .. or there were 40" */
    private static void fortyYears(Due due) {
        BurdenCourt court = Due.court("burden A cost 1 share 1;answer 60;");
        Due.men(court, 90, 10);
        for (int year = 0; year < 40; year++) {
            due.is("10: begun ahead of year " + year, court.count(2), year);
            due.is("10: year " + year, court.begin(), 0);
            due.is("10: begun in year " + year, court.count(2), year + 1);
            if (year == 39) {
                due.is("12: in the last year", court.challenge(0, 1), 0);
            }
            due.is("16: year " + year, court.end(), 1);
        }
        due.is("10: there were 40", court.begin(), -1);
        due.is("10: there were 40 again", court.begin(), -1);
        due.is("10: 40 begun", court.count(2), 40);
        due.is("20: no day", court.count(3), -1);
        due.is("15: no next one began", court.told(0, 4), 5);
        due.is("20: challenges of the last one", court.count(4), 1);
        due.is("16: none is on", court.end(), -1);
        due.is("11: none is on", court.pass(0), -1);
        due.is("20: paid", court.count(5), 40);
        due.is("7: years borne", Due.look(court, 0, 4), 40);
        due.is("7: the first year not free", Due.look(court, 0, 3), 40);
    }

    /** "ahead of YEAR 0": a year without places counts too */
    private static void yearsFromNone(Due due) {
        BurdenCourt court = new BurdenCourt();
        due.is("20: none begun", court.count(2), 0);
        due.is("10: without places", court.begin(), 0);
        due.is("16: nothing is paid", court.end(), 0);
        Due.statutes(court, "burden A cost 1 share 1;");
        Due.men(court, 1);
        court.begin();
        court.end();
        due.is("7: he bore in year 1", Due.look(court, 0, 3), 2);
    }

    /** "each by the richest, by DECLARED, of like ones the lesser number" */
    private static void filledByDeclared(Due due) {
        BurdenCourt court = Due.court("burden A cost 1 share 4;");
        court.man(5, 0);
        court.man(6, 0);
        court.man(6, 100000);
        court.man(7, 0);
        court.man(0, 100000);
        court.begin();
        int[] want = {3, 1, 2, 0};
        for (int place = 0; place < 4; place++) {
            due.is("10: place " + place, court.place(place, 1), want[place]);
        }
    }

    /** "FIT: DECLARED is not below floor" */
    private static void notBelowFloor(Due due) {
        for (int floor : new int[] {1, 50, 99999, 100000}) {
            BurdenCourt court = Due.court("burden A cost 1 share 2;floor " + floor + ";");
            court.man(floor - 1, 100000);
            due.is("10: one below floor " + floor, court.begin(), 2);
            court.end();
            court.man(floor, 0);
            due.is("10: at floor " + floor, court.begin(), 1);
            due.is("10: he bears, floor " + floor, court.place(0, 1), 1);
            court.end();
            due.is("10: he paid and is below floor " + floor, court.begin(), 2);
        }
        BurdenCourt court = Due.court("burden A cost 1 share 1;floor 0;");
        court.man(0, 0);
        due.is("10: nothing is at floor 0", court.begin(), 0);
        court.end();
        due.is("10: -1 is below floor 0", court.begin(), 1);
    }

    /** "a man who bore is free for so many YEARS behind that one" */
    private static void freeBehind(Due due) {
        for (int free = 0; free <= 9; free++) {
            BurdenCourt court = Due.court("burden A cost 1 share 1;free " + free + ";");
            Due.men(court, 90);
            for (int year = 0; year <= 2 * free + 2; year++) {
                boolean bears = year % (free + 1) == 0;
                due.is("10: free " + free + ", year " + year, court.begin(), bears ? 0 : 1);
                court.end();
            }
        }
    }

    /** "the first YEAR in which he isn't FREE by what he bore": later statutes do not alter it */
    private static void freeByTheStatutesOfThen(Due due) {
        BurdenCourt court = Due.court("burden A cost 1 share 1;free 3;");
        Due.men(court, 90);
        court.begin();
        court.end();
        Due.statutes(court, "burden A cost 1 share 1;");
        for (int year = 1; year < 4; year++) {
            due.is("10: free in year " + year, court.begin(), 1);
            court.end();
        }
        due.is("10: not free in year 4", court.begin(), 0);
        court.end();
        Due.statutes(court, "burden A cost 1 share 1;free 9;");
        due.is("10: he bore when free was 0", court.begin(), 0);
    }

    /** "bearing nothing in this YEAR" */
    private static void onePlaceAMan(Due due) {
        BurdenCourt court = Due.court("burden A cost 1 share 1;burden B cost 1 share 1;");
        Due.men(court, 90);
        due.is("10: one man, two places", court.begin(), 1);
        due.is("10: the first", court.place(0, 1), 0);
        due.is("10: the second lacks", court.place(1, 1), -1);
        court.end();
        due.is("7: one year borne", Due.look(court, 0, 4), 1);
    }

    /** "If nobody is FIT it LACKS" */
    private static void nobodyIsFit(Due due) {
        BurdenCourt court = Due.court("burden A cost 1 share 1;free 1;floor 10;");
        due.is("10: no men", court.begin(), 1);
        due.is("16: nobody pays", court.end(), 0);
        Due.men(court, 9);
        due.is("10: all below the floor", court.begin(), 1);
        due.is("16: nobody pays", court.end(), 0);
        Due.men(court, 20);
        due.is("10: one is fit", court.begin(), 0);
        court.end();
        due.is("10: one below the floor, one free", court.begin(), 1);
        due.is("16: nobody pays", court.end(), 0);
        due.is("10: one is fit again", court.begin(), 0);
    }

    /** twelve men bear at most twelve of 24 places */
    private static void morePlacesThanMen(Due due) {
        StringBuilder text = new StringBuilder();
        for (char name = 'A'; name <= 'F'; name++) {
            text.append("burden ").append(name).append(" cost 10000 share 4;");
        }
        BurdenCourt court = Due.court(text.toString());
        for (int man = 0; man < 12; man++) {
            court.man(100000 - man, 0);
        }
        due.is("10: half of them lack", court.begin(), 12);
        for (int place = 0; place < 24; place++) {
            due.is("9: bearer of place " + place, court.place(place, 1), place < 12 ? place : -1);
            due.is("17: part of place " + place, court.part(place), place < 12 ? 2500 : -1);
        }
        due.is("16: paid", court.end(), 30000);
        for (int man = 0; man < 12; man++) {
            due.is("16: declared of " + man, Due.look(court, man, 0), 97500 - man);
        }
    }

    /** "So many DAYS later (0 .. 400)"; "NONE, and nothing happens: no such number" */
    private static void daysThatAreNoNumber(Due due) {
        BurdenCourt court = new BurdenCourt();
        court.begin();
        for (int days : new int[] {Integer.MIN_VALUE, -400, -1, 401, Integer.MAX_VALUE}) {
            due.is("11: on day 0, " + days, court.pass(days), -1);
        }
        due.is("11: still day 0", court.count(3), 0);
        due.is("11: some", court.pass(200), 200);
        for (int days : new int[] {Integer.MIN_VALUE, -200, -1, 401, Integer.MAX_VALUE - 199, Integer.MAX_VALUE}) {
            due.is("11: on day 200, " + days, court.pass(days), -1);
        }
        due.is("11: still day 200", court.count(3), 200);
        court.end();
        court.begin();
        due.is("11: all of them", court.pass(400), 400);
    }

    /** "NONE, and nothing happens: .. no YEAR is on" */
    private static void noYearToPass(Due due) {
        BurdenCourt court = new BurdenCourt();
        due.is("11: ahead of year 0", court.pass(0), -1);
        due.is("11: ahead of year 0", court.pass(1), -1);
        court.begin();
        due.is("11: no day has passed", court.count(3), 0);
        court.pass(3);
        court.end();
        due.is("11: behind year 0", court.pass(1), -1);
        court.begin();
        due.is("11: day 0 of year 1", court.count(3), 0);
    }

    /** "NONE, and nothing happens: .. or beyond 400" */
    private static void beyondTheLastDay(Due due) {
        BurdenCourt court = Due.court("burden A cost 1 share 1;answer 2;");
        Due.men(court, 5, 4);
        court.begin();
        due.is("11: 1", court.pass(1), 1);
        due.is("11: 1 and 400", court.pass(400), -1);
        due.is("11: 1 and 398", court.pass(398), 399);
        court.challenge(0, 1);
        due.is("11: 399 and 2", court.pass(2), -1);
        due.is("11: still 399", court.count(3), 399);
        due.is("11: 399 and 400", court.pass(400), -1);
        due.is("11: nothing was judged", court.told(0, 4), 0);
        due.is("11: 399 and 1", court.pass(1), 400);
        due.is("11: 400 and 1", court.pass(1), -1);
        due.is("11: 400 and 0", court.pass(0), 400);
        due.is("15: a term may end behind the last day", court.told(0, 5), 401);
        due.is("13: so it can be answered", court.answer(0, true), true);
    }

    /** "So many DAYS later (0 ..": none is a number too */
    private static void noDayLater(Due due) {
        BurdenCourt court = Due.court("burden A cost 1 share 1;");
        Due.men(court, 5, 9);
        court.begin();
        court.challenge(1, 0);
        due.is("11: none on day 0", court.pass(0), 0);
        due.is("11: nothing is judged by it", court.told(0, 4), 0);
        due.is("11: one", court.pass(1), 1);
        due.is("11: judged by it", court.told(0, 4), 5);
    }

    /** "NONE: no YEAR is on" */
    private static void noYearToEnd(Due due) {
        BurdenCourt court = Due.court("burden A cost 6 share 1;");
        Due.men(court, 20);
        due.is("16: ahead of year 0", court.end(), -1);
        court.begin();
        due.is("16: year 0", court.end(), 6);
        due.is("16: twice", court.end(), -1);
        due.is("16: paid once", Due.look(court, 0, 0), 14);
        due.is("20: paid once", court.count(5), 6);
        due.is("7: borne once", Due.look(court, 0, 4), 1);
    }

    /** "end(): on whatever DAY" */
    private static void endOnWhateverDay(Due due) {
        for (int day : new int[] {0, 1, 399, 400}) {
            BurdenCourt court = Due.court("burden A cost 6 share 1;answer 60;");
            Due.men(court, 20, 10);
            court.begin();
            court.pass(day);
            court.challenge(0, 1);
            due.is("16: on day " + day, court.end(), 6);
            due.is("16: judged on day " + day, court.told(0, 4), 5);
            due.is("16: its term does not run, day " + day, court.told(0, 5), -1);
            due.is("16: over on day " + day, court.count(3), -1);
        }
    }

    /** "cost by share, cut, and of the coins left one each those in order of PLACES" */
    private static void costByShare(Due due) {
        int[] costs = {1, 2, 3, 4, 5, 6, 7, 8, 9999, 10000};
        for (int share = 1; share <= 4; share++) {
            for (int cost : costs) {
                BurdenCourt court = Due.court("burden A cost " + cost + " share " + share + ";");
                Due.men(court, 40000, 30000, 20000, 10000);
                court.begin();
                int ahead = 0;
                for (int place = 0; place < share; place++) {
                    // the first of n places pays a part of what is left, cut upward
                    int left = share - place;
                    int part = (cost - ahead + left - 1) / left;
                    due.is("17: cost " + cost + " share " + share + " place " + place, court.part(place), part);
                    ahead += part;
                }
                due.is("16: cost " + cost + " share " + share, court.end(), cost);
            }
        }
    }

    /** each burden's coins left are its own */
    private static void coinsLeftOfTheLargestCost(Due due) {
        BurdenCourt court = Due.court("burden B cost 10000 share 3;burden A cost 1 share 2;burden F cost 3 share 4;");
        for (int man = 0; man < 9; man++) {
            court.man(50000 - man, 0);
        }
        court.begin();
        int[] want = {1, 0, 3334, 3333, 3333, 1, 1, 1, 0};
        for (int place = 0; place < want.length; place++) {
            due.is("17: place " + place, court.part(place), want[place]);
        }
        due.is("16: paid", court.end(), 10004);
        for (int man = 0; man < want.length; man++) {
            due.is("16: declared of " + man, Due.look(court, man, 0), 50000 - man - want[man]);
        }
    }

    /** "What a PLACE that LACKS would have, nobody pays" */
    private static void whatLacksNobodyPays(Due due) {
        int[][] want = {{}, {3}, {3, 3}, {3, 3, 3}, {3, 3, 3, 2}};
        for (int men = 0; men <= 4; men++) {
            BurdenCourt court = Due.court("burden A cost 11 share 4;");
            int paid = 0;
            for (int man = 0; man < men; man++) {
                court.man(50 - man, 0);
                paid += want[men][man];
            }
            due.is("10: lacking with " + men, court.begin(), 4 - men);
            for (int place = 0; place < 4; place++) {
                due.is("17: place " + place + " with " + men, court.part(place), place < men ? want[men][place] : -1);
            }
            due.is("16: paid by " + men, court.end(), paid);
            due.is("20: paid by " + men, court.count(5), paid);
        }
    }

    /** "it is paid from DECLARED" */
    private static void paidFromDeclared(Due due) {
        BurdenCourt court = Due.court("burden A cost 10000 share 1;");
        court.man(9999, 100000);
        court.begin();
        due.is("16: paid", court.end(), 10000);
        due.is("16: declared", Due.look(court, 0, 0), -1);
        due.is("16: hidden", Due.look(court, 0, 1), 100000);
    }

    /** "NONE: no such PLACE, no YEAR is on, or it LACKS" */
    private static void noPart(Due due) {
        due.is("17: without statutes", new BurdenCourt().part(0), -1);
        BurdenCourt court = Due.court("burden A cost 1 share 2;");
        Due.men(court, 1);
        due.is("17: ahead of the year", court.part(0), -1);
        court.begin();
        for (int place : new int[] {Integer.MIN_VALUE, -1, 2, 23, 24, Integer.MAX_VALUE}) {
            due.is("17: place " + place, court.part(place), -1);
        }
        due.is("17: borne", court.part(0), 1);
        due.is("17: it lacks", court.part(1), -1);
        court.end();
        due.is("17: behind the year", court.part(0), -1);
    }

    /** "What the bearer of a PLACE would pay by end() as things stand": a part of no coins is no NONE */
    private static void partAsThingsStand(Due due) {
        BurdenCourt court = Due.court("burden A cost 1 share 2;");
        Due.men(court, 5, 4, 3);
        court.begin();
        due.is("17: the one coin", court.part(0), 1);
        due.is("17: no coin", court.part(1), 0);
        court.challenge(0, 2);
        court.answer(0, true);
        due.is("17: it hangs on the place", court.part(0), 1);
        court.end();
        due.is("16: who took it, paid it", Due.look(court, 2, 0), 2);
        due.is("16: who pays no coin bears too", Due.look(court, 1, 4), 1);
    }

    /** "No MEN, no STATUTES, ahead of YEAR 0" */
    private static void countsOfANewObject(Due due) {
        int[] want = {0, 0, 0, -1, 0, 0};
        for (int what = 0; what < want.length; what++) {
            due.is("1: count " + what, new BurdenCourt().count(what), want[what]);
        }
    }

    /** "NONE for another what" */
    private static void anotherWhatOfCount(Due due) {
        BurdenCourt court = Due.court("burden A cost 1 share 1;");
        Due.men(court, 1);
        for (int year = 0; year < 2; year++) {
            for (int what : NO_WHAT) {
                due.is("20: what " + what, court.count(what), -1);
            }
            court.begin();
        }
    }

    /** "3 the DAY (NONE without a YEAR)" */
    private static void dayOrNone(Due due) {
        BurdenCourt court = new BurdenCourt();
        for (int year = 0; year < 2; year++) {
            due.is("20: ahead of year " + year, court.count(3), -1);
            court.begin();
            due.is("20: begin", court.count(3), 0);
            court.pass(400);
            due.is("20: the last", court.count(3), 400);
            court.end();
            due.is("20: behind year " + year, court.count(3), -1);
        }
    }

    /** "used for at most 512 calls": the 512th is answered as the first */
    private static void fiveHundredAndTwelveCalls(Due due) {
        BurdenCourt court = new BurdenCourt();
        for (int call = 1; call <= 512; call++) {
            int left = call % 2;
            due.is("call " + call, left == 1 ? court.feed(-1, 0, 0, 0, 0) : court.statutes(20), left == 1 ? 20 : -1);
        }
    }
}
