/** Promises 18 and 19, gain and the years to come: a test for each sentence that names a boundary case. */
public final class ForesightEdgesTest {
    private static final int NO_GAIN = Integer.MIN_VALUE;

    public static void main(String[] args) {
        Due due = new Due();
        bearsNothing(due);
        noSuchMenToGain(due);
        anotherMan(due);
        greaterWorth(due);
        partOfNoCoins(due);
        largestWorths(due);
        worthBelowNone(due);
        whoeverYIs(due);
        gainAsItComes(due);
        noSuchYearAhead(due);
        nothingToLack(due);
        everyPlaceLacks(due);
        aheadOfYearNone(due);
        asIfItEndedNow(due);
        openOnesAsJudged(due);
        beyondForty(due);
        inTheLastYear(due);
        freeYearsAhead(due);
        costsBeingPaid(due);
        nothingHappensByAsking(due);
        due.finish();
    }

    /** "Integer.MIN_VALUE: X bears nothing" */
    private static void bearsNothing(Due due) {
        BurdenCourt court = Due.court("burden A cost 1 share 1;");
        Due.men(court, 9, 8, 7);
        due.is("18: ahead of the year", court.gain(0, 1), NO_GAIN);
        court.begin();
        due.is("18: who bears", court.gain(0, 1), -1);
        due.is("18: who bears nothing", court.gain(1, 0), NO_GAIN);
        due.is("18: who bears nothing", court.gain(1, 2), NO_GAIN);
        court.challenge(0, 1);
        court.answer(0, true);
        due.is("18: who gave it away", court.gain(0, 1), NO_GAIN);
        due.is("18: who took it", court.gain(1, 0), 1);
        court.end();
        due.is("18: behind the year", court.gain(1, 0), NO_GAIN);
    }

    /** "Integer.MIN_VALUE: .. no such MEN" */
    private static void noSuchMenToGain(Due due) {
        due.is("18: without men", new BurdenCourt().gain(0, 1), NO_GAIN);
        BurdenCourt court = Due.court("burden A cost 1 share 1;");
        Due.men(court, 9, 8);
        court.begin();
        for (int man : new int[] {Integer.MIN_VALUE, -1, 2, 11, 12, Integer.MAX_VALUE}) {
            due.is("18: x " + man, court.gain(man, 1), NO_GAIN);
            due.is("18: y " + man, court.gain(0, man), NO_GAIN);
            due.is("18: both " + man, court.gain(man, man), NO_GAIN);
        }
    }

    /** "Y (another MAN)" */
    private static void anotherMan(Due due) {
        BurdenCourt court = Due.court("burden A cost 1 share 1;");
        Due.men(court, 9, 8);
        court.begin();
        due.is("18: who bears, to himself", court.gain(0, 0), NO_GAIN);
        due.is("18: who bears nothing, to himself", court.gain(1, 1), NO_GAIN);
    }

    /** "Y takes what leaves Y the greater WORTH .. alike: TAKE" */
    private static void greaterWorth(Due due) {
        // X has 100 and would pay 10; Y has from 108 to 112, most of it hidden
        int[] want = {8, 9, 10, 10, 10};
        for (int i = 0; i < want.length; i++) {
            BurdenCourt court = Due.court("burden A cost 10 share 1;");
            court.man(90, 10);
            court.man(1, 107 + i);
            court.begin();
            due.is("18: y has " + (108 + i), court.gain(0, 1), want[i]);
        }
        BurdenCourt court = Due.court("burden A cost 10 share 1;");
        Due.men(court, 100, 100, 99, 0);
        court.begin();
        due.is("18: y has as much", court.gain(0, 1), 0);
        due.is("18: y has one less", court.gain(0, 2), -1);
        due.is("18: y has nothing", court.gain(0, 3), -100);
    }

    /** a PART of no coins: there is nothing to gain by TAKE */
    private static void partOfNoCoins(Due due) {
        BurdenCourt court = Due.court("burden A cost 1 share 2;");
        Due.men(court, 50, 40);
        court.man(30, 10);
        court.man(30, 11);
        court.man(30, 9);
        court.begin();
        due.is("17: no coin", court.part(1), 0);
        due.is("18: y has as much", court.gain(1, 2), 0);
        due.is("18: y has more", court.gain(1, 3), 0);
        due.is("18: y has less", court.gain(1, 4), -1);
        due.is("18: the other place is one coin", court.gain(0, 3), -9);
    }

    /** the largest worths and the largest part */
    private static void largestWorths(Due due) {
        BurdenCourt court = Due.court("burden A cost 10000 share 1;");
        court.man(100000, 100000);
        court.man(0, 0);
        court.man(99999, 100000);
        court.man(100000, 100000);
        court.begin();
        due.is("18: with nothing", court.gain(0, 1), -200000);
        due.is("18: with one less", court.gain(0, 2), -1);
        due.is("18: with as much", court.gain(0, 3), 0);
        court.end();
        court.begin();
        due.is("10: another bears", court.place(0, 1), 3);
        due.is("18: with what is left of a year", court.gain(3, 0), -10000);
        court.end();
        court.begin();
        due.is("10: the third bears", court.place(0, 1), 2);
        due.is("18: with what is left", court.gain(2, 0), -9999);
    }

    /** worths below 0 */
    private static void worthBelowNone(Due due) {
        BurdenCourt court = Due.court("burden A cost 10 share 1;");
        Due.men(court, 0);
        court.begin();
        court.end();
        Due.men(court, 0, 3);
        court.begin();
        due.is("10: who has 3", court.place(0, 1), 2);
        due.is("18: with one below 0", court.gain(2, 0), -13);
        due.is("18: with one of 0", court.gain(2, 1), -3);
    }

    /** Y need not be one to whom it can be said */
    private static void whoeverYIs(Due due) {
        BurdenCourt court = Due.court("burden A cost 10 share 2;floor 5;answer 9;");
        Due.men(court, 90, 80);
        court.man(4, 500);
        Due.men(court, 70);
        court.begin();
        due.is("18: y bears", court.gain(0, 1), -10);
        due.is("18: y bears", court.gain(1, 0), 5);
        due.is("18: y is below the floor", court.gain(0, 2), 5);
        court.challenge(0, 3);
        due.is("18: one is open with both", court.gain(0, 3), -20);
        due.is("18: one is open with y", court.gain(1, 3), -10);
        court.answer(0, true);
        due.is("18: y has borne it", court.gain(3, 0), 5);
    }

    /** "GAIN is what X has then, less what X has by saying nothing": played to the end both ways */
    private static void gainAsItComes(Due due) {
        for (int worth = 85; worth <= 130; worth += 5) {
            int silent = worthBehind(worth, false);
            int saying = worthBehind(worth, true);
            BurdenCourt court = began(worth);
            due.is("18: y has " + worth, court.gain(0, 1), saying - silent);
        }
    }

    private static BurdenCourt began(int worth) {
        BurdenCourt court = Due.court("burden A cost 21 share 2;answer 9;swear 9;");
        court.man(100, 0);
        court.man(40, worth - 40);
        court.man(50, 0);
        court.begin();
        return court;
    }

    /** What X has behind the year; Y answers as is best for Y (of like ones TAKE). */
    private static int worthBehind(int worth, boolean saying) {
        int[] ofX = new int[2];
        int[] ofY = new int[2];
        for (int way = 0; way < 2; way++) {
            BurdenCourt court = began(worth);
            if (saying) {
                court.challenge(0, 1);
                court.answer(0, way == 0);
                court.swear(0, true);
                court.swear(0, false);
            }
            court.end();
            ofX[way] = court.look(0, 0) + court.look(0, 1);
            ofY[way] = court.look(1, 0) + court.look(1, 1);
        }
        return ofY[1] > ofY[0] ? ofX[1] : ofX[0];
    }

    /** "in the k-th YEAR to come (0 up to 20); NONE for others" */
    private static void noSuchYearAhead(Due due) {
        BurdenCourt court = Due.court("burden A cost 1 share 1;");
        for (int year = 0; year < 2; year++) {
            for (int k : new int[] {Integer.MIN_VALUE, -1, 21, 40, Integer.MAX_VALUE}) {
                due.is("19: k " + k, court.ahead(k), -1);
            }
            due.is("19: the first", court.ahead(0), 1);
            due.is("19: the last", court.ahead(20), 1);
            court.begin();
        }
    }

    /** without statutes there is nothing that could lack */
    private static void nothingToLack(Due due) {
        BurdenCourt court = new BurdenCourt();
        due.is("19: nothing, k 0", court.ahead(0), 0);
        due.is("19: nothing, k 20", court.ahead(20), 0);
        due.is("19: but none for others", court.ahead(21), -1);
    }

    /** without men all of 24 places lack */
    private static void everyPlaceLacks(Due due) {
        StringBuilder text = new StringBuilder();
        for (char name = 'A'; name <= 'F'; name++) {
            text.append("burden ").append(name).append(" cost 1 share 4;");
        }
        BurdenCourt court = Due.court(text.toString());
        due.is("19: k 0", court.ahead(0), 24);
        due.is("19: k 20", court.ahead(20), 24);
        Due.men(court, 1);
        due.is("19: one man, k 0", court.ahead(0), 23);
        due.is("19: one man, k 1", court.ahead(1), 23);
        due.is("19: he paid the one coin twice, k 2", court.ahead(2), 24);
    }

    /** "from the one that would begin next on" */
    private static void aheadOfYearNone(Due due) {
        BurdenCourt court = Due.court("burden A cost 5 share 1;free 1;");
        Due.men(court, 20);
        for (int year = 0; year < 4; year++) {
            due.is("19: ahead of year " + year, court.ahead(0), year % 2);
            due.is("19: the one behind it, " + year, court.ahead(1), 1 - year % 2);
            due.is("10: so it comes", court.begin(), year % 2);
            due.is("19: in year " + year, court.ahead(0), 1 - year % 2);
            due.is("19: in year " + year, court.ahead(1), year % 2);
            court.end();
        }
    }

    /** "(in a YEAR: as if it ended now)": costs are paid, who bears is free behind it */
    private static void asIfItEndedNow(Due due) {
        BurdenCourt court = Due.court("burden A cost 5 share 1;floor 10;");
        Due.men(court, 15);
        due.is("19: ahead of it, k 0", court.ahead(0), 0);
        due.is("19: ahead of it, k 1", court.ahead(1), 0);
        due.is("19: ahead of it, k 2", court.ahead(2), 1);
        court.begin();
        due.is("19: in it, k 0", court.ahead(0), 0);
        due.is("19: in it, k 1", court.ahead(1), 1);
        court.man(10, 0);
        due.is("19: who came in it, k 0", court.ahead(0), 0);
        due.is("19: who came in it, k 1", court.ahead(1), 0);
        due.is("19: who came in it, k 2", court.ahead(2), 1);
        court.challenge(0, 1);
        court.answer(0, true);
        due.is("19: who took it, k 1", court.ahead(1), 0);
        due.is("19: who took it, k 2", court.ahead(2), 1);
    }

    /** "as if it ended now": what is open is judged as end() does, each way */
    private static void openOnesAsJudged(Due due) {
        for (int oath = 0; oath < 4; oath++) {
            BurdenCourt court = Due.court("burden A cost 5 share 1;free 1;floor 12;answer 60;swear 60;");
            Due.men(court, 30, 12);
            court.begin();
            court.challenge(0, 1);
            if (oath < 3) {
                court.answer(0, false);
            }
            if (oath == 1 || oath == 2) {
                court.swear(0, oath == 1);
            }
            // by x alone: 1 pays and is below the floor then, so only 0 bears, every other year;
            // else 0 pays, 1 bears in year 1, then only 0, every other year
            int[] want = oath == 1 ? new int[] {0, 1, 0, 1} : new int[] {0, 0, 1, 0};
            for (int k = 0; k < want.length; k++) {
                due.is("19: oath " + oath + ", k " + k, court.ahead(k), want[k]);
            }
            due.is("15: it stays open, oath " + oath, court.told(0, 4), oath == 3 ? 0 : 1);
            due.is("9: x bears still, oath " + oath, court.place(0, 1), 0);
            court.end();
            for (int k = 0; k < want.length; k++) {
                due.is("19: behind end(), oath " + oath + ", k " + k, court.ahead(k), want[k]);
            }
        }
    }

    /** "(Also beyond 40.)" */
    private static void beyondForty(Due due) {
        BurdenCourt court = Due.court("burden A cost 1 share 1;free 1;");
        Due.men(court, 90);
        for (int year = 0; year < 40; year++) {
            if (year >= 30) {
                due.is("19: over year 40, k 20 of " + year, court.ahead(20), year % 2);
            }
            court.begin();
            court.end();
        }
        due.is("10: there were 40", court.begin(), -1);
        for (int k = 0; k <= 20; k++) {
            due.is("19: beyond 40, k " + k, court.ahead(k), k % 2);
        }
        due.is("20: none began", court.count(2), 40);
    }

    /** the last year that can be is on */
    private static void inTheLastYear(Due due) {
        BurdenCourt court = Due.court("burden A cost 1 share 1;free 1;");
        Due.men(court, 90);
        for (int year = 0; year < 39; year++) {
            court.begin();
            court.end();
        }
        court.begin();
        due.is("19: year 40", court.ahead(0), 0);
        due.is("19: year 41", court.ahead(1), 1);
        due.is("19: year 60", court.ahead(20), 0);
    }

    /** free years up to 9 are over in time, ahead too */
    private static void freeYearsAhead(Due due) {
        for (int free = 0; free <= 9; free++) {
            BurdenCourt court = Due.court("burden A cost 1 share 1;free " + free + ";");
            Due.men(court, 90);
            for (int k = 0; k <= 20; k++) {
                due.is("19: free " + free + ", k " + k, court.ahead(k), k % (free + 1) == 0 ? 0 : 1);
            }
        }
    }

    /** "costs being paid": down to the floor and below it */
    private static void costsBeingPaid(Due due) {
        BurdenCourt court = Due.court("burden A cost 3 share 2;floor 10;");
        Due.men(court, 14, 10);
        // 0 pays 2 in each year, 1 pays 1 once; 14 12 10 8: three years
        int[] want = {0, 1, 1, 2, 2};
        for (int k = 0; k < want.length; k++) {
            due.is("19: k " + k, court.ahead(k), want[k]);
        }
        for (int year = 0; year < want.length; year++) {
            due.is("10: so it comes in year " + year, court.begin(), want[year]);
            court.end();
        }
    }

    /** what is asked changes nothing */
    private static void nothingHappensByAsking(Due due) {
        BurdenCourt court = Due.court("burden A cost 5 share 2;floor 1;free 1;answer 3;swear 3;");
        Due.men(court, 9, 8, 7);
        String before = Due.picture(court);
        court.ahead(20);
        due.is("19: ahead of the year", Due.picture(court), before);
        court.begin();
        court.challenge(0, 2);
        court.answer(0, false);
        court.swear(0, true);
        before = Due.picture(court);
        court.ahead(20);
        court.gain(0, 1);
        court.gain(1, 2);
        court.part(0);
        due.is("19: in the year", Due.picture(court), before);
        court.end();
        before = Due.picture(court);
        court.ahead(20);
        due.is("19: behind the year", Due.picture(court), before);
    }
}
