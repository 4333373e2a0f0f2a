/** Promises 5 to 8, men and their estates: a test for each sentence that names a boundary case. */
public final class MenEdgesTest {
    private static final int[] NO_MEN_OF_TWO = {Integer.MIN_VALUE, -1, 2, 11, 12, Integer.MAX_VALUE};

    public static void main(String[] args) {
        Due due = new Due();
        atMostTwelve(due);
        coinsWhenAManComes(due);
        declaredBelowNone(due);
        declaredAboveMost(due);
        oneUpToHidden(due);
        foundOfNoSuchMan(due);
        foundMakesFit(due);
        noSuchMan(due);
        noSuchWhat(due);
        placeBorneOrNone(due);
        firstYearNotFree(due);
        yearsBorne(due);
        fitNow(due);
        noneSuchRichest(due);
        likeOnes(due);
        due.finish();
    }

    /** "MEN, at most 12, numbered from 0 on"; "NONE: .. or there are 12" */
    private static void atMostTwelve(Due due) {
        BurdenCourt court = new BurdenCourt();
        due.is("5: none yet", court.count(0), 0);
        for (int man = 0; man < 12; man++) {
            due.is("5: a refused one takes no number", court.man(-1, 0), -1);
            due.is("5: number", court.man(man, 12 - man), man);
            due.is("5: how many", court.count(0), man + 1);
        }
        due.is("5: a thirteenth", court.man(5, 5), -1);
        due.is("5: a thirteenth without coins", court.man(0, 0), -1);
        due.is("5: still 12", court.count(0), 12);
        due.is("5: there is no 12", Due.look(court, 12, 0), Due.OUT_OF_BOUNDS);
        for (int man = 0; man < 12; man++) {
            due.is("5: declared stays", Due.look(court, man, 0), man);
            due.is("5: hidden stays", Due.look(court, man, 1), 12 - man);
        }
    }

    /** "0 .. 100000 each when a man comes"; "NONE: no such coins" */
    private static void coinsWhenAManComes(Due due) {
        BurdenCourt court = new BurdenCourt();
        for (int coins : new int[] {Integer.MIN_VALUE, -1, 100001, Integer.MAX_VALUE}) {
            due.is("5: declared " + coins, court.man(coins, 0), -1);
            due.is("5: hidden " + coins, court.man(0, coins), -1);
            due.is("5: both " + coins, court.man(coins, coins), -1);
        }
        due.is("5: none came", court.count(0), 0);
        int[][] estates = {{0, 0}, {100000, 0}, {0, 100000}, {100000, 100000}, {1, 99999}};
        for (int man = 0; man < estates.length; man++) {
            due.is("5: he comes", court.man(estates[man][0], estates[man][1]), man);
            due.is("5: his declared", Due.look(court, man, 0), estates[man][0]);
            due.is("5: his hidden", Due.look(court, man, 1), estates[man][1]);
        }
    }

    /** "DECLARED may come to be below 0" */
    private static void declaredBelowNone(Due due) {
        BurdenCourt court = Due.court("burden A cost 10 share 1;");
        court.man(0, 7);
        court.begin();
        due.is("16: he pays what he has not", court.end(), 10);
        due.is("7: below 0", Due.look(court, 0, 0), -10);
        due.is("7: hidden coins pay nothing", Due.look(court, 0, 1), 7);
        court.man(0, 0);
        due.is("8: 0 is above it", court.richest(0), 1);
        due.is("8: below 0 is the last", court.richest(1), 0);
        due.is("6: found", court.found(0, 7), true);
        due.is("6: still below 0", Due.look(court, 0, 0), -3);
        due.is("10: below 0 is below floor 0", court.begin(), 0);
        due.is("10: so the other bears", court.place(0, 1), 1);
        due.is("7: below 0 is not fit", Due.look(court, 0, 5), 0);
    }

    /** more than a man may come with, when hidden coins are found */
    private static void declaredAboveMost(Due due) {
        BurdenCourt court = new BurdenCourt();
        court.man(100000, 100000);
        due.is("6: all of them", court.found(0, 100000), true);
        due.is("6: declared", Due.look(court, 0, 0), 200000);
        due.is("6: hidden", Due.look(court, 0, 1), 0);
    }

    /** "false: .. or not 1 .. HIDDEN" */
    private static void oneUpToHidden(Due due) {
        BurdenCourt court = new BurdenCourt();
        court.man(10, 5);
        for (int coins : new int[] {Integer.MIN_VALUE, -1, 0, 6, Integer.MAX_VALUE}) {
            due.is("6: " + coins + " of 5", court.found(0, coins), false);
        }
        due.is("6: nothing was found", Due.look(court, 0, 0), 10);
        due.is("6: 1 of 5", court.found(0, 1), true);
        due.is("6: 5 of 4", court.found(0, 5), false);
        due.is("6: 4 of 4", court.found(0, 4), true);
        due.is("6: 1 of 0", court.found(0, 1), false);
        due.is("6: 0 of 0", court.found(0, 0), false);
        due.is("6: declared", Due.look(court, 0, 0), 15);
        due.is("6: hidden", Due.look(court, 0, 1), 0);
    }

    /** "false: no such MAN" */
    private static void foundOfNoSuchMan(Due due) {
        due.is("6: without men", new BurdenCourt().found(0, 1), false);
        BurdenCourt court = new BurdenCourt();
        court.man(10, 5);
        court.man(10, 5);
        for (int man : NO_MEN_OF_TWO) {
            due.is("6: man " + man, court.found(man, 1), false);
        }
        due.is("6: the last one", court.found(1, 1), true);
        due.is("6: not the first one's", Due.look(court, 0, 1), 5);
    }

    /** coins that are found in a year may lift a man to the floor */
    private static void foundMakesFit(Due due) {
        BurdenCourt court = Due.court("burden A cost 1 share 1;floor 10;");
        court.man(10, 0);
        court.man(8, 5);
        court.begin();
        court.found(1, 1);
        due.is("6: one below the floor", Due.look(court, 1, 5), 0);
        due.is("6: he can't be spoken to", court.challenge(0, 1), -1);
        court.found(1, 1);
        due.is("6: at the floor", Due.look(court, 1, 5), 1);
        due.is("6: he can be spoken to", court.challenge(0, 1), 0);
    }

    /** "IndexOutOfBoundsException: no such MAN" */
    private static void noSuchMan(Due due) {
        for (int what = 0; what < 6; what++) {
            due.is("7: without men, what " + what, Due.look(new BurdenCourt(), 0, what), Due.OUT_OF_BOUNDS);
        }
        BurdenCourt court = new BurdenCourt();
        Due.men(court, 1, 2);
        for (int man : NO_MEN_OF_TWO) {
            due.is("7: man " + man, Due.look(court, man, 0), Due.OUT_OF_BOUNDS);
            due.is("7: fit, man " + man, Due.look(court, man, 5), Due.OUT_OF_BOUNDS);
            due.is("7: neither man nor what, man " + man, Due.look(court, man, 6), Due.OUT_OF_BOUNDS);
        }
        due.is("7: the last one", Due.look(court, 1, 0), 2);
    }

    /** "NoSuchElementException: no such what" */
    private static void noSuchWhat(Due due) {
        BurdenCourt court = new BurdenCourt();
        Due.men(court, 1);
        for (int what : new int[] {Integer.MIN_VALUE, -1, 6, Integer.MAX_VALUE}) {
            due.is("7: what " + what, Due.look(court, 0, what), Due.NO_SUCH_ELEMENT);
        }
        court.begin();
        due.is("7: in a year", Due.look(court, 0, 6), Due.NO_SUCH_ELEMENT);
        due.is("7: the last what", Due.look(court, 0, 5), 1);
    }

    /** "2: the PLACE borne in the YEAR that is on (NONE)" */
    private static void placeBorneOrNone(Due due) {
        BurdenCourt court = Due.court("burden A cost 1 share 2;");
        Due.men(court, 9, 8, 7);
        int[] want = {0, 1, -1};
        for (int man = 0; man < 3; man++) {
            due.is("7: ahead of the year, man " + man, Due.look(court, man, 2), -1);
        }
        court.begin();
        for (int man = 0; man < 3; man++) {
            due.is("7: in the year, man " + man, Due.look(court, man, 2), want[man]);
        }
        court.challenge(0, 2);
        court.answer(0, true);
        due.is("7: who took it", Due.look(court, 2, 2), 0);
        due.is("7: who gave it away", Due.look(court, 0, 2), -1);
        court.end();
        for (int man = 0; man < 3; man++) {
            due.is("7: behind the year, man " + man, Due.look(court, man, 2), -1);
        }
    }

    /** "3: the first YEAR in which he isn't FREE by what he bore (0 if nothing)" */
    private static void firstYearNotFree(Due due) {
        for (int free = 0; free <= 9; free++) {
            BurdenCourt court = Due.court("burden A cost 1 share 1;answer 9;free " + free + ";");
            Due.men(court, 50, 40, 30);
            court.begin();
            due.is("7: nothing borne yet", Due.look(court, 0, 3), 0);
            court.challenge(0, 1);
            court.answer(0, true);
            court.end();
            due.is("7: who gave it away, free " + free, Due.look(court, 0, 3), 0);
            due.is("7: who took it, free " + free, Due.look(court, 1, 3), 1 + free);
            due.is("7: who never bore, free " + free, Due.look(court, 2, 3), 0);
            court.begin();
            due.is("7: who gave it away is not free", court.place(0, 1), 0);
            court.end();
            due.is("7: he bore in year 1", Due.look(court, 0, 3), 2 + free);
        }
    }

    /** "4: YEARS borne": of one that he gave away, none */
    private static void yearsBorne(Due due) {
        BurdenCourt court = Due.court("burden A cost 1 share 1;answer 9;");
        Due.men(court, 90, 10);
        for (int year = 0; year < 40; year++) {
            due.is("7: ahead of year " + year, Due.look(court, 0, 4), year == 0 ? 0 : Math.max(1, year - 1));
            court.begin();
            if (year == 1) {
                court.challenge(0, 1);
                court.answer(0, true);
            }
            court.end();
            due.is("7: behind year " + year, Due.look(court, 0, 4), Math.max(1, year));
            due.is("7: the other, behind year " + year, Due.look(court, 1, 4), year == 0 ? 0 : 1);
        }
    }

    /** "5: whether FIT now (a YEAR being on, 1, 0)" */
    private static void fitNow(Due due) {
        BurdenCourt court = Due.court("burden A cost 1 share 1;free 1;floor 10;");
        Due.men(court, 30, 10, 9, 11);
        int[] none = {0, 0, 0, 0};
        fits(due, court, "ahead of the year", none);
        court.begin();
        fits(due, court, "in year 0", 0, 1, 0, 1);
        court.end();
        fits(due, court, "behind year 0", none);
        court.begin();
        fits(due, court, "in year 1, 0 is free and 3 bears", 0, 1, 0, 0);
        court.end();
        court.begin();
        fits(due, court, "in year 2, 0 bears and 3 is free", 0, 1, 0, 0);
        court.end();
        court.begin();
        fits(due, court, "in year 3, 0 is free and 1 bears, at the floor as 3 is", 0, 0, 0, 1);
        court.end();
        court.begin();
        fits(due, court, "in year 4, 0 bears and 1 is free and below the floor", 0, 0, 0, 1);
    }

    private static void fits(Due due, BurdenCourt court, String when, int... want) {
        for (int man = 0; man < want.length; man++) {
            due.is("7: fit, " + when + ", man " + man, Due.look(court, man, 5), want[man]);
        }
    }

    /** "NONE if there is none such" */
    private static void noneSuchRichest(Due due) {
        due.is("8: without men", new BurdenCourt().richest(0), -1);
        BurdenCourt court = new BurdenCourt();
        Due.men(court, 1, 2);
        for (int k : NO_MEN_OF_TWO) {
            due.is("8: k " + k, court.richest(k), -1);
        }
        due.is("8: the first", court.richest(0), 1);
        due.is("8: the last", court.richest(1), 0);
    }

    /** "of like ones the lesser number first" */
    private static void likeOnes(Due due) {
        BurdenCourt court = new BurdenCourt();
        for (int man = 0; man < 12; man++) {
            court.man(7, man);
        }
        for (int k = 0; k < 12; k++) {
            due.is("8: all alike, k " + k, court.richest(k), k);
        }
        due.is("8: no thirteenth", court.richest(12), -1);
        court.found(11, 1);
        due.is("8: one coin more", court.richest(0), 11);
        due.is("8: the others behind", court.richest(1), 0);
        due.is("8: the others behind", court.richest(11), 10);
    }
}
