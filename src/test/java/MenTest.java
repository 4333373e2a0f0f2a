/** Promises 5 to 8: men, found coins, what is known of a man, and the order by declared coins. */
public final class MenTest {
    public static void main(String[] args) {
        Due due = new Due();
        promise5(due);
        promise6(due);
        promise7(due);
        promise7Fit(due);
        promise8(due);
        due.finish();
    }

    private static void promise5(Due due) {
        BurdenCourt court = new BurdenCourt();
        due.is("5: declared below 0", court.man(-1, 5), -1);
        due.is("5: hidden below 0", court.man(5, -1), -1);
        due.is("5: declared beyond", court.man(100001, 5), -1);
        due.is("5: hidden beyond", court.man(5, 100001), -1);
        due.is("5: none came", court.count(0), 0);
        for (int man = 0; man < 12; man++) {
            due.is("5: number", court.man(man == 0 ? 100000 : 0, man == 1 ? 100000 : 0), man);
        }
        due.is("5: a thirteenth", court.man(1, 1), -1);
        due.is("5: how many", court.count(0), 12);
        due.is("5: most declared", Due.look(court, 0, 0), 100000);
        due.is("5: most hidden", Due.look(court, 1, 1), 100000);
    }

    private static void promise6(Due due) {
        BurdenCourt court = new BurdenCourt();
        court.man(10, 5);
        due.is("6: no such man", court.found(1, 1), false);
        due.is("6: no such man", court.found(-1, 1), false);
        due.is("6: none", court.found(0, 0), false);
        due.is("6: below 0", court.found(0, -1), false);
        due.is("6: more than hidden", court.found(0, 6), false);
        due.is("6: some", court.found(0, 2), true);
        due.is("6: declared", Due.look(court, 0, 0), 12);
        due.is("6: hidden", Due.look(court, 0, 1), 3);
        due.is("6: the rest", court.found(0, 3), true);
        due.is("6: nothing is left", court.found(0, 1), false);
        due.is("6: declared", Due.look(court, 0, 0), 15);
    }

    private static void promise7(Due due) {
        BurdenCourt court = Due.court("burden A cost 7 share 1;free 2;");
        court.begin();
        court.end();
        court.man(30, 4);
        due.is("7: no such man", Due.look(court, 1, 0), Due.OUT_OF_BOUNDS);
        due.is("7: no such man", Due.look(court, -1, 0), Due.OUT_OF_BOUNDS);
        due.is("7: neither man nor what", Due.look(court, 1, 9), Due.OUT_OF_BOUNDS);
        due.is("7: no such what", Due.look(court, 0, 6), Due.NO_SUCH_ELEMENT);
        due.is("7: no such what", Due.look(court, 0, -1), Due.NO_SUCH_ELEMENT);
        looks(due, court, "new", 30, 4, -1, 0, 0, 0);
        court.begin();
        looks(due, court, "bearing", 30, 4, 0, 0, 0, 0);
        court.end();
        looks(due, court, "behind year 1", 23, 4, -1, 4, 1, 0);
        court.begin();
        looks(due, court, "free in year 2", 23, 4, -1, 4, 1, 0);
        court.end();
        court.begin();
        court.end();
        court.begin();
        looks(due, court, "not free in year 4", 23, 4, 0, 4, 1, 0);
        court.end();
        looks(due, court, "behind year 4", 16, 4, -1, 7, 2, 0);
        Due.statutes(court, "burden A cost 1 share 1;");
        due.is("7: free by what he bore, under the statutes of then", Due.look(court, 0, 3), 7);
    }

    private static void looks(Due due, BurdenCourt court, String when, int... want) {
        for (int what = 0; what < want.length; what++) {
            due.is("7: " + when + ", what " + what, Due.look(court, 0, what), want[what]);
        }
    }

    private static void promise7Fit(Due due) {
        BurdenCourt court = Due.court("burden A cost 7 share 1;floor 20;");
        Due.men(court, 30, 20, 19);
        due.is("7: not fit without a year", Due.look(court, 1, 5), 0);
        court.begin();
        due.is("7: who bears is not fit", Due.look(court, 0, 5), 0);
        due.is("7: at the floor", Due.look(court, 1, 5), 1);
        due.is("7: below the floor", Due.look(court, 2, 5), 0);
        court.end();
        due.is("7: not fit without a year", Due.look(court, 1, 5), 0);
    }

    private static void promise8(Due due) {
        BurdenCourt court = new BurdenCourt();
        due.is("8: nobody", court.richest(0), -1);
        Due.men(court, 5, 9, 5, 12);
        court.man(1, 1000);
        int[] want = {3, 1, 0, 2, 4};
        for (int k = 0; k < want.length; k++) {
            due.is("8: richest " + k, court.richest(k), want[k]);
        }
        due.is("8: beyond", court.richest(5), -1);
        due.is("8: below 0", court.richest(-1), -1);
        court.found(4, 8);
        due.is("8: of like ones the lesser number", court.richest(1), 1);
        due.is("8: of like ones the greater number", court.richest(2), 4);
    }
}
