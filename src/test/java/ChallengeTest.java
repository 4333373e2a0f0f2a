/** Promises 12 to 15: challenges, answers, oaths, judgements and what is told of them. */
public final class ChallengeTest {
    private static final String LAW = "burden A cost 10 share 2;floor 5;free 1;answer 4;swear 3;";

    public static void main(String[] args) {
        Due due = new Due();
        promise12(due);
        promise12Borne(due);
        promise12Open(due);
        promise12Forty(due);
        anotherYear(due);
        promise13(due);
        promise14(due);
        judgements(due);
        promise15(due);
        due.finish();
    }

    /** Men 0 and 1 bear places 0 and 1; 2 and 3 are fit, 4 is below the floor. */
    private static BurdenCourt begun() {
        BurdenCourt court = Due.court(LAW);
        Due.men(court, 40, 30, 20, 10, 4);
        court.begin();
        return court;
    }

    private static void promise12(Due due) {
        BurdenCourt court = Due.court(LAW);
        Due.men(court, 40, 30, 20, 10, 4);
        due.is("12: no year", court.challenge(0, 2), -1);
        court.begin();
        due.is("12: no such man", court.challenge(-1, 2), -1);
        due.is("12: no such man", court.challenge(5, 2), -1);
        due.is("12: no such man", court.challenge(0, -1), -1);
        due.is("12: no such man", court.challenge(0, 5), -1);
        due.is("12: x bears nothing", court.challenge(2, 3), -1);
        due.is("12: y bears", court.challenge(0, 1), -1);
        due.is("12: to himself", court.challenge(0, 0), -1);
        due.is("12: y below the floor", court.challenge(0, 4), -1);
        due.is("12: first", court.challenge(1, 3), 0);
        due.is("12: second", court.challenge(0, 2), 1);
        court.end();
        due.is("12: over", court.challenge(0, 2), -1);
        court.begin();
        due.is("12: y is free", court.challenge(2, 0), -1);
        court.man(9, 0);
        due.is("12: numbers begin again", court.challenge(2, 5), 0);
    }

    private static void promise12Borne(Due due) {
        BurdenCourt court = begun();
        court.challenge(0, 2);
        court.answer(0, true);
        due.is("12: y has borne it", court.challenge(2, 0), -3);
        due.is("12: another place will do", court.challenge(1, 0), 1);
        due.is("12: not -3, for one is open with y", court.challenge(2, 0), -1);
        court.answer(1, true);
        due.is("12: judged and taken ones have borne too", court.challenge(0, 1), -3);
        due.is("12: this one has not borne place 0", court.challenge(2, 1), 2);
        court.pass(5);
        due.is("12: y was the richer", court.place(0, 1), 1);
        due.is("12: y, who bore by judgement, gave none", court.challenge(1, 2), -3);
    }

    private static void promise12Open(Due due) {
        BurdenCourt court = begun();
        court.challenge(0, 2);
        due.is("12: open with x", court.challenge(0, 3), -1);
        due.is("12: open with y", court.challenge(1, 2), -1);
        court.answer(0, false);
        due.is("12: answered is still open", court.challenge(0, 3), -1);
        due.is("12: answered is still open", court.challenge(1, 2), -1);
        court.pass(4);
        due.is("12: judged, x again", court.challenge(0, 2), 1);
    }

    private static void promise12Forty(Due due) {
        BurdenCourt court = Due.court("burden A cost 10 share 1;answer 0;");
        Due.men(court, 40, 30);
        court.begin();
        for (int number = 0; number < 40; number++) {
            due.is("12: number", court.challenge(0, 1), number);
            if (number < 39) {
                court.pass(1);
            }
        }
        court.answer(39, true);
        due.is("12: there were 40, and y has borne", court.challenge(1, 0), -1);
        due.is("12: x bears nothing", court.challenge(0, 1), -1);
        due.is("12: told of the last", court.told(39, 3), 39);
        court.end();
        court.begin();
        due.is("12: a new year", court.challenge(0, 1), 0);
        court.answer(0, true);
        due.is("12: borne", court.challenge(1, 0), -3);
    }

    /** What was borne and sworn in a year is forgotten in the next. */
    private static void anotherYear(Due due) {
        BurdenCourt court = Due.court("burden A cost 10 share 1;answer 4;swear 4;");
        Due.men(court, 30, 25);
        for (int year = 0; year < 2; year++) {
            court.begin();
            int x = court.place(0, 1);
            due.is("12: the bearer in " + year, x, year);
            due.is("12: who bore in another year", court.challenge(x, 1 - x), 0);
            due.is("13: change", court.answer(0, false), true);
            due.is("14: x in " + year, court.swear(0, true), true);
            due.is("14: one oath is not enough in " + year, court.told(0, 4), 1);
            due.is("14: y in " + year, court.swear(0, false), true);
            due.is("14: both in " + year, court.told(0, 4), 3);
            court.end();
            due.is("14: the greater estate went over in " + year, Due.look(court, 1 - x, 0), 30);
        }
    }

    private static void promise13(Due due) {
        BurdenCourt court = begun();
        due.is("13: none such", court.answer(0, true), false);
        court.challenge(0, 2);
        due.is("13: none such", court.answer(1, true), false);
        due.is("13: none such", court.answer(-1, true), false);
        court.pass(4);
        due.is("13: on the last day", court.answer(0, true), true);
        due.is("13: answered", court.answer(0, true), false);
        due.is("13: y bears", court.place(0, 1), 2);
        due.is("13: y bears", Due.look(court, 2, 2), 0);
        due.is("13: x nothing", Due.look(court, 0, 2), -1);
        due.is("13: x is fit again", Due.look(court, 0, 5), 1);
        court.challenge(1, 3);
        due.is("13: change", court.answer(1, false), true);
        due.is("13: answered", court.answer(1, true), false);
        due.is("13: answered", court.answer(1, false), false);
        due.is("13: x bears still", court.place(1, 1), 1);
        court.pass(4);
        due.is("13: judged", court.answer(1, true), false);
        court.challenge(1, 3);
        court.end();
        due.is("13: over with the year", court.answer(2, true), false);
    }

    private static void promise14(Due due) {
        BurdenCourt court = Due.court(LAW);
        court.man(40, 7);
        Due.men(court, 30);
        court.man(20, 300);
        court.begin();
        court.challenge(0, 2);
        due.is("14: not answered", court.swear(0, true), false);
        due.is("14: none such", court.swear(1, true), false);
        due.is("14: none such", court.swear(-1, false), false);
        court.pass(2);
        court.answer(0, false);
        due.is("14: y", court.swear(0, false), true);
        due.is("14: y has", court.swear(0, false), false);
        due.is("14: nothing is exchanged yet", Due.look(court, 0, 0), 40);
        court.pass(3);
        due.is("14: x on the last day", court.swear(0, true), true);
        due.is("14: over", court.swear(0, true), false);
        due.is("14: over", court.swear(0, false), false);
        int[] want = {20, 300, 0, 0, 0, 0, 40, 7, -1, 0, 0, 1};
        for (int what = 0; what < 6; what++) {
            due.is("14: x, what " + what, Due.look(court, 0, what), want[what]);
            due.is("14: y, what " + what, Due.look(court, 2, what), want[6 + what]);
        }
        court.challenge(1, 2);
        court.answer(1, true);
        due.is("14: taken", court.swear(1, true), false);
        due.is("14: what is paid is paid from the new estate", court.end(), 10);
        due.is("14: declared", Due.look(court, 0, 0), 15);
        due.is("14: declared", Due.look(court, 2, 0), 35);
    }

    private static void judgements(Due due) {
        int[] standings = {5, 4, 5};
        for (int oath = 0; oath < 3; oath++) {
            BurdenCourt court = begun();
            court.challenge(0, 2);
            court.answer(0, false);
            if (oath > 0) {
                court.swear(0, oath == 1);
            }
            court.pass(3);
            due.is("oath " + oath + " runs", court.told(0, 4), 1);
            court.pass(1);
            due.is("oath " + oath + " judged", court.told(0, 4), standings[oath]);
            due.is("oath " + oath + " bearer", court.place(0, 1), oath == 1 ? 2 : 0);
        }
        int[] found = {19, 20, 21};
        for (int coins : found) {
            BurdenCourt court = Due.court(LAW);
            Due.men(court, 40, 30);
            court.man(20, 100);
            court.begin();
            court.challenge(0, 2);
            court.found(2, coins);
            court.pass(4);
            due.is("no answer yet", court.told(0, 4), 0);
            court.pass(1);
            due.is("no answer, y has " + (20 + coins), court.told(0, 4), coins > 20 ? 4 : 5);
            due.is("no answer, bearer", court.place(0, 1), coins > 20 ? 2 : 0);
        }
    }

    private static void promise15(Due due) {
        BurdenCourt court = begun();
        due.is("15: none such", court.told(0, 0), -1);
        court.pass(10);
        court.challenge(1, 3);
        tells(due, court, "new", 1, 3, 1, 10, 0, 14);
        due.is("15: no such what", court.told(0, 6), -1);
        due.is("15: no such what", court.told(0, -1), -1);
        due.is("15: none such", court.told(-1, 0), -1);
        due.is("15: none such", court.told(1, 0), -1);
        court.pass(1);
        court.answer(0, false);
        tells(due, court, "changing", 1, 3, 1, 10, 1, 14);
        court.pass(1);
        court.swear(0, true);
        tells(due, court, "sworn by one", 1, 3, 1, 10, 1, 14);
        court.swear(0, false);
        tells(due, court, "exchanged", 1, 3, 1, 10, 3, -1);
        court.end();
        tells(due, court, "behind the year", 1, 3, 1, 10, 3, -1);
        court.begin();
        due.is("15: the next one began", court.told(0, 0), -1);
    }

    private static void tells(Due due, BurdenCourt court, String when, int... want) {
        for (int what = 0; what < want.length; what++) {
            due.is("15: " + when + ", what " + what, court.told(0, what), want[what]);
        }
    }
}
