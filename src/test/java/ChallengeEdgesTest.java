/** Promises 12 to 15, challenges and judgements: a test for each sentence that names a boundary case. */
public final class ChallengeEdgesTest {
    private static final String LAW = "burden A cost 10 share 2;floor 5;free 1;answer 4;swear 3;";
    private static final int[] NO_MEN_OF_FIVE = {Integer.MIN_VALUE, -1, 5, 11, 12, 31, 32, Integer.MAX_VALUE};
    private static final int[] NO_CHALLENGE_OF_ONE = {Integer.MIN_VALUE, -1, 1, 39, 40, Integer.MAX_VALUE};

    public static void main(String[] args) {
        Due due = new Due();
        noYearIsOn(due);
        noSuchMen(due);
        whoBearsNothing(due);
        whoIsNotFit(due);
        whoIsFree(due);
        hasBorneThePlace(due);
        borneByLaterOnes(due);
        borneInAnotherYear(due);
        allElseWouldDo(due);
        oneIsOpen(due);
        overAndAgain(due);
        forty(due);
        fortyInEachYear(due);
        answeredOnTheLastDay(due);
        answerOfNoDays(due);
        answerOfSixtyDays(due);
        noSuchAnswer(due);
        takeMovesThePlace(due);
        noSuchOath(due);
        swornOnTheLastDay(due);
        swearBehindTheAnswer(due);
        swearOfNoDays(due);
        swearOfSixtyDays(due);
        exchangedAtTheSecondOath(due);
        judgedWithoutAnswer(due);
        judgedByOaths(due);
        judgedFarBehindTheTerm(due);
        judgedTogether(due);
        judgedByEnd(due);
        notFitAndFitAgain(due);
        toldOfNone(due);
        toldBehindTheEnd(due);
        lastDayOfTheTermThatRuns(due);
        due.finish();
    }

    /** Men 0 and 1 bear the places 0 and 1; 2 and 3 are fit, 4 is below the floor. */
    private static BurdenCourt begun() {
        BurdenCourt court = ahead();
        court.begin();
        return court;
    }

    private static BurdenCourt ahead() {
        BurdenCourt court = Due.court(LAW);
        Due.men(court, 40, 30, 20, 10, 4);
        return court;
    }

    /** "NONE: no YEAR is on" */
    private static void noYearIsOn(Due due) {
        BurdenCourt court = ahead();
        due.is("12: ahead of year 0", court.challenge(0, 2), -1);
        court.begin();
        court.end();
        due.is("12: behind year 0", court.challenge(0, 2), -1);
        due.is("20: none is told", court.count(4), 0);
    }

    /** "NONE: .. no such MEN" */
    private static void noSuchMen(Due due) {
        BurdenCourt court = begun();
        for (int man : NO_MEN_OF_FIVE) {
            due.is("12: x " + man, court.challenge(man, 2), -1);
            due.is("12: y " + man, court.challenge(0, man), -1);
            due.is("12: both " + man, court.challenge(man, man), -1);
        }
        due.is("20: none is told", court.count(4), 0);
    }

    /** "X, who bears a PLACE" */
    private static void whoBearsNothing(Due due) {
        BurdenCourt court = begun();
        due.is("12: 2 bears nothing", court.challenge(2, 3), -1);
        due.is("12: 4 bears nothing", court.challenge(4, 3), -1);
        court.challenge(0, 2);
        court.answer(0, true);
        due.is("12: 0 gave it away", court.challenge(0, 3), -1);
        due.is("12: 2 took it", court.challenge(2, 3), 1);
        BurdenCourt lacking = Due.court("burden A cost 1 share 2;");
        Due.men(lacking, 3);
        lacking.begin();
        Due.men(lacking, 2, 1);
        due.is("12: what lacks is borne by nobody", lacking.challenge(1, 2), -1);
        due.is("12: the bearer of place 0", lacking.challenge(0, 1), 0);
    }

    /** "Y, who is FIT": not below the floor, bearing nothing */
    private static void whoIsNotFit(Due due) {
        BurdenCourt court = begun();
        court.man(5, 0);
        court.man(4, 100000);
        due.is("12: y bears", court.challenge(0, 1), -1);
        due.is("12: y bears", court.challenge(1, 0), -1);
        due.is("12: y is x", court.challenge(0, 0), -1);
        due.is("12: y and x bear nothing", court.challenge(2, 2), -1);
        due.is("12: y is one below the floor", court.challenge(0, 4), -1);
        due.is("12: hidden coins do not count", court.challenge(0, 6), -1);
        due.is("12: y is at the floor", court.challenge(0, 5), 0);
    }

    /** "Y, who is FIT": not free, up to the last year of it */
    private static void whoIsFree(Due due) {
        BurdenCourt court = Due.court("burden A cost 1 share 1;free 2;answer 9;");
        Due.men(court, 50);
        court.begin();
        court.end();
        Due.men(court, 40, 39, 38);
        for (int year = 1; year <= 2; year++) {
            court.begin();
            due.is("12: free in year " + year, court.challenge(year, 0), -1);
            court.end();
        }
        Due.men(court, 100);
        court.begin();
        due.is("12: a richer one bears", court.place(0, 1), 4);
        due.is("12: not free in year 3", court.challenge(4, 0), 0);
    }

    /** "who hasn't borne this PLACE in this YEAR ahead"; "-3: Y has borne that PLACE in this YEAR ahead" */
    private static void hasBorneThePlace(Due due) {
        BurdenCourt court = begun();
        court.challenge(0, 2);
        court.answer(0, true);
        due.is("12: who bore it from day 0 on", court.challenge(2, 0), -3);
        due.is("12: a refused one is none", court.count(4), 1);
        due.is("12: place 1 he has not borne", court.challenge(1, 0), 1);
        court.answer(1, true);
        due.is("12: 0 bears place 1", court.place(1, 1), 0);
        due.is("12: 1 has not borne place 0", court.challenge(2, 1), 2);
        court.answer(2, true);
        due.is("12: 2 has borne place 0", court.challenge(1, 2), -3);
        due.is("12: 2 has not borne place 1", court.challenge(0, 2), 3);
    }

    /** "borne": by taking and by judgement, not by an exchange nor by being judged free of it */
    private static void borneByLaterOnes(Due due) {
        BurdenCourt court = begun();
        court.challenge(0, 2);
        court.answer(0, false);
        court.swear(0, true);
        court.pass(4);
        due.is("12: judged to 2", court.told(0, 4), 4);
        court.challenge(2, 3);
        court.answer(1, true);
        due.is("12: 2 bore it by judgement", court.challenge(3, 2), -3);
        due.is("12: 0 bore it from day 0 on", court.challenge(3, 0), -3);
        court.challenge(1, 2);
        court.pass(5);
        due.is("12: judged, 1 bears still", court.told(2, 4), 5);
        due.is("12: 2 did not come to bear it", court.challenge(1, 2), 3);
        court.answer(3, false);
        court.swear(3, true);
        court.swear(3, false);
        due.is("12: exchanged", court.told(3, 4), 3);
        due.is("12: estates, not places, were exchanged", court.challenge(1, 2), 4);
    }

    /** "in this YEAR" */
    private static void borneInAnotherYear(Due due) {
        BurdenCourt court = Due.court("burden A cost 1 share 1;answer 9;");
        Due.men(court, 50, 10);
        for (int year = 0; year < 3; year++) {
            court.begin();
            due.is("12: 0 bears in year " + year, court.place(0, 1), 0);
            due.is("12: in year " + year, court.challenge(0, 1), 0);
            court.answer(0, true);
            due.is("12: borne in year " + year, court.challenge(1, 0), -3);
            court.end();
        }
    }

    /** "-3: .. (all else would do)": else NONE */
    private static void allElseWouldDo(Due due) {
        BurdenCourt court = begun();
        court.challenge(0, 2);
        court.answer(0, true);
        due.is("12: all else would do", court.challenge(2, 0), -3);
        court.challenge(2, 3);
        due.is("12: one is open with x", court.challenge(2, 0), -1);
        court.answer(1, false);
        court.swear(1, true);
        court.swear(1, false);
        court.challenge(1, 0);
        due.is("12: one is open with y", court.challenge(2, 0), -1);
        court.answer(2, true);
        due.is("12: y bears another place", court.challenge(2, 0), -1);
        due.is("12: x bears nothing", court.challenge(1, 0), -1);
        court.end();
        due.is("12: no year is on", court.challenge(2, 0), -1);
    }

    /** "with neither of whom one is OPEN" */
    private static void oneIsOpen(Due due) {
        BurdenCourt court = begun();
        court.challenge(0, 2);
        for (int answered = 0; answered < 2; answered++) {
            due.is("12: the same again", court.challenge(0, 2), -1);
            due.is("12: x says it to another", court.challenge(0, 3), -1);
            due.is("12: another says it to y", court.challenge(1, 2), -1);
            due.is("12: y says it to x", court.challenge(2, 0), -1);
            court.answer(0, false);
            court.pass(answered);
        }
        court.swear(0, true);
        due.is("12: with one oath it is still open", court.challenge(0, 3), -1);
        due.is("12: with one oath it is still open", court.challenge(1, 2), -1);
        due.is("12: two others", court.challenge(1, 3), 1);
    }

    /** "An exchanged, taken or judged one is over": a new one can be */
    private static void overAndAgain(Due due) {
        BurdenCourt court = begun();
        court.challenge(0, 2);
        court.answer(0, false);
        court.swear(0, false);
        court.swear(0, true);
        due.is("12: behind an exchange", court.challenge(0, 2), 1);
        court.pass(5);
        due.is("15: 2 has more now", court.told(1, 4), 4);
        due.is("12: behind a judgement to y", court.challenge(2, 3), 2);
        court.pass(5);
        due.is("15: judged to x", court.told(2, 4), 5);
        due.is("12: behind a judgement to x", court.challenge(2, 3), 3);
        court.answer(3, true);
        due.is("12: behind taking", court.challenge(1, 2), 4);
    }

    /** "at most 40 a YEAR"; "NONE: .. or there were 40" */
    private static void forty(Due due) {
        BurdenCourt court = Due.court("burden A cost 10 share 1;");
        Due.men(court, 40, 30, 20);
        court.begin();
        for (int number = 0; number < 40; number++) {
            due.is("12: number", court.challenge(0, 1), number);
            due.is("20: so many", court.count(4), number + 1);
            court.pass(1);
        }
        due.is("12: there were 40", court.challenge(0, 1), -1);
        due.is("12: there were 40 for others too", court.challenge(0, 2), -1);
        due.is("20: still 40", court.count(4), 40);
        due.is("15: the first", court.told(0, 3), 0);
        due.is("15: the last", court.told(39, 3), 39);
        due.is("15: none behind it", court.told(40, 3), -1);
        due.is("15: the last is judged", court.told(39, 4), 5);
    }

    /** "(at most 40 a YEAR)": the next year has its own; the last of 40 is like the others */
    private static void fortyInEachYear(Due due) {
        BurdenCourt court = Due.court("burden A cost 1 share 1;");
        Due.men(court, 40, 30);
        for (int year = 0; year < 2; year++) {
            court.begin();
            int x = court.place(0, 1);
            due.is("10: who has 40 in year " + year, x, year);
            for (int number = 0; number < 39; number++) {
                due.is("12: in year " + year, court.challenge(x, 1 - x), number);
                court.pass(1);
            }
            due.is("12: the last in year " + year, court.challenge(x, 1 - x), 39);
            due.is("13: it can be answered", court.answer(39, false), true);
            due.is("14: and sworn", court.swear(39, true), true);
            due.is("14: by both", court.swear(39, false), true);
            due.is("12: there were 40 in year " + year, court.challenge(x, 1 - x), -1);
            due.is("7: exchanged in year " + year, Due.look(court, 1 - x, 0), 40);
            court.end();
        }
    }

    /** "Y has to ANSWER at the latest so many DAYS later as answer says" */
    private static void answeredOnTheLastDay(Due due) {
        for (int day = 0; day <= 6; day++) {
            BurdenCourt court = begun();
            court.pass(100);
            court.challenge(0, 2);
            court.pass(day);
            due.is("15: on day " + day, court.told(0, 4), day <= 4 ? 0 : 5);
            due.is("13: on day " + day, court.answer(0, day % 2 == 0), day <= 4);
        }
    }

    /** "answer .. 0" */
    private static void answerOfNoDays(Due due) {
        BurdenCourt court = Due.court("burden A cost 1 share 1;answer 0;");
        Due.men(court, 9, 8);
        court.begin();
        court.pass(5);
        court.challenge(0, 1);
        due.is("15: the last day is the same", court.told(0, 5), 5);
        court.pass(0);
        due.is("15: open on it", court.told(0, 4), 0);
        court.pass(1);
        due.is("13: a day later", court.answer(0, true), false);
        due.is("15: judged", court.told(0, 4), 5);
        court.challenge(0, 1);
        due.is("13: on the same day", court.answer(1, true), true);
    }

    /** "answer .. 60" */
    private static void answerOfSixtyDays(Due due) {
        BurdenCourt court = Due.court("burden A cost 1 share 1;answer 60;");
        Due.men(court, 9, 8);
        court.begin();
        court.challenge(0, 1);
        due.is("15: the last day", court.told(0, 5), 60);
        court.pass(60);
        due.is("15: open on day 60", court.told(0, 4), 0);
        court.pass(1);
        due.is("15: judged on day 61", court.told(0, 4), 5);
        court.pass(339);
        court.challenge(0, 1);
        due.is("15: beyond the last day of the year", court.told(1, 5), 460);
        due.is("13: on day 400", court.answer(1, true), true);
    }

    /** "false: no such CHALLENGE, not OPEN, or answered" */
    private static void noSuchAnswer(Due due) {
        due.is("13: of a new court", new BurdenCourt().answer(0, true), false);
        BurdenCourt court = begun();
        due.is("13: without one", court.answer(0, true), false);
        court.challenge(0, 2);
        for (int number : NO_CHALLENGE_OF_ONE) {
            due.is("13: take, number " + number, court.answer(number, true), false);
            due.is("13: change, number " + number, court.answer(number, false), false);
        }
        due.is("13: change", court.answer(0, false), true);
        due.is("13: answered", court.answer(0, false), false);
        due.is("13: answered, and no way back", court.answer(0, true), false);
        court.swear(0, true);
        due.is("13: answered and sworn by one", court.answer(0, true), false);
        court.swear(0, false);
        due.is("13: exchanged", court.answer(0, true), false);
        court.challenge(1, 3);
        due.is("13: take", court.answer(1, true), true);
        due.is("13: taken", court.answer(1, true), false);
        due.is("13: taken", court.answer(1, false), false);
        court.challenge(0, 1);
        court.pass(5);
        due.is("13: judged", court.answer(2, true), false);
        court.challenge(0, 2);
        court.end();
        due.is("13: judged by end()", court.answer(3, true), false);
        court.begin();
        due.is("13: of another year", court.answer(0, true), false);
    }

    /** "TAKE: Y bears it from then on (X nothing)" */
    private static void takeMovesThePlace(Due due) {
        BurdenCourt court = begun();
        court.challenge(1, 3);
        due.is("13: not ahead of it", court.place(1, 1), 1);
        court.answer(0, true);
        due.is("9: y bears it", court.place(1, 1), 3);
        due.is("7: y", Due.look(court, 3, 2), 1);
        due.is("7: x nothing", Due.look(court, 1, 2), -1);
        due.is("7: estates stay, x", Due.look(court, 1, 0), 30);
        due.is("7: estates stay, y", Due.look(court, 3, 0), 10);
        court.pass(400);
        due.is("15: taken stays taken", court.told(0, 4), 2);
        court.end();
        due.is("16: y paid", Due.look(court, 3, 0), 5);
        due.is("16: x paid nothing", Due.look(court, 1, 0), 30);
    }

    /** "false: no such CHALLENGE, not OPEN, not answered, or has" */
    private static void noSuchOath(Due due) {
        due.is("14: of a new court", new BurdenCourt().swear(0, true), false);
        BurdenCourt court = begun();
        due.is("14: without one", court.swear(0, true), false);
        court.challenge(0, 2);
        due.is("14: not answered, x", court.swear(0, true), false);
        due.is("14: not answered, y", court.swear(0, false), false);
        court.answer(0, false);
        for (int number : NO_CHALLENGE_OF_ONE) {
            due.is("14: x, number " + number, court.swear(number, true), false);
            due.is("14: y, number " + number, court.swear(number, false), false);
        }
        due.is("14: x", court.swear(0, true), true);
        due.is("14: x has", court.swear(0, true), false);
        due.is("14: one twice is not both", court.told(0, 4), 1);
        due.is("14: y", court.swear(0, false), true);
        due.is("14: exchanged, x", court.swear(0, true), false);
        due.is("14: exchanged, y", court.swear(0, false), false);
        due.is("14: not exchanged back", Due.look(court, 0, 0), 20);
        court.challenge(1, 3);
        court.answer(1, true);
        due.is("14: taken", court.swear(1, true), false);
        court.challenge(0, 1);
        court.pass(5);
        due.is("14: judged without answer", court.swear(2, false), false);
        court.challenge(0, 2);
        court.answer(3, false);
        court.swear(3, false);
        due.is("14: y has", court.swear(3, false), false);
        court.pass(4);
        due.is("14: judged with one oath", court.swear(3, true), false);
        court.challenge(0, 2);
        court.answer(4, false);
        court.end();
        due.is("14: judged by end()", court.swear(4, true), false);
    }

    /** "both have to SWEAR at the latest so many DAYS behind that as swear says" */
    private static void swornOnTheLastDay(Due due) {
        for (int day = 0; day <= 5; day++) {
            for (int first = 0; first < 2; first++) {
                BurdenCourt court = begun();
                court.challenge(0, 2);
                court.answer(0, false);
                court.swear(0, first == 0);
                court.pass(day);
                int judged = first == 0 ? 4 : 5;
                due.is("15: one oath, day " + day, court.told(0, 4), day <= 3 ? 1 : judged);
                due.is("14: the other, day " + day, court.swear(0, first != 0), day <= 3);
                due.is("15: behind it, day " + day, court.told(0, 4), day <= 3 ? 3 : judged);
            }
        }
    }

    /** "so many DAYS behind that": behind the day of the answer, whenever that is */
    private static void swearBehindTheAnswer(Due due) {
        for (int day = 0; day <= 4; day++) {
            BurdenCourt court = begun();
            court.pass(10);
            court.challenge(0, 2);
            due.is("15: to answer", court.told(0, 5), 14);
            court.pass(day);
            court.answer(0, false);
            due.is("15: to swear", court.told(0, 5), 13 + day);
            court.pass(3);
            due.is("15: open on the last day", court.told(0, 4), 1);
            court.pass(1);
            due.is("15: judged a day later", court.told(0, 4), 5);
        }
    }

    /** "swear .. 0" */
    private static void swearOfNoDays(Due due) {
        BurdenCourt court = Due.court("burden A cost 1 share 1;answer 3;");
        Due.men(court, 9, 8);
        court.begin();
        court.challenge(0, 1);
        court.pass(3);
        court.answer(0, false);
        due.is("15: the last day is the same", court.told(0, 5), 3);
        due.is("14: on it", court.swear(0, true), true);
        court.pass(1);
        due.is("14: a day later", court.swear(0, false), false);
        due.is("15: judged", court.told(0, 4), 4);
    }

    /** "swear .. 60" */
    private static void swearOfSixtyDays(Due due) {
        BurdenCourt court = Due.court("burden A cost 1 share 1;swear 60;");
        Due.men(court, 9, 8);
        court.begin();
        court.challenge(0, 1);
        court.answer(0, false);
        due.is("15: the last day", court.told(0, 5), 60);
        court.pass(60);
        due.is("14: on it", court.swear(0, false), true);
        court.pass(1);
        due.is("15: judged", court.told(0, 4), 5);
        court.pass(339);
        court.challenge(0, 1);
        court.answer(1, false);
        due.is("15: beyond the last day of the year", court.told(1, 5), 460);
        court.swear(1, true);
        due.is("14: on day 400", court.swear(1, false), true);
        due.is("15: exchanged", court.told(1, 4), 3);
    }

    /** "as soon as both have, their ESTATES are exchanged and X bears it still" */
    private static void exchangedAtTheSecondOath(Due due) {
        for (int first = 0; first < 2; first++) {
            BurdenCourt court = Due.court("burden A cost 10 share 1;swear 9;");
            court.man(40, 1);
            court.man(0, 100000);
            court.begin();
            court.challenge(0, 1);
            court.answer(0, false);
            court.swear(0, first == 0);
            estates(due, court, "one has", 40, 1, 0, 100000);
            court.swear(0, first != 0);
            estates(due, court, "both have", 0, 100000, 40, 1);
            due.is("9: x bears it still", court.place(0, 1), 0);
            due.is("7: y bears nothing", Due.look(court, 1, 2), -1);
            court.end();
            estates(due, court, "x paid", -10, 100000, 40, 1);
            due.is("7: x bore", Due.look(court, 0, 4), 1);
            due.is("7: y did not", Due.look(court, 1, 4), 0);
        }
    }

    private static void estates(Due due, BurdenCourt court, String when, int... want) {
        for (int i = 0; i < want.length; i++) {
            due.is("14: " + when + ", man " + i / 2 + ", what " + i % 2, Due.look(court, i / 2, i % 2), want[i]);
        }
    }

    /** "without ANSWER: Y bears the PLACE if Y's DECLARED is above X's, else X still" */
    private static void judgedWithoutAnswer(Due due) {
        for (int declared = 39; declared <= 41; declared++) {
            for (int byEnd = 0; byEnd < 2; byEnd++) {
                BurdenCourt court = Due.court("burden A cost 1 share 1;");
                court.man(40, 0);
                court.begin();
                court.man(declared, 100000);
                court.challenge(0, 1);
                int paid = byEnd == 1 ? court.end() : court.pass(1);
                due.is("16: 1", paid, 1);
                due.is("15: y has " + declared, court.told(0, 4), declared > 40 ? 4 : 5);
                if (byEnd == 0) {
                    due.is("9: y has " + declared, court.place(0, 1), declared > 40 ? 1 : 0);
                    due.is("7: x, y has " + declared, Due.look(court, 0, 2), declared > 40 ? -1 : 0);
                    due.is("7: y, y has " + declared, Due.look(court, 1, 2), declared > 40 ? 0 : -1);
                } else {
                    due.is("16: who paid, y has " + declared, Due.look(court, declared > 40 ? 1 : 0, 4), 1);
                }
            }
        }
    }

    /** "sworn by X alone: Y bears it; else (by Y alone, by none): X still", whoever has more */
    private static void judgedByOaths(Due due) {
        for (int declared : new int[] {10, 100}) {
            for (int oath = 0; oath < 3; oath++) {
                for (int byEnd = 0; byEnd < 2; byEnd++) {
                    BurdenCourt court = Due.court("burden A cost 1 share 1;");
                    court.man(40, 0);
                    court.begin();
                    court.man(declared, 0);
                    court.challenge(0, 1);
                    court.answer(0, false);
                    if (oath > 0) {
                        court.swear(0, oath == 1);
                    }
                    due.is("16: 1", byEnd == 1 ? court.end() : court.pass(1), 1);
                    due.is("15: oath " + oath, court.told(0, 4), oath == 1 ? 4 : 5);
                    due.is("7: estates stay", Due.look(court, 1, 0) + Due.look(court, 1, 4), declared);
                    if (byEnd == 0) {
                        due.is("9: oath " + oath, court.place(0, 1), oath == 1 ? 1 : 0);
                    }
                }
            }
        }
    }

    /** "When a DAY comes that is beyond a term": also by a leap over it */
    private static void judgedFarBehindTheTerm(Due due) {
        BurdenCourt court = begun();
        court.challenge(0, 2);
        court.answer(0, false);
        court.swear(0, true);
        court.challenge(1, 3);
        due.is("11: to the last day", court.pass(400), 400);
        due.is("15: by the oath", court.told(0, 4), 4);
        due.is("15: without answer", court.told(1, 4), 5);
        due.is("9: y bears", court.place(0, 1), 2);
        due.is("9: x bears still", court.place(1, 1), 1);
    }

    /** "they are looked at in order of CHALLENGES": many on one day */
    private static void judgedTogether(Due due) {
        for (int byEnd = 0; byEnd < 2; byEnd++) {
            BurdenCourt court = Due.court("burden A cost 6 share 4;burden B cost 6 share 2;answer 1;");
            Due.men(court, 60, 50, 40, 30, 20, 10);
            court.begin();
            Due.men(court, 61, 50, 41, 29, 100, 0);
            int[] y = {6, 7, 8, 9, 10, 11};
            for (int x = 0; x < 6; x++) {
                due.is("12: number", court.challenge(x, y[x]), x);
            }
            court.pass(1);
            due.is("15: all are open", court.told(0, 4) + court.told(5, 4), 0);
            due.is("16: 12 paid, or day 2", byEnd == 1 ? court.end() : court.pass(1), byEnd == 1 ? 12 : 2);
            int[] want = {4, 5, 4, 5, 4, 5};
            for (int number = 0; number < 6; number++) {
                due.is("15: number " + number, court.told(number, 4), want[number]);
                if (byEnd == 1) {
                    due.is("16: y " + number, Due.look(court, y[number], 4), want[number] == 4 ? 1 : 0);
                    due.is("16: x " + number, Due.look(court, number, 4), want[number] == 4 ? 0 : 1);
                }
            }
        }
    }

    /** "all that are OPEN are JUDGED .. as if their terms were over; then costs" */
    private static void judgedByEnd(Due due) {
        BurdenCourt court = Due.court("burden A cost 7 share 3;answer 60;swear 60;");
        Due.men(court, 30, 20, 10);
        court.begin();
        Due.men(court, 90, 80, 70);
        court.challenge(0, 3);
        court.challenge(1, 4);
        court.answer(1, false);
        court.swear(1, false);
        court.challenge(2, 5);
        court.answer(2, false);
        court.swear(2, true);
        due.is("16: paid", court.end(), 7);
        int[] states = {4, 5, 4};
        for (int number = 0; number < 3; number++) {
            due.is("15: number " + number, court.told(number, 4), states[number]);
            due.is("15: its term", court.told(number, 5), -1);
        }
        int[] want = {30, 18, 10, 87, 80, 68};
        for (int man = 0; man < want.length; man++) {
            due.is("16: declared of " + man, Due.look(court, man, 0), want[man]);
        }
    }

    /** "What comes to bear in the YEAR, comes to be not FIT; X, who gave it away, may be FIT again" */
    private static void notFitAndFitAgain(Due due) {
        BurdenCourt court = begun();
        due.is("7: y is fit", Due.look(court, 2, 5), 1);
        due.is("7: x is not", Due.look(court, 0, 5), 0);
        court.challenge(0, 2);
        due.is("7: y is fit while it is open", Due.look(court, 2, 5), 1);
        court.answer(0, true);
        due.is("7: y, who took it, is not", Due.look(court, 2, 5), 0);
        due.is("7: x, who gave it away, is", Due.look(court, 0, 5), 1);
        due.is("12: so another says it to x", court.challenge(1, 0), 1);
        court.pass(5);
        due.is("15: judged to y", court.told(1, 4), 4);
        due.is("7: y, who was judged, is not", Due.look(court, 0, 5), 0);
        due.is("7: x is", Due.look(court, 1, 5), 1);
        court.end();
        court.begin();
        due.is("7: who gave it away is not free", court.place(0, 1), 1);
        due.is("7: who bore at the end is free", Due.look(court, 0, 5), 0);
        due.is("7: who bore at the end is free", Due.look(court, 2, 5), 0);
    }

    /** "NONE if there is none such" */
    private static void toldOfNone(Due due) {
        due.is("15: of a new court", new BurdenCourt().told(0, 4), -1);
        BurdenCourt court = begun();
        due.is("15: without one", court.told(0, 4), -1);
        court.challenge(0, 2);
        for (int number : NO_CHALLENGE_OF_ONE) {
            for (int what = -1; what <= 6; what++) {
                due.is("15: number " + number + ", what " + what, court.told(number, what), -1);
            }
        }
        for (int what : new int[] {Integer.MIN_VALUE, -1, 6, Integer.MAX_VALUE}) {
            due.is("15: what " + what, court.told(0, what), -1);
        }
    }

    /** "(also behind its end, till the next one begins)" */
    private static void toldBehindTheEnd(Due due) {
        BurdenCourt court = begun();
        court.pass(3);
        court.challenge(1, 3);
        court.answer(0, true);
        int[] want = {1, 3, 1, 3, 2, -1};
        court.end();
        court.statutes(0);
        for (int what = 0; what < 6; what++) {
            due.is("15: behind the end, what " + what, court.told(0, what), want[what]);
        }
        due.is("20: behind the end", court.count(4), 1);
        court.begin();
        for (int what = 0; what < 6; what++) {
            due.is("15: in the next, what " + what, court.told(0, what), -1);
        }
        due.is("20: in the next", court.count(4), 0);
    }

    /** "5: the last DAY of the term that runs (NONE if it is over)" */
    private static void lastDayOfTheTermThatRuns(Due due) {
        BurdenCourt court = begun();
        court.pass(100);
        court.challenge(0, 2);
        due.is("15: to answer", court.told(0, 5), 104);
        court.pass(2);
        due.is("15: it does not move", court.told(0, 5), 104);
        court.answer(0, false);
        due.is("15: to swear", court.told(0, 5), 105);
        court.swear(0, true);
        due.is("15: one oath does not move it", court.told(0, 5), 105);
        court.swear(0, false);
        due.is("15: exchanged", court.told(0, 5), -1);
        court.challenge(0, 2);
        court.answer(1, true);
        due.is("15: taken", court.told(1, 5), -1);
        court.challenge(1, 3);
        court.pass(5);
        due.is("15: judged", court.told(2, 5), -1);
    }
}
