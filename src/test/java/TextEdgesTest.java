/** Promises 1 to 4 and the text of the statutes: a test for each sentence that names a boundary case. */
public final class TextEdgesTest {
    private static final String BURDEN = "burden A cost 1 share 1;";

    public static void main(String[] args) {
        Due due = new Due();
        newTapeIsEmpty(due);
        highestByteFirst(due);
        sixHundredBytes(due);
        fullTapeIsRead(due);
        tapeIsEmptyThen(due);
        notSoMany(due);
        belowNone(due);
        yearIsOn(due);
        latestThatWasNotRefused(due);
        anotherWhat(due);
        noLine(due);
        semicolons(due);
        blanks(due);
        names(due);
        words(due);
        numbers(due);
        leastAndMost(due);
        numbersThatWrapAround(due);
        lengthIfMoreMustCome(due);
        cutByLength(due);
        beyondAtIt(due);
        nameToldAlready(due);
        wordToldAlready(due);
        firstAlongTheText(due);
        ofOnePlaceTheLeast(due);
        withoutALine(due);
        mostPlaces(due);
        due.finish();
    }

    /** "an empty TAPE" */
    private static void newTapeIsEmpty(Due due) {
        due.is("1: one byte of a new tape", new BurdenCourt().statutes(1), -2);
        due.is("1: no byte of a new tape", new BurdenCourt().statutes(0), 0);
        due.is("1: the first bytes of a new tape", new BurdenCourt().feed(0, 0, 0, 0, 0), 20);
    }

    /** "four of each number, the highest first": each byte in turn is the only one that is no blank */
    private static void highestByteFirst(Due due) {
        for (int spot = 0; spot < 20; spot++) {
            for (int sign : new int[] {0, 127, 128, 255}) {
                BurdenCourt court = new BurdenCourt();
                int[] numbers = {0x20202020, 0x20202020, 0x20202020, 0x20202020, 0x20202020};
                int shift = 24 - 8 * (spot % 4);
                numbers[spot / 4] = numbers[spot / 4] & ~(255 << shift) | sign << shift;
                court.feed(numbers[0], numbers[1], numbers[2], numbers[3], numbers[4]);
                due.is("2: byte " + sign + " at " + spot, court.statutes(20), -1);
                due.is("2: byte " + sign + " at " + spot + ", the place", court.fault(1), spot);
            }
        }
    }

    /** "NONE, and none come, if it would have more than 600" */
    private static void sixHundredBytes(Due due) {
        for (int round = 0; round < 2; round++) {
            BurdenCourt court = new BurdenCourt();
            if (round == 1) {
                Due.statutes(court, "free 1;");
            }
            for (int bytes = 20; bytes <= 600; bytes += 20) {
                due.is("2: up to 600", court.feed(0x20202020, 0x20202020, 0x20202020, 0x20202020, 0x20202020), bytes);
            }
            due.is("2: beyond 600", court.feed(0, 0, 0, 0, 0), -1);
            due.is("2: beyond 600 again", court.feed(-1, -1, -1, -1, -1), -1);
            due.is("2: none came behind", court.statutes(601), -2);
            due.is("2: none came within", court.statutes(600), 0);
            due.is("2: room again", court.feed(0, 0, 0, 0, 0), 20);
        }
    }

    /** a text of 600 bytes: its last byte counts */
    private static void fullTapeIsRead(Due due) {
        String zeros = "0".repeat(593);
        due.fault("free " + zeros + "9;", 0, 0);
        due.fault("free " + zeros + "99", 2, 5);
        due.fault("free " + zeros + "9 ", 1, 600);
        due.fault("free " + zeros + "9x", 1, 599);
        due.fault("free 9;" + " ".repeat(592) + "x", 1, 599);
        due.fault("free 9;" + "\n".repeat(593), 0, 0);
    }

    /** "The TAPE's first n bytes (it is empty then)" */
    private static void tapeIsEmptyThen(Due due) {
        String text = BURDEN + "burden B cost 1 share 4;";
        int[] first = {0, 24, 48, 47};
        int[] want = {0, 1, 5, -1};
        for (int i = 0; i < first.length; i++) {
            BurdenCourt court = new BurdenCourt();
            Due.feed(court, text);
            due.is("3: the first " + first[i], court.statutes(first[i]), want[i]);
            due.is("3: behind the first " + first[i] + " it is empty", court.statutes(1), -2);
            due.is("3: behind the first " + first[i] + " none is left", court.feed(0, 0, 0, 0, 0), 20);
        }
    }

    /** "-2, and the TAPE stays: there are not so many" */
    private static void notSoMany(Due due) {
        BurdenCourt court = new BurdenCourt();
        Due.feed(court, "                burden F cost 1 share 3;");
        due.is("3: one more than there are", court.statutes(41), -2);
        due.is("3: as many more as can be", court.statutes(Integer.MAX_VALUE), -2);
        due.is("3: the statutes stay", court.count(1), 0);
        due.is("3: as many as there are", court.statutes(40), 3);
    }

    /** "-2, and the TAPE stays: .. n is below 0" */
    private static void belowNone(Due due) {
        BurdenCourt court = new BurdenCourt();
        Due.feed(court, BURDEN);
        due.is("3: -1", court.statutes(-1), -2);
        due.is("3: the least", court.statutes(Integer.MIN_VALUE), -2);
        due.is("3: the tape stayed", court.statutes(24), 1);
    }

    /** "-2, and the TAPE stays: .. or a YEAR is on" */
    private static void yearIsOn(Due due) {
        BurdenCourt court = Due.court(BURDEN);
        Due.feed(court, "burden B cost 1 share 4;");
        court.begin();
        due.is("3: in a year", court.statutes(24), -2);
        due.is("3: nothing, in a year", court.statutes(0), -2);
        court.pass(400);
        due.is("3: on the last day", court.statutes(24), -2);
        due.is("3: the statutes stay", court.count(1), 1);
        due.is("3: the tape may grow in a year", court.feed(0, 0, 0, 0, 0), 60);
        court.end();
        due.is("3: behind the year", court.statutes(24), 4);
    }

    /** "Of the latest statutes() that was not -2" */
    private static void latestThatWasNotRefused(Due due) {
        BurdenCourt court = new BurdenCourt();
        faultIs(due, court, "without one", 0, -1);
        due.is("4: refused", court.statutes(1), -2);
        faultIs(due, court, "behind a refused one", 0, -1);
        Due.statutes(court, "free 1;free 1;");
        faultIs(due, court, "of one with a fault", 3, 7);
        Due.feed(court, "free 1;");
        court.statutes(21);
        faultIs(due, court, "not so many", 3, 7);
        court.statutes(-1);
        faultIs(due, court, "below 0", 3, 7);
        court.begin();
        court.statutes(7);
        faultIs(due, court, "in a year", 3, 7);
        court.end();
        court.statutes(7);
        faultIs(due, court, "of a sound one", 0, -1);
        Due.statutes(court, "x");
        faultIs(due, court, "a place 0 is not NONE", 1, 0);
    }

    private static void faultIs(Due due, BurdenCourt court, String when, int kind, int place) {
        due.is("4: kind, " + when, court.fault(0), kind);
        due.is("4: place, " + when, court.fault(1), place);
    }

    /** "NONE for another what" */
    private static void anotherWhat(Due due) {
        BurdenCourt court = new BurdenCourt();
        Due.statutes(court, "free 1;free 1;");
        for (int what : new int[] {Integer.MIN_VALUE, -1, 2, Integer.MAX_VALUE}) {
            due.is("4: what " + what, court.fault(what), -1);
        }
    }

    /** "{ LINE ';' }": none is a text too */
    private static void noLine(Due due) {
        due.fault("", 0, 0);
        due.fault(" ", 0, 0);
        due.fault("\n", 0, 0);
        due.fault(" \n \n\n  ", 0, 0);
    }

    /** "{ LINE ';' }": one behind each line, and none elsewhere */
    private static void semicolons(Due due) {
        due.fault(";", 1, 0);
        due.fault(" ;", 1, 1);
        due.fault("free 1;;", 1, 7);
        due.fault("free 1; ;", 1, 8);
        due.fault("free; 1;", 1, 4);
        due.fault("free 1", 1, 6);
        due.fault("free 1,", 1, 6);
        due.fault("free 1:", 1, 6);
        due.fault("free 1 floor 1;", 1, 7);
        due.fault("burden A cost 1 share 1 free 1;", 1, 24);
        due.fault("burden A cost 1; share 1;", 1, 15);
        due.fault("free 1 \n;", 0, 0);
        due.fault("free 1;floor 1;answer 1;swear 1;", 0, 0);
    }

    /** "Blanks 10, 32": no other sign is one, and they part what stands in a row */
    private static void blanks(Due due) {
        for (int sign = 0; sign < 256; sign++) {
            boolean isBlank = sign == 10 || sign == 32;
            due.fault((char) sign + "free 1;", isBlank ? 0 : 1, 0);
            due.fault("free 1;" + (char) sign, isBlank ? 0 : 1, 7);
        }
        due.fault("\n burden\n\nA  cost \n1\nshare\n4\n;\n", 0, 0);
        due.fault("burdenAcost1share1;free1;floor1;answer1;swear1;", 0, 0);
        due.fault("fr ee 1;", 1, 0);
        due.fault("free 1 1;", 1, 7);
        due.fault("free\n0\n0;", 1, 7);
    }

    /** "NAME: one letter A .. F" */
    private static void names(Due due) {
        for (int sign = 0; sign < 256; sign++) {
            boolean isName = sign >= 'A' && sign <= 'F';
            if (sign != 10 && sign != 32) {
                due.fault("burden " + (char) sign + " cost 1 share 1;", isName ? 0 : 1, 7);
            }
        }
        due.fault("burden AB cost 1 share 1;", 1, 8);
        due.fault("burden AA cost 1 share 1;", 1, 8);
        due.fault("burden  cost 1 share 1;", 1, 8);
        due.fault("burden 1 cost 1 share 1;", 1, 7);
        due.fault("A cost 1 share 1;", 1, 0);
        due.fault("burden Fcost 1 share 1;", 0, 0);
    }

    /** "words: small letters in a row": a whole row or none */
    private static void words(Due due) {
        String[] before = {"", "", "", "", "", "burden A ", "burden A cost 1 "};
        String[] word = {"free", "floor", "answer", "swear", "burden", "cost", "share"};
        String[] behind = {"1;", "1;", "1;", "1;", "A cost 1 share 1;", "1 share 1;", "1;"};
        for (int i = 0; i < word.length; i++) {
            int at = before[i].length();
            int length = word[i].length();
            due.fault(before[i] + word[i] + " " + behind[i], 0, 0);
            due.fault(before[i] + word[i] + behind[i], 0, 0);
            due.fault(before[i] + word[i].substring(1) + " " + behind[i], 1, at);
            due.fault(before[i] + word[i].substring(0, length - 1) + " " + behind[i], 1, at);
            due.fault(before[i] + word[i] + "a " + behind[i], 1, at);
            due.fault(before[i] + word[i] + "z " + behind[i], 1, at);
            due.fault(before[i] + "a" + word[i] + " " + behind[i], 1, at);
            due.fault(before[i] + word[i].toUpperCase() + " " + behind[i], 1, at);
            due.fault(before[i] + word[i].substring(0, length - 1) + "x " + behind[i], 1, at);
            due.fault(before[i] + "x" + word[i].substring(1) + " " + behind[i], 1, at);
            due.fault(before[i] + word[i].substring(0, 1) + "x" + word[i].substring(2) + " " + behind[i], 1, at);
            due.fault(before[i] + word[i] + "` " + behind[i], 1, at + length);
            due.fault(before[i] + word[i] + "{ " + behind[i], 1, at + length);
            due.fault(before[i] + word[i] + word[i] + " " + behind[i], 1, at);
            due.fault(before[i] + word[i] + " " + word[i] + " " + behind[i], 1, at + length + 1);
            due.fault(before[i] + " ; " + behind[i], 1, at + 1);
        }
        due.fault("cost 1;", 1, 0);
        due.fault("share 1;", 1, 0);
        due.fault("burden A share 1 cost 1;", 1, 9);
        due.fault("burden A cost 1 cost 1;", 1, 16);
        due.fault("burden A free 1;", 1, 9);
    }

    /** "N: digits" */
    private static void numbers(Due due) {
        for (int sign = 0; sign < 256; sign++) {
            boolean isDigit = sign >= '0' && sign <= '9';
            if (sign != 10 && sign != 32) {
                due.fault("free " + (char) sign + ";", isDigit ? 0 : 1, 5);
            }
        }
        due.fault("free 1/;", 1, 6);
        due.fault("free 1:;", 1, 6);
        due.fault("free 1a;", 1, 6);
        due.fault("free +1;", 1, 5);
        due.fault("free -1;", 1, 5);
        due.fault("free 1.0;", 1, 6);
        due.fault("burden A cost A share 1;", 1, 14);
        due.fault("burden A cost 1 share A;", 1, 22);
        due.fault("burden A cost share 1;", 1, 14);
    }

    /** "cost 1 .. 10000, share 1 .. 4, free 0 .. 9, floor 0 .. 100000, answer, swear 0 .. 60" */
    private static void leastAndMost(Due due) {
        String[] word = {"burden A cost ", "burden A cost 1 share ", "free ", "floor ", "answer ", "swear "};
        String[] tail = {" share 1;", ";", ";", ";", ";", ";"};
        int[] least = {1, 1, 0, 0, 0, 0};
        int[] most = {10000, 4, 9, 100000, 60, 60};
        for (int i = 0; i < word.length; i++) {
            due.fault(word[i] + least[i] + tail[i], 0, 0);
            due.fault(word[i] + most[i] + tail[i], 0, 0);
            due.fault(word[i] + (most[i] + 1) + tail[i], 2, word[i].length());
            due.fault(word[i] + most[i] + "0" + tail[i], 2, word[i].length());
            due.fault(word[i] + "000" + most[i] + tail[i], 0, 0);
            due.fault(word[i] + "000" + (most[i] + 1) + tail[i], 2, word[i].length());
            due.fault(word[i] + "0" + tail[i], least[i] == 0 ? 0 : 2, word[i].length());
            due.fault(word[i] + "000" + tail[i], least[i] == 0 ? 0 : 2, word[i].length());
        }
    }

    /** numbers that would be within, if they wrapped around at 32 or 64 bits or were cut */
    private static void numbersThatWrapAround(Due due) {
        String[] far = {"2147483647", "2147483648", "4294967296", "4294967297", "4294967300", "9223372036854775808",
            "18446744073709551616", "18446744073709551617", "1000000", "1000001", "10000001",
            "1" + "0".repeat(500), "1" + "0".repeat(500) + "1", "9".repeat(500)};
        String[] word = {"burden A cost ", "burden A cost 1 share ", "free ", "floor ", "answer ", "swear "};
        String[] tail = {" share 1;", ";", ";", ";", ";", ";"};
        for (int i = 0; i < word.length; i++) {
            for (String number : far) {
                due.fault(word[i] + number + tail[i], 2, word[i].length());
            }
            due.fault(word[i] + "0".repeat(500) + "1" + tail[i], 0, 0);
        }
    }

    /** "1 .. (the length, if more must come)": a text that ends behind each of its tokens */
    private static void lengthIfMoreMustCome(Due due) {
        String[][] lines = {{"burden ", "A ", "cost ", "1 ", "share ", "1 "}, {"free ", "1 "}, {"floor ", "1 "},
            {"answer ", "1 "}, {"swear ", "1 "}};
        for (String[] line : lines) {
            StringBuilder text = new StringBuilder();
            for (String token : line) {
                text.append(token);
                String bare = text.substring(0, text.length() - 1);
                due.fault(bare, 1, bare.length());
                due.fault(bare + " \n ", 1, bare.length() + 3);
                due.fault("\n" + bare, 1, bare.length() + 1);
                due.fault("burden B cost 1 share 1;" + bare, 1, bare.length() + 24);
            }
            due.fault(text + ";", 0, 0);
        }
    }

    /** the length is n, whatever stands behind it on the tape */
    private static void cutByLength(Due due) {
        cut(due, "free 12;", 3, 1, 0);
        cut(due, "free 12;", 4, 1, 4);
        cut(due, "free 12;", 5, 1, 5);
        cut(due, "free 12;", 6, 1, 6);
        cut(due, "free 12;", 7, 2, 5);
        cut(due, "free 1;x", 7, 0, -1);
        cut(due, "free 1 ;", 7, 1, 7);
        cut(due, "burdens", 6, 1, 6);
        cut(due, "floor 1;floor 1;", 12, 1, 8);
        cut(due, "floor 1;floor 1;", 13, 3, 8);
        cut(due, BURDEN + "burden A", 31, 1, 31);
        cut(due, BURDEN + "burden A", 32, 3, 31);
    }

    private static void cut(Due due, String text, int n, int kind, int place) {
        BurdenCourt court = new BurdenCourt();
        Due.feed(court, text);
        court.statutes(n);
        faultIs(due, court, "the first " + n + " of '" + text + "'", kind, place);
    }

    /** "2 an N beyond what is said (at it)" */
    private static void beyondAtIt(Due due) {
        due.fault("free   0010;", 2, 7);
        due.fault("free10;", 2, 4);
        due.fault("burden A cost\n10001 share 1;", 2, 14);
        due.fault("burden A cost 1 share\n\n5;", 2, 23);
        due.fault(BURDEN + "floor 100001;", 2, 30);
        due.fault("free 10", 2, 5);
    }

    /** "3 a burden's NAME (at it) .. told already" */
    private static void nameToldAlready(Due due) {
        for (char name = 'A'; name <= 'F'; name++) {
            String line = "burden " + name + " cost 1 share 1;";
            String other = "burden " + (name == 'F' ? 'A' : (char) (name + 1)) + " cost 1 share 1;";
            due.fault(line + line, 3, 31);
            due.fault(line + other, 0, 0);
            due.fault(line + other + line, 3, 55);
            due.fault(line + "burden " + name, 3, 31);
            due.fault(line + "burden  " + name + " cost 0", 3, 32);
        }
        BurdenCourt court = Due.court(BURDEN);
        due.is("3: told in other statutes is not told already", Due.statutes(court, BURDEN), 1);
    }

    /** "another LINE's word (at it) told already" */
    private static void wordToldAlready(Due due) {
        String[] words = {"free", "floor", "answer", "swear"};
        for (String word : words) {
            String line = word + " 0;";
            due.fault(line + line, 3, line.length());
            due.fault(line + "\n" + word, 3, line.length() + 1);
            due.fault(line + word + " 999999;", 3, line.length());
            due.fault(line + BURDEN + line, 3, line.length() + BURDEN.length());
            for (String other : words) {
                if (!other.equals(word)) {
                    due.fault(line + other + " 0;", 0, 0);
                }
            }
            BurdenCourt court = Due.court(line);
            due.is("3: " + word + " told in other statutes", Due.statutes(court, line), 0);
            Due.statutes(court, line + "x");
            due.is("3: " + word + " told in a text with a fault", Due.statutes(court, line), 0);
        }
        due.fault(BURDEN + "burden B cost 1 share 1;burden C cost 1 share 1;", 0, 0);
    }

    /** "FAULTS, the first along the text" */
    private static void firstAlongTheText(Due due) {
        due.fault("free 10;x", 2, 5);
        due.fault("free x;floor 100001;", 1, 5);
        due.fault("free 1;free 10;x", 3, 7);
        due.fault("free 10;free 1;", 2, 5);
        due.fault("burden A cost 0 share 0;", 2, 14);
        due.fault("burden A cost 0 x", 2, 14);
        due.fault("burden A cost 1 share 5", 2, 22);
        due.fault("burden G cost 0 share 0;", 1, 7);
        due.fault(BURDEN + "burden A x", 3, 31);
        due.fault("x free 1;free 1;", 1, 0);
    }

    /** "(of one place the least)": a word, a name or a number that can't stand there and has another fault */
    private static void ofOnePlaceTheLeast(Due due) {
        due.fault("free 1 free", 1, 7);
        due.fault("free 1;floor free 1;", 1, 13);
        due.fault("free 1 10;", 1, 7);
        due.fault("99999999;", 1, 0);
        due.fault("burden 0 cost 1 share 1;", 1, 7);
        due.fault(BURDEN + "A", 1, 24);
        due.fault(BURDEN + "burden B A", 1, 33);
        due.fault(BURDEN + "burden B cost A", 1, 38);
    }

    /** "Without a LINE: no burdens; free 0, floor 0, answer 0, swear 0", also if texts ahead of it had them */
    private static void withoutALine(Due due) {
        String whole = "burden A cost 1 share 4;burden B cost 1 share 4;free 9;floor 9;answer 9;swear 9;";
        for (int round = 0; round < 5; round++) {
            BurdenCourt court = new BurdenCourt();
            for (int text = 1; text < round; text++) {
                Due.statutes(court, whole);
            }
            if (round % 2 == 1) {
                due.is("3: a text with a fault", Due.statutes(court, whole + "x"), -1);
            }
            due.is("3: one burden", Due.statutes(court, "burden B cost 2 share 1;"), 1);
            due.is("3: it is B", court.place(0, 0), 1);
            due.is("3: no other", court.place(1, 0), -2);
            Due.men(court, 2, 0);
            court.begin();
            due.is("3: floor 0", Due.look(court, 1, 5), 1);
            court.challenge(0, 1);
            due.is("3: answer 0", court.told(0, 5), 0);
            court.answer(0, false);
            due.is("3: swear 0", court.told(0, 5), 0);
            court.end();
            due.is("3: free 0", Due.look(court, 0, 3), 1);
            due.is("3: nothing at all", court.statutes(0), 0);
            due.is("3: no burdens", court.count(1), 0);
            due.is("3: no place", court.place(0, 0), -2);
            due.is("3: nothing lacks", court.begin(), 0);
        }
    }

    /** "as many PLACES as its share, in order of NAMES, numbered from 0 on over all burdens" */
    private static void mostPlaces(Due due) {
        StringBuilder text = new StringBuilder();
        for (char name = 'F'; name >= 'A'; name--) {
            text.append("burden ").append(name).append(" cost 1 share 4;");
        }
        BurdenCourt court = new BurdenCourt();
        due.is("3: most places", Due.statutes(court, text.toString()), 24);
        for (int place = 0; place < 24; place++) {
            due.is("9: name of place " + place, court.place(place, 0), place / 4);
        }
        due.is("9: behind the last", court.place(24, 0), -2);
        due.is("9: ahead of the first", court.place(-1, 0), -2);
        for (int share = 1; share <= 4; share++) {
            due.is("3: share " + share, Due.statutes(court, "burden C cost 9 share " + share + ";"), share);
            due.is("9: the last of share " + share, court.place(share - 1, 0), 2);
            due.is("9: behind share " + share, court.place(share, 0), -2);
        }
    }
}
