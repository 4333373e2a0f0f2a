/** Promises 1 to 4: a new object, the tape, the statutes and their faults. */
public final class TextTest {
    public static void main(String[] args) {
        Due due = new Due();
        promise1(due);
        promise2(due);
        promise3(due);
        promise4(due);
        tokens(due);
        bounds(due);
        firstFault(due);
        due.finish();
    }

    private static void promise1(Due due) {
        BurdenCourt court = new BurdenCourt();
        int[] want = {0, 0, 0, -1, 0, 0};
        for (int what = 0; what < want.length; what++) {
            due.is("1: count " + what, court.count(what), want[what]);
        }
        due.is("1: fault 0", court.fault(0), 0);
        due.is("1: fault 1", court.fault(1), -1);
        due.is("1: no man", Due.look(court, 0, 0), Due.OUT_OF_BOUNDS);
        due.is("1: no place", court.place(0, 0), -2);
        due.is("1: the tape is empty", court.statutes(1), -2);
        due.is("1: first bytes", court.feed(0, 0, 0, 0, 0), 20);
    }

    private static void promise2(Due due) {
        BurdenCourt court = new BurdenCourt();
        // "burden A cost 5 shar" "e 2;": the highest byte of each number comes first
        due.is("2: feed", court.feed(1651864164, 1701716033, 543387507, 1948267808, 1936220530), 20);
        due.is("2: feed", court.feed(1696608827, -1, -1, -1, -1), 40);
        due.is("2: read", court.statutes(24), 2);
        for (int bytes = 20; bytes <= 600; bytes += 20) {
            due.is("2: feed", court.feed(0x0a0a2020, 0x20202020, 0x0a202020, 0x20200a0a, 0x20202020), bytes);
        }
        due.is("2: no more than 600", court.feed(-1, -1, -1, -1, -1), -1);
        due.is("2: none came", court.statutes(601), -2);
        due.is("2: all blank", court.statutes(600), 0);
        due.is("2: empty again", court.feed(-1, 0, 0, 0, 0), 20);
        due.is("2: a high byte is none", court.statutes(1), -1);
        due.is("2: its place", court.fault(1), 0);
    }

    private static void promise3(Due due) {
        BurdenCourt court = new BurdenCourt();
        due.is("3: out of order", Due.statutes(court, "burden D cost 9 share 2;burden B cost 1 share 1;"), 3);
        due.is("3: by names", court.place(0, 0), 1);
        due.is("3: by names", court.place(1, 0), 3);
        due.is("3: by names", court.place(2, 0), 3);
        Due.feed(court, "burden A cost 1 share 1;free 1");
        due.is("3: below 0", court.statutes(-1), -2);
        due.is("3: too many", court.statutes(41), -2);
        due.is("3: a part of the tape, with a fault", court.statutes(30), -1);
        due.is("3: the law stays with a fault", court.count(1), 3);
        due.is("3: the tape is empty with a fault", court.statutes(1), -2);
        Due.feed(court, "burden A cost 1 share 1;free 1");
        due.is("3: only the first bytes", court.statutes(24), 1);
        due.is("3: the rest is gone", court.statutes(1), -2);
        Due.feed(court, "burden A cost 1 share 4;");
        court.begin();
        due.is("3: in a year", court.statutes(24), -2);
        court.end();
        due.is("3: the tape stayed", court.statutes(24), 4);
        due.is("3: nothing is no burdens", court.statutes(0), 0);
        due.is("3: most places", Due.statutes(court, all("cost 1 share 4;")), 24);
    }

    private static String all(String terms) {
        StringBuilder text = new StringBuilder();
        for (char name = 'A'; name <= 'F'; name++) {
            text.append("burden ").append(name).append(' ').append(terms);
        }
        return text.toString();
    }

    private static void promise4(Due due) {
        BurdenCourt court = new BurdenCourt();
        Due.statutes(court, "free 99;");
        due.is("4: kind", court.fault(0), 2);
        due.is("4: place", court.fault(1), 5);
        due.is("4: another what", court.fault(2), -1);
        due.is("4: another what", court.fault(-1), -1);
        due.is("4: refused", court.statutes(-1), -2);
        due.is("4: a refused one does not count", court.fault(0), 2);
        court.statutes(0);
        due.is("4: sound", court.fault(0), 0);
        due.is("4: sound", court.fault(1), -1);
    }

    private static void tokens(Due due) {
        due.fault("burdenAcost1share1;free0floor", 1, 24);
        due.fault("burdenAcost1share1;free0;", 0, 0);
        due.fault("\n free\n\n0007 ;\n", 0, 0);
        due.fault("\tfree 1;", 1, 0);
        due.fault("free\r1;", 1, 4);
        due.fault("freefree 1;", 1, 0);
        due.fault("fre 1;", 1, 0);
        due.fault("frei 1;", 1, 0);
        due.fault("Free 1;", 1, 0);
        due.fault("share 1;", 1, 0);
        due.fault(";", 1, 0);
        due.fault("5;", 1, 0);
        due.fault("A", 1, 0);
        due.fault("free ;", 1, 5);
        due.fault("free -1;", 1, 5);
        due.fault("free 1 2;", 1, 7);
        due.fault("free 1;;", 1, 7);
        due.fault("burden a cost 1 share 1;", 1, 7);
        due.fault("burden AB cost 1 share 1;", 1, 8);
        due.fault("burden G cost 1 share 1;", 1, 7);
        due.fault("burden @ cost 1 share 1;", 1, 7);
        due.fault("burden A share 1 cost 1;", 1, 9);
        due.fault("burden A cost 1 free 1;", 1, 16);
        due.fault("burden A cost 1;", 1, 15);
        due.fault("free 1\u00e9;", 1, 6);
    }

    private static void bounds(Due due) {
        String[] words = {"free ", "floor ", "answer ", "swear ", "burden A cost ", "burden A cost 1 share "};
        String[] tails = {";", ";", ";", ";", " share 1;", ";"};
        int[] least = {0, 0, 0, 0, 1, 1};
        int[] most = {9, 100000, 60, 60, 10000, 4};
        for (int i = 0; i < words.length; i++) {
            int at = words[i].length();
            due.fault(words[i] + most[i] + tails[i], 0, 0);
            due.fault(words[i] + least[i] + tails[i], 0, 0);
            due.fault(words[i] + (most[i] + 1) + tails[i], 2, at);
            due.fault(words[i] + "4294967297" + tails[i], 2, at);
            due.fault(words[i] + "18446744073709551617" + tails[i], 2, at);
            due.fault(words[i] + "000000000000000000001" + tails[i], 0, 0);
            if (least[i] > 0) {
                due.fault(words[i] + (least[i] - 1) + tails[i], 2, at);
            }
        }
    }

    private static void firstFault(Due due) {
        due.fault("free", 1, 4);
        due.fault("free  \n", 1, 7);
        due.fault("burden", 1, 6);
        due.fault("burden A", 1, 8);
        due.fault("burden A cost 0", 2, 14);
        due.fault("free 10 x", 2, 5);
        due.fault("free x 10", 1, 5);
        due.fault("free 1;swear 1;free 1;", 3, 15);
        due.fault("floor 1;floor", 3, 8);
        due.fault("answer 1;answer 99;", 3, 9);
        due.fault("swear 1;swear 1;", 3, 8);
        due.fault("burden B cost 1 share 1;burden A cost 1 share 1;burden B", 3, 55);
        due.fault("burden A cost 1 share 1;burden B cost 1 share 1;", 0, 0);
    }
}
