import java.util.NoSuchElementException;

/**
 * A court for the burdens of the rich. Every row is made once, with the object,
 * and used again: no call makes a row of its own.
 */
public final class BurdenCourt {
    public static final int NONE = -1;

    private static final int REFUSED = -2;
    private static final int BORNE_AHEAD = -3;

    private static final int MOST_BYTES = 600;
    private static final int BYTES_A_FEED = 20;
    private static final int MOST_MEN = 12;
    private static final int MOST_COINS = 100000;
    private static final int MOST_BURDENS = 6;
    private static final int MOST_COST = 10000;
    private static final int MOST_SHARE = 4;
    private static final int MOST_PLACES = 24;
    private static final int MOST_YEARS = 40;
    private static final int LAST_DAY = 400;
    private static final int MOST_CHALLENGES = 40;
    private static final int FARTHEST_AHEAD = 20;

    private static final int FREE = 0;
    private static final int FLOOR = 1;
    private static final int ANSWER = 2;
    private static final int SWEAR = 3;
    private static final int SETTINGS = 4;

    private static final int NO_FAULT = 0;
    private static final int BAD_TOKEN = 1;
    private static final int BEYOND = 2;
    private static final int TOLD_ALREADY = 3;

    private static final int OPEN = 0;
    private static final int CHANGING = 1;
    private static final int TAKEN = 2;
    private static final int EXCHANGED = 3;
    private static final int JUDGED_TO_HEARER = 4;
    private static final int JUDGED_TO_SAYER = 5;

    private final Tape tape;
    private final Reader reader;
    private final Roll roll;
    private final Roll foreseen;
    private final Docket docket;
    private Statutes law;
    private Statutes draft;
    private boolean yearOn;
    private int yearsBegun;
    private int day;
    private int coinsPaid;

    public BurdenCourt() {
        Tape blank = new Tape();
        tape = blank;
        reader = new Reader(blank);
        roll = new Roll();
        foreseen = new Roll();
        docket = new Docket();
        law = new Statutes();
        draft = new Statutes();
        yearOn = false;
        yearsBegun = 0;
        day = 0;
        coinsPaid = 0;
    }

    public int feed(int a, int b, int c, int d, int e) {
        if (!tape.hasRoom(BYTES_A_FEED)) {
            return NONE;
        }
        tape.append(a);
        tape.append(b);
        tape.append(c);
        tape.append(d);
        tape.append(e);
        return tape.length();
    }

    public int statutes(int n) {
        if (yearOn || n < 0 || n > tape.length()) {
            return REFUSED;
        }
        boolean sound = reader.read(n, draft);
        tape.clear();
        if (!sound) {
            return NONE;
        }
        Statutes old = law;
        law = draft;
        draft = old;
        return law.places();
    }

    public int fault(int what) {
        switch (what) {
            case 0:
                return reader.faultKind();
            case 1:
                return reader.faultPlace();
            default:
                return NONE;
        }
    }

    public int man(int declared, int hidden) {
        if (!areCoins(declared) || !areCoins(hidden)) {
            return NONE;
        }
        return roll.enter(declared, hidden);
    }

    public boolean found(int man, int n) {
        if (!roll.has(man) || n < 1 || n > roll.hiddenOf(man)) {
            return false;
        }
        roll.uncover(man, n);
        return true;
    }

    public int look(int man, int what) throws IndexOutOfBoundsException, NoSuchElementException {
        if (!roll.has(man)) {
            throw new IndexOutOfBoundsException("no such man");
        }
        switch (what) {
            case 0:
                return roll.declaredOf(man);
            case 1:
                return roll.hiddenOf(man);
            case 2:
                return roll.placeOf(man);
            case 3:
                return roll.freeFromOf(man);
            case 4:
                return roll.yearsBorneOf(man);
            case 5:
                return isFitNow(man) ? 1 : 0;
            default:
                throw new NoSuchElementException("no such what");
        }
    }

    public int richest(int k) {
        return roll.manOfRank(k);
    }

    public int place(int place, int what) {
        if (!law.hasPlace(place)) {
            return REFUSED;
        }
        switch (what) {
            case 0:
                return law.burdenAt(place);
            case 1:
                return roll.bearerAt(place);
            default:
                return REFUSED;
        }
    }

    public int begin() {
        if (yearOn || yearsBegun >= MOST_YEARS) {
            return NONE;
        }
        int year = yearsBegun;
        yearsBegun++;
        yearOn = true;
        day = 0;
        docket.clear();
        return roll.fillPlaces(law, year);
    }

    public int pass(int days) {
        if (!yearOn || days < 0 || days > LAST_DAY || day + days > LAST_DAY) {
            return NONE;
        }
        day += days;
        docket.judgeBeyond(day, roll);
        return day;
    }

    public int challenge(int x, int y) {
        if (!yearOn || !docket.hasRoom() || !roll.has(x) || !roll.has(y)) {
            return NONE;
        }
        int place = roll.placeOf(x);
        if (place == NONE || !isFitNow(y) || docket.engages(x) || docket.engages(y)) {
            return NONE;
        }
        if (roll.hasBorne(y, place)) {
            return BORNE_AHEAD;
        }
        return docket.enter(x, y, place, day, law.setting(ANSWER));
    }

    public boolean answer(int challenge, boolean take) {
        if (docket.standingOf(challenge) != OPEN) {
            return false;
        }
        if (take) {
            docket.take(challenge, roll);
        } else {
            docket.change(challenge, day + law.setting(SWEAR));
        }
        return true;
    }

    public boolean swear(int challenge, boolean x) {
        if (docket.standingOf(challenge) != CHANGING || docket.hasSworn(challenge, x)) {
            return false;
        }
        docket.hearOath(challenge, x, roll);
        return true;
    }

    public int told(int challenge, int what) {
        switch (what) {
            case 0:
                return docket.sayerOf(challenge);
            case 1:
                return docket.hearerOf(challenge);
            case 2:
                return docket.placeIn(challenge);
            case 3:
                return docket.dayOf(challenge);
            case 4:
                return docket.standingOf(challenge);
            case 5:
                return docket.lastDayOf(challenge);
            default:
                return NONE;
        }
    }

    public int end() {
        if (!yearOn) {
            return NONE;
        }
        docket.judgeAll(roll);
        int paid = roll.settle(law, yearsBegun - 1);
        coinsPaid += paid;
        yearOn = false;
        return paid;
    }

    public int part(int place) {
        if (!law.hasPlace(place) || roll.bearerAt(place) == NONE) {
            return NONE;
        }
        return roll.partAt(law, place);
    }

    public int gain(int x, int y) {
        if (!roll.has(x) || !roll.has(y) || x == y || roll.placeOf(x) == NONE) {
            return Integer.MIN_VALUE;
        }
        int due = roll.partAt(law, roll.placeOf(x));
        int worthOfX = roll.worthOf(x);
        int worthOfY = roll.worthOf(y);
        boolean takes = worthOfY - due >= worthOfX;
        int saying = takes ? worthOfX : worthOfY - due;
        int silent = worthOfX - due;
        return saying - silent;
    }

    public int ahead(int k) {
        if (k < 0 || k > FARTHEST_AHEAD) {
            return NONE;
        }
        foreseen.copyFrom(roll);
        if (yearOn) {
            docket.foreseeVerdicts(foreseen);
            foreseen.settle(law, yearsBegun - 1);
        }
        for (int i = 0; i < k; i++) {
            foreseen.fillPlaces(law, yearsBegun + i);
            foreseen.settle(law, yearsBegun + i);
        }
        return foreseen.fillPlaces(law, yearsBegun + k);
    }

    public int count(int what) {
        switch (what) {
            case 0:
                return roll.size();
            case 1:
                return law.places();
            case 2:
                return yearsBegun;
            case 3:
                return yearOn ? day : NONE;
            case 4:
                return docket.size();
            case 5:
                return coinsPaid;
            default:
                return NONE;
        }
    }

    private static boolean areCoins(int coins) {
        return coins >= 0 && coins <= MOST_COINS;
    }

    private boolean isFitNow(int man) {
        return yearOn && roll.isFit(man, law, yearsBegun - 1);
    }

    /** The bytes that were fed and not yet made statutes. */
    static final class Tape {
        private final byte[] bytes;
        private int length;

        Tape() {
            bytes = new byte[MOST_BYTES];
            length = 0;
        }

        int length() {
            return length;
        }

        boolean hasRoom(int more) {
            return length + more <= bytes.length;
        }

        void append(int number) {
            for (int shift = 24; shift >= 0; shift -= 8) {
                if (length >= 0 && length < bytes.length) {
                    bytes[length] = (byte) (number >> shift);
                    length++;
                }
            }
        }

        int at(int spot) {
            return spot >= 0 && spot < bytes.length ? bytes[spot] & 255 : NONE;
        }

        void clear() {
            length = 0;
        }
    }

    /** What a text of statutes says. A burden that is not told has share 0. */
    static final class Statutes {
        private final int[] cost;
        private final int[] share;
        private final int[] setting;
        private final int[] burdenAt;
        private int places;

        Statutes() {
            cost = new int[MOST_BURDENS];
            share = new int[MOST_BURDENS];
            setting = new int[SETTINGS];
            burdenAt = new int[MOST_PLACES];
            places = 0;
        }

        void clear() {
            for (int i = 0; i < cost.length; i++) {
                cost[i] = 0;
            }
            for (int i = 0; i < share.length; i++) {
                share[i] = 0;
            }
            for (int i = 0; i < setting.length; i++) {
                setting[i] = 0;
            }
            places = 0;
        }

        boolean hasBurden(int name) {
            return shareOf(name) > 0;
        }

        void tellBurden(int name, int itsCost, int itsShare) {
            if (name >= 0 && name < cost.length && name < share.length) {
                cost[name] = itsCost;
                share[name] = itsShare;
            }
        }

        void tellSetting(int kind, int number) {
            if (kind >= 0 && kind < setting.length) {
                setting[kind] = number;
            }
        }

        /** Places are numbered by the names, not by the lines, so only when all lines are known. */
        void numberPlaces() {
            places = 0;
            for (int name = 0; name < share.length; name++) {
                for (int i = 0; i < share[name] && places < burdenAt.length; i++) {
                    burdenAt[places] = name;
                    places++;
                }
            }
        }

        int setting(int kind) {
            return kind >= 0 && kind < setting.length ? setting[kind] : 0;
        }

        int places() {
            return places;
        }

        boolean hasPlace(int place) {
            return place >= 0 && place < places && place < burdenAt.length;
        }

        int burdenAt(int place) {
            return hasPlace(place) ? burdenAt[place] : NONE;
        }

        /** What a place pays that has so many borne places of its burden ahead of it. */
        int partBehind(int name, int borneAhead) {
            int parts = shareOf(name);
            if (parts <= 0) {
                return 0;
            }
            int extra = borneAhead < cost[name] % parts ? 1 : 0;
            return cost[name] / parts + extra;
        }

        private int shareOf(int name) {
            return name >= 0 && name < share.length && name < cost.length ? share[name] : 0;
        }
    }

    /** Reads the tape along; behind the first fault nothing more is expected of the text. */
    static final class Reader {
        /** Above every bound of the statutes, and ten times it is still an int. */
        private static final int BEYOND_ALL = 1000000;

        private final Tape tape;
        private final boolean[] settingTold;
        private int end;
        private int spot;
        private int faultKind;
        private int faultPlace;

        Reader(Tape source) {
            tape = source;
            settingTold = new boolean[SETTINGS];
            end = 0;
            spot = 0;
            faultKind = NO_FAULT;
            faultPlace = NONE;
        }

        int faultKind() {
            return faultKind;
        }

        int faultPlace() {
            return faultPlace;
        }

        boolean read(int length, Statutes into) {
            end = length;
            spot = 0;
            faultKind = NO_FAULT;
            faultPlace = NONE;
            for (int i = 0; i < settingTold.length; i++) {
                settingTold[i] = false;
            }
            into.clear();
            for (int line = 0; line <= MOST_BYTES && isSound() && nextSign() != NONE; line++) {
                readLine(into);
            }
            into.numberPlaces();
            return isSound();
        }

        private boolean isSound() {
            return faultKind == NO_FAULT;
        }

        private void blame(int kind, int where) {
            faultKind = kind;
            faultPlace = where;
        }

        private void readLine(Statutes into) {
            int start = spot;
            int kind = passSettingWord();
            if (kind < 0 || kind >= settingTold.length) {
                readBurden(into);
            } else if (settingTold[kind]) {
                blame(TOLD_ALREADY, start);
            } else {
                settingTold[kind] = true;
                into.tellSetting(kind, expectNumber(0, mostOf(kind)));
            }
            expectSemicolon();
        }

        private void readBurden(Statutes into) {
            expectWord("burden");
            int name = expectNewName(into);
            expectWord("cost");
            int cost = expectNumber(1, MOST_COST);
            expectWord("share");
            int share = expectNumber(1, MOST_SHARE);
            if (isSound()) {
                into.tellBurden(name, cost, share);
            }
        }

        private int passSettingWord() {
            for (int kind = 0; kind < settingTold.length; kind++) {
                if (passWord(wordOf(kind))) {
                    return kind;
                }
            }
            return NONE;
        }

        private void expectWord(String word) {
            if (!isSound()) {
                return;
            }
            nextSign();
            if (!passWord(word)) {
                blame(BAD_TOKEN, spot);
            }
        }

        private int expectNewName(Statutes known) {
            if (!isSound()) {
                return NONE;
            }
            int name = nextSign() - 'A';
            if (name < 0 || name >= MOST_BURDENS) {
                blame(BAD_TOKEN, spot);
                return NONE;
            }
            if (known.hasBurden(name)) {
                blame(TOLD_ALREADY, spot);
                return NONE;
            }
            spot++;
            return name;
        }

        private int expectNumber(int least, int most) {
            if (!isSound()) {
                return 0;
            }
            if (!isDigit(nextSign())) {
                blame(BAD_TOKEN, spot);
                return 0;
            }
            int start = spot;
            int number = 0;
            while (spot < end && isDigit(tape.at(spot))) {
                number = Math.min(BEYOND_ALL, number * 10 + tape.at(spot) - '0');
                spot++;
            }
            if (number < least || number > most) {
                blame(BEYOND, start);
                return 0;
            }
            return number;
        }

        private void expectSemicolon() {
            if (!isSound()) {
                return;
            }
            if (nextSign() == ';') {
                spot++;
            } else {
                blame(BAD_TOKEN, spot);
            }
        }

        /** Goes on to where the next token begins: its first sign; NONE at the end of the text. */
        private int nextSign() {
            while (spot < end && isBlank(tape.at(spot))) {
                spot++;
            }
            return spot < end ? tape.at(spot) : NONE;
        }

        /** Goes behind the word if it stands here as a whole token; else stays. */
        private boolean passWord(String word) {
            int stop = spot;
            while (stop < end && isSmallLetter(tape.at(stop))) {
                stop++;
            }
            if (stop - spot != word.length()) {
                return false;
            }
            for (int i = 0; i < word.length(); i++) {
                if (tape.at(spot + i) != word.charAt(i)) {
                    return false;
                }
            }
            spot = stop;
            return true;
        }

        private static String wordOf(int kind) {
            switch (kind) {
                case FREE:
                    return "free";
                case FLOOR:
                    return "floor";
                case ANSWER:
                    return "answer";
                default:
                    return "swear";
            }
        }

        private static int mostOf(int kind) {
            switch (kind) {
                case FREE:
                    return 9;
                case FLOOR:
                    return 100000;
                default:
                    return 60;
            }
        }

        private static boolean isBlank(int sign) {
            return sign == 10 || sign == 32;
        }

        private static boolean isDigit(int sign) {
            return sign >= '0' && sign <= '9';
        }

        private static boolean isSmallLetter(int sign) {
            return sign >= 'a' && sign <= 'z';
        }
    }

    /** The men with their estates, and who bears which place in the year that is on. */
    static final class Roll {
        private final int[] declared;
        private final int[] hidden;
        private final int[] freeFrom;
        private final int[] yearsBorne;
        private final int[] placeOf;
        private final int[] bearerAt;
        /** Of each place a bit for each man who has borne it in this year. */
        private final int[] haveBorne;
        private int size;

        Roll() {
            declared = new int[MOST_MEN];
            hidden = new int[MOST_MEN];
            freeFrom = new int[MOST_MEN];
            yearsBorne = new int[MOST_MEN];
            placeOf = new int[MOST_MEN];
            bearerAt = new int[MOST_PLACES];
            haveBorne = new int[MOST_PLACES];
            size = 0;
            for (int man = 0; man < placeOf.length; man++) {
                placeOf[man] = NONE;
            }
            for (int place = 0; place < bearerAt.length; place++) {
                bearerAt[place] = NONE;
            }
        }

        void copyFrom(Roll other) {
            size = other.size;
            for (int man = 0; man < MOST_MEN; man++) {
                declared[man] = other.declared[man];
                hidden[man] = other.hidden[man];
                freeFrom[man] = other.freeFrom[man];
                yearsBorne[man] = other.yearsBorne[man];
                placeOf[man] = other.placeOf[man];
            }
            for (int place = 0; place < MOST_PLACES; place++) {
                bearerAt[place] = other.bearerAt[place];
                haveBorne[place] = other.haveBorne[place];
            }
        }

        int size() {
            return size;
        }

        boolean has(int man) {
            return man >= 0 && man < size && man < MOST_MEN;
        }

        int enter(int itsDeclared, int itsHidden) {
            if (size < 0 || size >= MOST_MEN) {
                return NONE;
            }
            int man = size;
            declared[man] = itsDeclared;
            hidden[man] = itsHidden;
            size++;
            return man;
        }

        int declaredOf(int man) {
            return has(man) ? declared[man] : 0;
        }

        int hiddenOf(int man) {
            return has(man) ? hidden[man] : 0;
        }

        int worthOf(int man) {
            return declaredOf(man) + hiddenOf(man);
        }

        int placeOf(int man) {
            return has(man) ? placeOf[man] : NONE;
        }

        int freeFromOf(int man) {
            return has(man) ? freeFrom[man] : 0;
        }

        int yearsBorneOf(int man) {
            return has(man) ? yearsBorne[man] : 0;
        }

        int bearerAt(int place) {
            return isPlace(place) ? bearerAt[place] : NONE;
        }

        boolean hasBorne(int man, int place) {
            return has(man) && isPlace(place) && (haveBorne[place] & (1 << man)) != 0;
        }

        void uncover(int man, int coins) {
            if (has(man)) {
                hidden[man] -= coins;
                declared[man] += coins;
            }
        }

        void exchangeEstates(int one, int other) {
            if (has(one) && has(other)) {
                int itsDeclared = declared[one];
                int itsHidden = hidden[one];
                declared[one] = declared[other];
                hidden[one] = hidden[other];
                declared[other] = itsDeclared;
                hidden[other] = itsHidden;
            }
        }

        int manOfRank(int rank) {
            for (int man = 0; man < size; man++) {
                if (rankOf(man) == rank) {
                    return man;
                }
            }
            return NONE;
        }

        private int rankOf(int man) {
            int ahead = 0;
            for (int other = 0; other < size; other++) {
                int more = declaredOf(other) - declaredOf(man);
                if (more > 0 || more == 0 && other < man) {
                    ahead++;
                }
            }
            return ahead;
        }

        boolean isFit(int man, Statutes law, int year) {
            return has(man) && declared[man] >= law.setting(FLOOR)
                && freeFrom[man] <= year && placeOf[man] == NONE;
        }

        /** The day 0 of a year: how many places lack. */
        int fillPlaces(Statutes law, int year) {
            int lacking = 0;
            for (int place = 0; place < law.places() && place < haveBorne.length; place++) {
                haveBorne[place] = 0;
                int man = richestFit(law, year);
                if (man == NONE) {
                    lacking++;
                } else {
                    layOn(man, place);
                }
            }
            return lacking;
        }

        private int richestFit(Statutes law, int year) {
            int best = NONE;
            for (int man = 0; man < size; man++) {
                if (isFit(man, law, year) && (best == NONE || declaredOf(man) > declaredOf(best))) {
                    best = man;
                }
            }
            return best;
        }

        void handOver(int place, int from, int to) {
            if (has(from)) {
                placeOf[from] = NONE;
            }
            layOn(to, place);
        }

        private void layOn(int man, int place) {
            if (has(man) && isPlace(place)) {
                placeOf[man] = place;
                bearerAt[place] = man;
                haveBorne[place] |= 1 << man;
            }
        }

        int partAt(Statutes law, int place) {
            int burden = law.burdenAt(place);
            int borneAhead = 0;
            for (int other = 0; other < place && other < bearerAt.length; other++) {
                if (law.burdenAt(other) == burden && bearerAt[other] != NONE) {
                    borneAhead++;
                }
            }
            return law.partBehind(burden, borneAhead);
        }

        /** The costs of the year are paid, and nobody bears any more: how many coins. */
        int settle(Statutes law, int year) {
            int paid = 0;
            for (int place = 0; place < law.places(); place++) {
                int man = bearerAt(place);
                if (has(man)) {
                    int due = partAt(law, place);
                    declared[man] -= due;
                    paid += due;
                    yearsBorne[man]++;
                    freeFrom[man] = year + 1 + law.setting(FREE);
                }
            }
            layDownAll();
            return paid;
        }

        /** Apart from paying, for a part hangs on which places ahead are borne. */
        private void layDownAll() {
            for (int man = 0; man < placeOf.length; man++) {
                placeOf[man] = NONE;
            }
            for (int place = 0; place < bearerAt.length; place++) {
                bearerAt[place] = NONE;
            }
        }

        private static boolean isPlace(int place) {
            return place >= 0 && place < MOST_PLACES;
        }
    }

    /** The challenges of a year; a man stands in one open challenge at most. */
    static final class Docket {
        private final int[] sayer;
        private final int[] hearer;
        private final int[] placeIn;
        private final int[] dayOf;
        private final int[] standing;
        private final int[] lastDay;
        private final boolean[] sayerSwore;
        private final boolean[] hearerSwore;
        private int size;

        Docket() {
            sayer = new int[MOST_CHALLENGES];
            hearer = new int[MOST_CHALLENGES];
            placeIn = new int[MOST_CHALLENGES];
            dayOf = new int[MOST_CHALLENGES];
            standing = new int[MOST_CHALLENGES];
            lastDay = new int[MOST_CHALLENGES];
            sayerSwore = new boolean[MOST_CHALLENGES];
            hearerSwore = new boolean[MOST_CHALLENGES];
            size = 0;
        }

        int size() {
            return size;
        }

        void clear() {
            size = 0;
        }

        boolean hasRoom() {
            return size < MOST_CHALLENGES;
        }

        int enter(int x, int y, int place, int day, int daysToAnswer) {
            if (size < 0 || size >= MOST_CHALLENGES) {
                return NONE;
            }
            int number = size;
            sayer[number] = x;
            hearer[number] = y;
            placeIn[number] = place;
            dayOf[number] = day;
            standing[number] = OPEN;
            lastDay[number] = day + daysToAnswer;
            sayerSwore[number] = false;
            hearerSwore[number] = false;
            size++;
            return number;
        }

        int sayerOf(int number) {
            return has(number) ? sayer[number] : NONE;
        }

        int hearerOf(int number) {
            return has(number) ? hearer[number] : NONE;
        }

        int placeIn(int number) {
            return has(number) ? placeIn[number] : NONE;
        }

        int dayOf(int number) {
            return has(number) ? dayOf[number] : NONE;
        }

        int standingOf(int number) {
            return has(number) ? standing[number] : NONE;
        }

        int lastDayOf(int number) {
            return isRunning(number) ? lastDay[number] : NONE;
        }

        boolean engages(int man) {
            for (int number = 0; number < size; number++) {
                if (isRunning(number) && (sayer[number] == man || hearer[number] == man)) {
                    return true;
                }
            }
            return false;
        }

        void take(int number, Roll roll) {
            if (has(number)) {
                standing[number] = TAKEN;
                roll.handOver(placeIn[number], sayer[number], hearer[number]);
            }
        }

        void change(int number, int lastDayToSwear) {
            if (has(number)) {
                standing[number] = CHANGING;
                lastDay[number] = lastDayToSwear;
            }
        }

        boolean hasSworn(int number, boolean bySayer) {
            return has(number) && (bySayer ? sayerSwore[number] : hearerSwore[number]);
        }

        void hearOath(int number, boolean bySayer, Roll roll) {
            if (!has(number)) {
                return;
            }
            if (bySayer) {
                sayerSwore[number] = true;
            } else {
                hearerSwore[number] = true;
            }
            if (sayerSwore[number] && hearerSwore[number]) {
                standing[number] = EXCHANGED;
                roll.exchangeEstates(sayer[number], hearer[number]);
            }
        }

        void judgeBeyond(int day, Roll roll) {
            for (int number = 0; number < size; number++) {
                if (isRunning(number) && day > lastDay[number]) {
                    judge(number, roll);
                }
            }
        }

        void judgeAll(Roll roll) {
            for (int number = 0; number < size; number++) {
                if (isRunning(number)) {
                    judge(number, roll);
                }
            }
        }

        /** As judgeAll on a copy of the roll: the challenges themselves stay as they are. */
        void foreseeVerdicts(Roll copy) {
            for (int number = 0; number < size; number++) {
                if (isRunning(number)) {
                    carryOut(number, verdictOn(number, copy), copy);
                }
            }
        }

        private void judge(int number, Roll roll) {
            if (has(number)) {
                standing[number] = verdictOn(number, roll);
                carryOut(number, standing[number], roll);
            }
        }

        private int verdictOn(int number, Roll roll) {
            if (!has(number)) {
                return NONE;
            }
            boolean toHearer;
            if (standing[number] == OPEN) {
                toHearer = roll.declaredOf(hearer[number]) > roll.declaredOf(sayer[number]);
            } else {
                toHearer = sayerSwore[number] && !hearerSwore[number];
            }
            return toHearer ? JUDGED_TO_HEARER : JUDGED_TO_SAYER;
        }

        private void carryOut(int number, int verdict, Roll roll) {
            if (has(number) && verdict == JUDGED_TO_HEARER) {
                roll.handOver(placeIn[number], sayer[number], hearer[number]);
            }
        }

        private boolean isRunning(int number) {
            int now = standingOf(number);
            return now == OPEN || now == CHANGING;
        }

        private boolean has(int number) {
            return number >= 0 && number < size && number < MOST_CHALLENGES;
        }
    }
}
