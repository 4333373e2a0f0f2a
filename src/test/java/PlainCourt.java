import java.util.ArrayList;
import java.util.List;
import java.util.NoSuchElementException;
import java.util.TreeMap;
import java.util.TreeSet;
import java.util.regex.Matcher;
import java.util.regex.Pattern;

/**
 * A second reading of the document, for tests: with the whole library, tokens first and grammar
 * behind, day after day, and sharing no code with the program.
 */
final class PlainCourt {
    private static final int NONE = -1;
    private static final Pattern TOKEN = Pattern.compile("[ \\n]+|([a-z]+|[0-9]+|[A-F]|;)|(.)", Pattern.DOTALL);

    private static final class Man {
        int declared;
        int hidden;
        int firstNotFree = 0;
        int years = 0;
        int place = NONE;

        Man copy() {
            Man copy = new Man();
            copy.declared = declared;
            copy.hidden = hidden;
            copy.firstNotFree = firstNotFree;
            copy.years = years;
            copy.place = place;
            return copy;
        }
    }

    private static final class Suit {
        int x;
        int y;
        int place;
        int day;
        int state = 0;
        int term;
        boolean swornX;
        boolean swornY;

        boolean open() {
            return state < 2;
        }
    }

    private static final class Law {
        final TreeMap<Character, int[]> burdens = new TreeMap<>();
        final TreeMap<String, Integer> lines = new TreeMap<>();

        int line(String word) {
            return lines.getOrDefault(word, 0);
        }

        /** Of each place its burden's name. */
        List<Character> places() {
            List<Character> places = new ArrayList<>();
            burdens.forEach((name, terms) -> {
                for (int i = 0; i < terms[1]; i++) {
                    places.add(name);
                }
            });
            return places;
        }
    }

    private final StringBuilder tape = new StringBuilder();
    private Law law = new Law();
    private int fault = 0;
    private int faultPlace = NONE;
    private List<Man> men = new ArrayList<>();
    private List<Suit> suits = new ArrayList<>();
    private final TreeSet<String> borne = new TreeSet<>();
    private int years = 0;
    private int day = NONE;
    private int paid = 0;

    int feed(int... numbers) {
        if (tape.length() + 20 > 600) {
            return NONE;
        }
        for (int number : numbers) {
            for (int i = 3; i >= 0; i--) {
                tape.append((char) (number >>> 8 * i & 255));
            }
        }
        return tape.length();
    }

    int statutes(int n) {
        if (n < 0 || n > tape.length() || day != NONE) {
            return -2;
        }
        String text = tape.substring(0, n);
        tape.setLength(0);
        Law read = parse(text);
        if (read == null) {
            return NONE;
        }
        law = read;
        return law.places().size();
    }

    private Law parse(String text) {
        List<String> tokens = new ArrayList<>();
        List<Integer> spots = new ArrayList<>();
        Matcher matcher = TOKEN.matcher(text);
        while (matcher.find()) {
            if (matcher.group(1) != null || matcher.group(2) != null) {
                tokens.add(matcher.group());
                spots.add(matcher.start());
            }
        }
        tokens.add("");
        spots.add(text.length());
        Law read = new Law();
        fault = 0;
        faultPlace = NONE;
        int at = 0;
        while (fault == 0 && !tokens.get(at).isEmpty()) {
            int used = tokens.get(at).equals("burden") ? burden(read, tokens, at) : line(read, tokens, at);
            if (fault != 0) {
                faultPlace = spots.get(at + used);
            }
            at += used;
        }
        return fault == 0 ? read : null;
    }

    /** How many tokens are used, or how far on the fault is. */
    private int burden(Law read, List<String> tokens, int at) {
        String[] forms = {"burden", "[A-F]", "cost", "[0-9]+", "share", "[0-9]+", ";"};
        int[] most = {0, 0, 0, 10000, 0, 4, 0};
        for (int i = 0; i < forms.length; i++) {
            String token = tokens.get(at + i);
            if (!token.matches(forms[i])) {
                fault = 1;
            } else if (most[i] > 0 && beyond(token, 1, most[i])) {
                fault = 2;
            } else if (i == 1 && read.burdens.containsKey(token.charAt(0))) {
                fault = 3;
            }
            if (fault != 0) {
                return i;
            }
        }
        read.burdens.put(tokens.get(at + 1).charAt(0),
            new int[] {Integer.parseInt(tokens.get(at + 3)), Integer.parseInt(tokens.get(at + 5))});
        return forms.length;
    }

    private int line(Law read, List<String> tokens, int at) {
        String word = tokens.get(at);
        int most = switch (word) {
            case "free" -> 9;
            case "floor" -> 100000;
            case "answer", "swear" -> 60;
            default -> NONE;
        };
        if (most == NONE || read.lines.containsKey(word)) {
            fault = most == NONE ? 1 : 3;
            return 0;
        }
        String number = tokens.get(at + 1);
        if (!number.matches("[0-9]+") || beyond(number, 0, most)) {
            fault = number.matches("[0-9]+") ? 2 : 1;
            return 1;
        }
        if (!tokens.get(at + 2).equals(";")) {
            fault = 1;
            return 2;
        }
        read.lines.put(word, Integer.parseInt(number));
        return 3;
    }

    private static boolean beyond(String digits, int least, int most) {
        java.math.BigInteger number = new java.math.BigInteger(digits);
        return number.compareTo(java.math.BigInteger.valueOf(least)) < 0
            || number.compareTo(java.math.BigInteger.valueOf(most)) > 0;
    }

    int fault(int what) {
        return what == 0 ? fault : what == 1 ? faultPlace : NONE;
    }

    int man(int declared, int hidden) {
        if (declared < 0 || hidden < 0 || declared > 100000 || hidden > 100000 || men.size() == 12) {
            return NONE;
        }
        Man man = new Man();
        man.declared = declared;
        man.hidden = hidden;
        men.add(man);
        return men.size() - 1;
    }

    private boolean isMan(int man) {
        return man >= 0 && man < men.size();
    }

    boolean found(int man, int n) {
        if (!isMan(man) || n < 1 || n > men.get(man).hidden) {
            return false;
        }
        men.get(man).hidden -= n;
        men.get(man).declared += n;
        return true;
    }

    int look(int man, int what) {
        if (!isMan(man)) {
            throw new IndexOutOfBoundsException();
        }
        if (what < 0 || what > 5) {
            throw new NoSuchElementException();
        }
        Man m = men.get(man);
        int fit = day != NONE && fit(m, years - 1) ? 1 : 0;
        return new int[] {m.declared, m.hidden, m.place, m.firstNotFree, m.years, fit}[what];
    }

    private boolean fit(Man man, int year) {
        return man.declared >= law.line("floor") && man.firstNotFree <= year && man.place == NONE;
    }

    private List<Integer> byDeclared() {
        List<Integer> order = new ArrayList<>();
        for (int man = 0; man < men.size(); man++) {
            order.add(man);
        }
        // the sort keeps like ones in their order
        order.sort((a, b) -> Integer.compare(men.get(b).declared, men.get(a).declared));
        return order;
    }

    int richest(int k) {
        return isMan(k) ? byDeclared().get(k) : NONE;
    }

    private boolean isPlace(int place) {
        return place >= 0 && place < law.places().size();
    }

    private int bearer(int place) {
        for (int man = 0; man < men.size(); man++) {
            if (men.get(man).place == place) {
                return man;
            }
        }
        return NONE;
    }

    int place(int place, int what) {
        if (!isPlace(place) || what < 0 || what > 1) {
            return -2;
        }
        return what == 0 ? law.places().get(place) - 'A' : bearer(place);
    }

    int begin() {
        if (day != NONE || years == 40) {
            return NONE;
        }
        suits.clear();
        borne.clear();
        years++;
        day = 0;
        int lacking = fill(years - 1);
        for (int man = 0; man < men.size(); man++) {
            borne.add(man + " bore " + men.get(man).place);
        }
        return lacking;
    }

    private int fill(int year) {
        int lacking = 0;
        for (int place = 0; place < law.places().size(); place++) {
            int chosen = byDeclared().stream().filter(m -> fit(men.get(m), year)).findFirst().orElse(NONE);
            if (chosen == NONE) {
                lacking++;
            } else {
                men.get(chosen).place = place;
            }
        }
        return lacking;
    }

    int pass(int days) {
        if (day == NONE || days < 0 || days > 400 || day + days > 400) {
            return NONE;
        }
        for (int i = 0; i < days; i++) {
            day++;
            for (Suit suit : suits) {
                if (suit.open() && day > suit.term) {
                    judge(suit);
                }
            }
        }
        return day;
    }

    private void judge(Suit suit) {
        boolean toY = suit.state == 0
            ? men.get(suit.y).declared > men.get(suit.x).declared
            : suit.swornX && !suit.swornY;
        suit.state = toY ? 4 : 5;
        if (toY) {
            give(suit);
        }
    }

    private void give(Suit suit) {
        men.get(suit.x).place = NONE;
        men.get(suit.y).place = suit.place;
        borne.add(suit.y + " bore " + suit.place);
    }

    int challenge(int x, int y) {
        if (day == NONE || !isMan(x) || !isMan(y) || suits.size() == 40) {
            return NONE;
        }
        int place = men.get(x).place;
        boolean engaged = suits.stream().anyMatch(s -> s.open() && (s.x == x || s.x == y || s.y == x || s.y == y));
        if (place == NONE || !fit(men.get(y), years - 1) || engaged) {
            return NONE;
        }
        if (borne.contains(y + " bore " + place)) {
            return -3;
        }
        Suit suit = new Suit();
        suit.x = x;
        suit.y = y;
        suit.place = place;
        suit.day = day;
        suit.term = day + law.line("answer");
        suits.add(suit);
        return suits.size() - 1;
    }

    private boolean isSuit(int suit) {
        return suit >= 0 && suit < suits.size();
    }

    boolean answer(int challenge, boolean take) {
        if (!isSuit(challenge) || suits.get(challenge).state != 0) {
            return false;
        }
        Suit suit = suits.get(challenge);
        suit.state = take ? 2 : 1;
        if (take) {
            give(suit);
        } else {
            suit.term = day + law.line("swear");
        }
        return true;
    }

    boolean swear(int challenge, boolean x) {
        if (!isSuit(challenge) || suits.get(challenge).state != 1) {
            return false;
        }
        Suit suit = suits.get(challenge);
        if (x ? suit.swornX : suit.swornY) {
            return false;
        }
        suit.swornX |= x;
        suit.swornY |= !x;
        if (suit.swornX && suit.swornY) {
            suit.state = 3;
            Man mx = men.get(suit.x);
            Man my = men.get(suit.y);
            int declared = mx.declared;
            int hidden = mx.hidden;
            mx.declared = my.declared;
            mx.hidden = my.hidden;
            my.declared = declared;
            my.hidden = hidden;
        }
        return true;
    }

    int told(int challenge, int what) {
        if (!isSuit(challenge) || what < 0 || what > 5) {
            return NONE;
        }
        Suit s = suits.get(challenge);
        return new int[] {s.x, s.y, s.place, s.day, s.state, s.open() ? s.term : NONE}[what];
    }

    int end() {
        if (day == NONE) {
            return NONE;
        }
        for (Suit suit : suits) {
            if (suit.open()) {
                judge(suit);
            }
        }
        day = NONE;
        int coins = pay(years - 1);
        paid += coins;
        return coins;
    }

    private int pay(int year) {
        int[] parts = parts();
        int coins = 0;
        for (Man man : men) {
            if (man.place != NONE) {
                man.declared -= parts[man.place];
                coins += parts[man.place];
                man.years++;
                man.firstNotFree = year + 1 + law.line("free");
                man.place = NONE;
            }
        }
        return coins;
    }

    /** Of each place what is due, NONE of one that lacks: coin by coin. */
    private int[] parts() {
        List<Character> places = law.places();
        int[] parts = new int[places.size()];
        law.burdens.forEach((name, terms) -> {
            int left = terms[0] % terms[1];
            for (int place = 0; place < parts.length; place++) {
                if (places.get(place).equals(name)) {
                    boolean lacks = bearer(place) == NONE;
                    parts[place] = lacks ? NONE : terms[0] / terms[1];
                    if (!lacks && left > 0) {
                        parts[place]++;
                        left--;
                    }
                }
            }
        });
        return parts;
    }

    int part(int place) {
        return day != NONE && isPlace(place) ? parts()[place] : NONE;
    }

    int gain(int x, int y) {
        if (!isMan(x) || !isMan(y) || x == y || men.get(x).place == NONE) {
            return Integer.MIN_VALUE;
        }
        int due = parts()[men.get(x).place];
        int worthX = men.get(x).declared + men.get(x).hidden;
        int worthY = men.get(y).declared + men.get(y).hidden;
        return worthX > worthY - due ? worthY - worthX : due;
    }

    int ahead(int k) {
        if (k < 0 || k > 20) {
            return NONE;
        }
        PlainCourt copy = new PlainCourt();
        copy.law = law;
        men.forEach(man -> copy.men.add(man.copy()));
        copy.years = years;
        copy.day = day;
        suits.forEach(suit -> {
            Suit twin = new Suit();
            twin.x = suit.x;
            twin.y = suit.y;
            twin.place = suit.place;
            twin.state = suit.state;
            twin.swornX = suit.swornX;
            twin.swornY = suit.swornY;
            copy.suits.add(twin);
        });
        copy.end();
        int lacking = 0;
        for (int i = 0; i <= k; i++) {
            lacking = copy.fill(years + i);
            copy.pay(years + i);
        }
        return lacking;
    }

    int count(int what) {
        return what < 0 || what > 5 ? NONE
            : new int[] {men.size(), law.places().size(), years, day, suits.size(), paid}[what];
    }
}
