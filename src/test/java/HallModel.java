import java.math.BigInteger;
import java.util.ArrayList;
import java.util.Arrays;
import java.util.HashMap;
import java.util.LinkedHashMap;
import java.util.List;
import java.util.Map;
import java.util.NoSuchElementException;
import java.util.TreeMap;
import java.util.regex.Matcher;
import java.util.regex.Pattern;

/** The document once more, written another way and without care for speed: what the class is held against. */
final class HallModel {
    private static final Pattern TOKEN = Pattern.compile("[a-z]+|[0-9]+|;|[^ \n]", Pattern.DOTALL);
    private static final Map<String, Integer> MOST = Map.of(
            "deposit", 100, "tax", 100, "reserve", 99999, "cost", 999, "shut", 999, "offer", 999);
    private static final Map<String, List<String>> CHOICES = Map.of(
            "price", List.of("first", "second"), "tie", List.of("first", "none"), "default", List.of("next", "none"));

    private static final class Stone {
        int slices;
        List<Integer> hidden = new ArrayList<>();
        List<Integer> shown = new ArrayList<>();
        boolean sold;
        int[] parts = new int[8];
        LinkedHashMap<Integer, Integer> bids = new LinkedHashMap<>();

        boolean spent() {
            return sold || hidden.isEmpty();
        }
    }

    private static final class Fraction {
        final BigInteger up;
        final BigInteger low;

        Fraction(BigInteger up, BigInteger low) {
            BigInteger g = up.gcd(low);
            this.up = up.divide(g);
            this.low = low.divide(g);
        }

        static Fraction of(long n) {
            return new Fraction(BigInteger.valueOf(n), BigInteger.ONE);
        }

        Fraction plus(Fraction o) {
            return new Fraction(up.multiply(o.low).add(o.up.multiply(low)), low.multiply(o.low));
        }

        Fraction times(Fraction o) {
            return new Fraction(up.multiply(o.up), low.multiply(o.low));
        }

        Fraction by(Fraction o) {
            return new Fraction(up.multiply(o.low), low.multiply(o.up));
        }

        boolean above(Fraction o) {
            return up.multiply(o.low).compareTo(o.up.multiply(low)) > 0;
        }

        long tell(int what) {
            return (what == 0 ? up : low).longValueExact();
        }
    }

    private final StringBuilder tape = new StringBuilder();
    private Map<String, String> said = new TreeMap<>();
    private int fault = 0;
    private int place = -1;
    private final List<Integer> worths = new ArrayList<>();
    private final List<int[]> kinds = new ArrayList<>();
    private final List<Integer> purses = new ArrayList<>();
    private final List<Stone> stones = new ArrayList<>();
    private final Map<List<Integer>, Fraction> found = new HashMap<>();
    private int[] sale = null;
    private int hall = 0;

    int feed(int a, int b, int c, int d, int e) {
        if (tape.length() > 380) {
            return -1;
        }
        for (int n : new int[] {a, b, c, d, e}) {
            tape.append((char) (n >>> 24)).append((char) (n >>> 16 & 255)).append((char) (n >>> 8 & 255)).append((char) (n & 255));
        }
        return tape.length();
    }

    int customs(int n) {
        if (n < 0 || n > tape.length()) {
            return -2;
        }
        String text = tape.substring(0, n);
        tape.setLength(0);
        List<String> tokens = new ArrayList<>();
        List<Integer> places = new ArrayList<>();
        Matcher m = TOKEN.matcher(text);
        while (m.find()) {
            tokens.add(m.group());
            places.add(m.start());
        }
        places.add(n);
        Map<String, String> fresh = new TreeMap<>();
        fault = 0;
        place = -1;
        int at = 0;
        int lines = 0;
        while (at < tokens.size()) {
            int[] found = new int[2];
            int next = line(tokens, at, fresh, found);
            if (next < 0) {
                fault = found[0];
                place = places.get(Math.min(found[1], tokens.size()));
                return -1;
            }
            at = next;
            lines++;
        }
        said = fresh;
        return lines;
    }

    private static String token(List<String> tokens, int at) {
        return at < tokens.size() ? tokens.get(at) : "";
    }

    private static int bad(int[] found, int what, int at) {
        found[0] = what;
        found[1] = at;
        return -1;
    }

    private static int line(List<String> tokens, int start, Map<String, String> fresh, int[] found) {
        int at = start;
        String word = token(tokens, at);
        if (!MOST.containsKey(word) && !CHOICES.containsKey(word)) {
            return bad(found, 1, at);
        }
        String key = word;
        if (word.equals("offer")) {
            at++;
            if (!token(tokens, at).matches("[0-9]+")) {
                return bad(found, 1, at);
            }
            BigInteger g = new BigInteger(token(tokens, at));
            if (g.compareTo(BigInteger.valueOf(3)) > 0) {
                return bad(found, 2, at);
            }
            key = "offer" + g;
        }
        if (fresh.containsKey(key)) {
            return bad(found, 3, at);
        }
        at++;
        String value = token(tokens, at);
        if (CHOICES.containsKey(word)) {
            if (!CHOICES.get(word).contains(value)) {
                return bad(found, 1, at);
            }
        } else {
            if (!value.matches("[0-9]+")) {
                return bad(found, 1, at);
            }
            if (new BigInteger(value).compareTo(BigInteger.valueOf(MOST.get(word))) > 0) {
                return bad(found, 2, at);
            }
        }
        fresh.put(key, value);
        at++;
        return token(tokens, at).equals(";") ? at + 1 : bad(found, 1, at);
    }

    private int number(String key) {
        return new BigInteger(said.getOrDefault(key, "0")).intValue();
    }

    int fault(int what) {
        return what == 0 ? fault : what == 1 ? place : -1;
    }

    int grade(int worth) {
        if (worth < 0 || worth > 999 || worths.size() == 4) {
            return -1;
        }
        worths.add(worth);
        return worths.size() - 1;
    }

    int kind(int prior, int w0, int w1, int w2, int w3) {
        int[] row = {w0, w1, w2, w3, prior};
        long sum = 0;
        for (int g = 0; g < 4; g++) {
            if (row[g] < 0 || row[g] != 0 && g >= worths.size()) {
                return -1;
            }
            sum += row[g];
        }
        if (sum != 16 || prior < 1 || prior > 99 || kinds.size() == 3) {
            return -1;
        }
        kinds.add(row);
        return kinds.size() - 1;
    }

    int man(int purse) {
        if (purse < 0 || purse > 999999 || purses.size() == 8) {
            return -1;
        }
        purses.add(purse);
        return purses.size() - 1;
    }

    int boulder(int owner, int slices, int inside) {
        if (!isMan(owner) || slices < 1 || slices > 8 || stones.size() == 10) {
            return -1;
        }
        Stone s = new Stone();
        s.slices = slices;
        for (int i = 0; i < slices; i++) {
            int g = Math.floorMod(inside >>> 2 * i, 4);
            if (g >= worths.size()) {
                return -1;
            }
            s.hidden.add(g);
        }
        s.parts[owner] = 16;
        stones.add(s);
        return stones.size() - 1;
    }

    private boolean isMan(int man) {
        return man >= 0 && man < purses.size();
    }

    private boolean isStone(int b) {
        return b >= 0 && b < stones.size();
    }

    private boolean isOpen(int b) {
        return isStone(b) && !stones.get(b).spent();
    }

    boolean share(int b, int from, int to, int parts) {
        if (!isOpen(b) || !isMan(from) || !isMan(to) || from == to || parts < 1 || parts > stones.get(b).parts[from]) {
            return false;
        }
        stones.get(b).parts[from] -= parts;
        stones.get(b).parts[to] += parts;
        return true;
    }

    int bid(int man, int b, int coins) {
        if (!isOpen(b) || !isMan(man) || coins < 1 || coins > 99999 || stones.get(b).parts[man] != 0) {
            return -1;
        }
        stones.get(b).bids.put(man, coins);
        return stones.get(b).bids.size();
    }

    private int[] dues(Stone s, int coins) {
        int[] due = new int[8];
        int given = 0;
        for (int i = 0; i < 8; i++) {
            due[i] = (int) Math.floor(s.parts[i] * (double) coins / 16);
            given += due[i];
        }
        for (int i = 0; given < coins; i++) {
            if (s.parts[i] != 0) {
                due[i]++;
                given++;
            }
        }
        return due;
    }

    private void pay(Stone s, int coins, int sign) {
        int[] due = dues(s, coins);
        for (int i = 0; i < purses.size(); i++) {
            purses.set(i, purses.get(i) + sign * due[i]);
        }
    }

    int open(int b) {
        if (!isOpen(b)) {
            return -2;
        }
        Stone s = stones.get(b);
        sale = new int[4];
        List<int[]> left = new ArrayList<>();
        for (Map.Entry<Integer, Integer> e : s.bids.entrySet()) {
            int man = e.getKey();
            int coins = e.getValue();
            int deposit = coins * number("deposit") / 100;
            if (coins < number("reserve") || s.parts[man] != 0 || purses.get(man) < deposit) {
                sale[3]++;
            } else {
                left.add(new int[] {man, coins, deposit});
            }
        }
        s.bids.clear();
        left.sort((p, q) -> q[1] - p[1]);
        return goOn(s, left);
    }

    private int goOn(Stone s, List<int[]> left) {
        if (left.isEmpty()) {
            return -1;
        }
        int[] first = left.get(0);
        int[] next = left.size() > 1 ? left.get(1) : null;
        if (next != null && next[1] == first[1] && said.getOrDefault("tie", "first").equals("none")) {
            return -1;
        }
        int price = first[1];
        if (said.getOrDefault("price", "first").equals("second")) {
            price = next == null ? Math.max(1, number("reserve")) : Math.max(next[1], number("reserve"));
        }
        if (purses.get(first[0]) < price) {
            sale[1]++;
            purses.set(first[0], purses.get(first[0]) - first[2]);
            pay(s, first[2], 1);
            boolean goesOn = said.getOrDefault("default", "none").equals("next");
            return goesOn ? goOn(s, left.subList(1, left.size())) : -1;
        }
        sale[0] = price;
        sale[2] = price * number("tax") / 100;
        purses.set(first[0], purses.get(first[0]) - price);
        hall += sale[2];
        pay(s, price - sale[2], 1);
        Arrays.fill(s.parts, 0);
        s.parts[first[0]] = 16;
        return first[0];
    }

    int sale(int what) {
        return sale == null || what < 0 || what > 3 ? -1 : sale[what];
    }

    int cut(int b) {
        if (!isOpen(b)) {
            return -1;
        }
        Stone s = stones.get(b);
        int[] due = dues(s, number("cost"));
        for (int i = 0; i < purses.size(); i++) {
            if (due[i] > purses.get(i)) {
                return -1;
            }
        }
        pay(s, number("cost"), -1);
        hall += number("cost");
        int grade = s.hidden.remove(0);
        s.shown.add(grade);
        pay(s, worths.get(grade), 1);
        return grade;
    }

    private int offer(List<Integer> shown) {
        return shown.isEmpty() ? number("shut") : number("offer" + shown.get(shown.size() - 1));
    }

    int sell(int b) {
        if (!isOpen(b)) {
            return -1;
        }
        Stone s = stones.get(b);
        int coins = offer(s.shown) * s.hidden.size();
        pay(s, coins, 1);
        hall -= coins;
        s.sold = true;
        return coins;
    }

    int look(int b, int what) {
        if (!isStone(b)) {
            throw new IndexOutOfBoundsException();
        }
        if (what < 0 || what > 3) {
            throw new NoSuchElementException();
        }
        Stone s = stones.get(b);
        return what == 0 ? s.slices : what == 1 ? s.shown.size() : what == 2 ? (s.spent() ? 1 : 0) : s.bids.size();
    }

    int parts(int b, int man) {
        return isStone(b) && isMan(man) ? stones.get(b).parts[man] : -1;
    }

    int purse(int man) {
        return isMan(man) ? purses.get(man) : -1;
    }

    private Fraction odds(int[] kind, List<Integer> shown) {
        Fraction f = Fraction.of(kind[4]);
        for (int g : shown) {
            f = f.times(new Fraction(BigInteger.valueOf(kind[g]), BigInteger.valueOf(16)));
        }
        return f;
    }

    private Fraction allOdds(List<Integer> shown) {
        Fraction sum = Fraction.of(0);
        for (int[] kind : kinds) {
            sum = sum.plus(odds(kind, shown));
        }
        return sum;
    }

    private boolean canTell(int b) {
        return isOpen(b) && allOdds(stones.get(b).shown).up.signum() > 0;
    }

    private static List<Integer> with(List<Integer> shown, int grade) {
        List<Integer> more = new ArrayList<>(shown);
        more.add(grade);
        return more;
    }

    private Fraction chanceOf(List<Integer> shown, int grade) {
        return allOdds(with(shown, grade)).by(allOdds(shown));
    }

    private Fraction cutting(List<Integer> shown, int left) {
        Fraction sum = Fraction.of(-number("cost"));
        for (int g = 0; g < worths.size(); g++) {
            Fraction chance = chanceOf(shown, g);
            if (chance.up.signum() > 0) {
                Fraction then = Fraction.of(worths.get(g)).plus(bestOf(with(shown, g), left - 1));
                sum = sum.plus(chance.times(then));
            }
        }
        return sum;
    }

    // of like slices in another order, with the same one last, the best is the same: found once for each question
    private Fraction bestOf(List<Integer> shown, int left) {
        List<Integer> key = new ArrayList<>(shown);
        key.sort(null);
        key.add(shown.get(shown.size() - 1));
        Fraction known = found.get(key);
        if (known == null) {
            known = left == 0 ? Fraction.of(0) : greaterOf(shown, left);
            found.put(key, known);
        }
        return known;
    }

    private Fraction greaterOf(List<Integer> shown, int left) {
        Fraction cutting = cutting(shown, left);
        Fraction selling = Fraction.of((long) left * offer(shown));
        return cutting.above(selling) ? cutting : selling;
    }

    long rest(int b, int what) {
        if (!canTell(b) || what < 0 || what > 1) {
            return -1;
        }
        Stone s = stones.get(b);
        Fraction sum = Fraction.of(0);
        for (int g = 0; g < worths.size(); g++) {
            sum = sum.plus(chanceOf(s.shown, g).times(Fraction.of(worths.get(g))));
        }
        return sum.times(Fraction.of(s.hidden.size())).tell(what);
    }

    long best(int b, int what) {
        if (!canTell(b) || what < 0 || what > 2) {
            return Long.MIN_VALUE;
        }
        found.clear();
        Stone s = stones.get(b);
        Fraction cutting = cutting(s.shown, s.hidden.size());
        Fraction selling = Fraction.of((long) s.hidden.size() * offer(s.shown));
        boolean cut = cutting.above(selling);
        return what == 2 ? (cut ? 2 : 1) : (cut ? cutting : selling).tell(what);
    }

    long likely(int b, int kind, int what) {
        if (!canTell(b) || kind < 0 || kind >= kinds.size() || what < 0 || what > 1) {
            return -1;
        }
        List<Integer> shown = stones.get(b).shown;
        return odds(kinds.get(kind), shown).by(allOdds(shown)).tell(what);
    }

    int count(int what) {
        switch (what) {
            case 0: return worths.size();
            case 1: return kinds.size();
            case 2: return purses.size();
            case 3: return stones.size();
            case 4: return hall;
            default: return -1000000000;
        }
    }
}
