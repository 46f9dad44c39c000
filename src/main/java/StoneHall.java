import java.util.Arrays;
import java.util.NoSuchElementException;

/** A hall where shut boulders are sold by sealed bids, cut slice by slice, and weighed by what was seen. */
public final class StoneHall {
    public static final int NONE = -1;

    private static final int REFUSED = -2;
    private static final int NO_COUNT = -1000000000;

    private static final int MOST_GRADES = 4;
    private static final int MOST_KINDS = 3;
    private static final int MOST_MEN = 8;
    private static final int MOST_BOULDERS = 10;
    private static final int MOST_SLICES = 8;
    private static final int MOST_WORTH = 999;
    private static final int MOST_PRIOR = 99;
    private static final int MOST_PURSE = 999999;
    private static final int MOST_BID = 99999;
    private static final int ALL_PARTS = 16;
    private static final int ALL_WEIGHT = 16;
    private static final int HUNDRED = 100;

    private static final int ADVICE_SELL = 1;
    private static final int ADVICE_CUT = 2;

    private static final Line[] LINES = Line.values();

    private final Tape tape = new Tape();
    private final Customs law = new Customs();
    private final Chances chances = new Chances();
    private final Men men = new Men();
    private final Boulder[] boulders = new Boulder[MOST_BOULDERS];
    private final Sale latestSale = new Sale();
    private int boulderCount;
    private int hallCoins;

    public StoneHall() {
    }

    public int feed(int a, int b, int c, int d, int e) {
        if (!tape.hasRoom()) {
            return NONE;
        }
        tape.append(a);
        tape.append(b);
        tape.append(c);
        tape.append(d);
        tape.append(e);
        return tape.size;
    }

    public int customs(int n) {
        if (n < 0 || n > tape.size) {
            return REFUSED;
        }
        int lines = law.read(tape, n);
        tape.size = 0;
        return lines;
    }

    public int fault(int what) {
        switch (what) {
            case 0:
                return law.faultFound;
            case 1:
                return law.faultPlace;
            default:
                return NONE;
        }
    }

    public int grade(int worth) {
        return chances.addGrade(worth);
    }

    public int kind(int prior, int w0, int w1, int w2, int w3) {
        return chances.addKind(prior, w0, w1, w2, w3);
    }

    public int man(int purse) {
        return men.add(purse);
    }

    public int boulder(int owner, int slices, int inside) {
        if (boulderCount >= MOST_BOULDERS || !men.has(owner)) {
            return NONE;
        }
        if (slices < 1 || slices > MOST_SLICES || !chances.knowsAll(slices, inside)) {
            return NONE;
        }
        boulders[boulderCount] = new Boulder(owner, slices, inside);
        boulderCount++;
        return boulderCount - 1;
    }

    public boolean share(int boulder, int from, int to, int parts) {
        Boulder stone = unspent(boulder);
        if (stone == null || !men.has(from) || !men.has(to) || from == to) {
            return false;
        }
        if (parts < 1 || parts > stone.parts[from]) {
            return false;
        }
        stone.parts[from] -= parts;
        stone.parts[to] += parts;
        return true;
    }

    public int bid(int man, int boulder, int coins) {
        Boulder stone = unspent(boulder);
        if (stone == null || !men.has(man) || coins < 1 || coins > MOST_BID) {
            return NONE;
        }
        if (stone.parts[man] > 0) {
            return NONE;
        }
        stone.placeBid(man, coins);
        return stone.bidCount;
    }

    public int open(int boulder) {
        Boulder stone = unspent(boulder);
        if (stone == null) {
            return REFUSED;
        }
        int winner = latestSale.hold(stone, men, law);
        hallCoins += latestSale.tax;
        return winner;
    }

    public int sale(int what) {
        return latestSale.tell(what);
    }

    public int cut(int boulder) {
        Boulder stone = unspent(boulder);
        int cost = law.coins(Line.COST);
        if (stone == null || !men.canPay(stone, cost)) {
            return NONE;
        }
        men.take(stone, cost);
        hallCoins += cost;
        int grade = stone.cutNext();
        men.give(stone, chances.worths[grade]);
        return grade;
    }

    public int sell(int boulder) {
        Boulder stone = unspent(boulder);
        if (stone == null) {
            return NONE;
        }
        int coins = stone.left() * law.offerBehind(stone.lastSeen());
        men.give(stone, coins);
        hallCoins -= coins;
        stone.spent = true;
        return coins;
    }

    public int look(int boulder, int what) throws IndexOutOfBoundsException, NoSuchElementException {
        Boulder stone = known(boulder);
        if (stone == null) {
            throw new IndexOutOfBoundsException("no such boulder");
        }
        switch (what) {
            case 0:
                return stone.slices;
            case 1:
                return stone.seen;
            case 2:
                return stone.spent ? 1 : 0;
            case 3:
                return stone.bidCount;
            default:
                throw new NoSuchElementException("no such what");
        }
    }

    public int parts(int boulder, int man) {
        Boulder stone = known(boulder);
        if (stone == null || !men.has(man)) {
            return NONE;
        }
        return stone.parts[man];
    }

    public int purse(int man) {
        return men.has(man) ? men.purses[man] : NONE;
    }

    public long rest(int boulder, int what) {
        Boulder stone = unspent(boulder);
        if (stone == null || what < 0 || what > 1 || !chances.weigh(stone)) {
            return NONE;
        }
        chances.expectRest(stone.left());
        return what == 0 ? chances.upper : chances.lower;
    }

    public long best(int boulder, int what) {
        Boulder stone = unspent(boulder);
        if (stone == null || what < 0 || what > 2 || !chances.weigh(stone)) {
            return Long.MIN_VALUE;
        }
        int advice = chances.expectBest(stone, law);
        if (what == 2) {
            return advice;
        }
        return what == 0 ? chances.upper : chances.lower;
    }

    public long likely(int boulder, int kind, int what) {
        Boulder stone = unspent(boulder);
        if (stone == null || !chances.hasKind(kind) || what < 0 || what > 1) {
            return NONE;
        }
        if (!chances.weigh(stone)) {
            return NONE;
        }
        chances.expectKind(kind);
        return what == 0 ? chances.upper : chances.lower;
    }

    public int count(int what) {
        switch (what) {
            case 0:
                return chances.gradeCount;
            case 1:
                return chances.kindCount;
            case 2:
                return men.size;
            case 3:
                return boulderCount;
            case 4:
                return hallCoins;
            default:
                return NO_COUNT;
        }
    }

    private Boulder known(int number) {
        return number >= 0 && number < boulderCount ? boulders[number] : null;
    }

    private Boulder unspent(int number) {
        Boulder stone = known(number);
        return stone == null || stone.spent ? null : stone;
    }

    /** What a line of the customs may say: one of two words, or a number. */
    private enum Line {
        PRICE("price", 0, "first", "second", 0),
        TIE("tie", 1, "first", "none", 0),
        DEFAULT("default", 2, "none", "next", 0),
        DEPOSIT("deposit", 3, "", "", 100),
        RESERVE("reserve", 4, "", "", 99999),
        TAX("tax", 5, "", "", 100),
        COST("cost", 6, "", "", 999),
        SHUT("shut", 7, "", "", 999),
        // last, as the offers of the further grades stand in the slots behind it
        OFFER("offer", 8, "", "", 999);

        static final int SLOTS = 12;

        final String word;
        final int slot;
        final String usual;
        final String other;
        final int most;

        Line(String word, int slot, String usual, String other, int most) {
            this.word = word;
            this.slot = slot;
            this.usual = usual;
            this.other = other;
            this.most = most;
        }

        boolean isChoice() {
            return !usual.isEmpty();
        }
    }

    /** The bytes that were fed and not yet read. */
    private static final class Tape {
        static final int LENGTH = 400;
        static final int FEED = 20;

        final byte[] bytes = new byte[LENGTH];
        int size;

        boolean hasRoom() {
            return size + FEED <= LENGTH;
        }

        void append(int number) {
            for (int shift = 24; shift >= 0 && size < LENGTH; shift -= 8) {
                bytes[size] = (byte) (number >> shift);
                size++;
            }
        }
    }

    /** Goes along the first bytes of a tape, token by token. */
    private static final class Reader {
        static final int END = 0;
        static final int WORD = 1;
        static final int NUMBER = 2;
        static final int CLOSE = 3;
        static final int ALIEN = 4;

        // above every number that a line may tell, and far from an overflow when a digit is added
        static final int HUGE = 1000000;

        Tape tape;
        int end;
        int token;
        int start;
        int behind;
        int number;

        void begin(Tape text, int length) {
            tape = text;
            end = length;
            behind = 0;
            advance();
        }

        void advance() {
            skipBlanks();
            start = behind;
            int sign = signAt(start);
            if (sign == NONE) {
                token = END;
            } else if (isLetter(sign)) {
                token = WORD;
                passLetters();
            } else if (isDigit(sign)) {
                token = NUMBER;
                passDigits();
            } else {
                token = sign == ';' ? CLOSE : ALIEN;
                behind++;
            }
        }

        boolean stands(String word) {
            if (token != WORD || behind - start != word.length()) {
                return false;
            }
            for (int i = 0; i < word.length(); i++) {
                if (signAt(start + i) != word.charAt(i)) {
                    return false;
                }
            }
            return true;
        }

        private void skipBlanks() {
            while (behind < end && isBlank(signAt(behind))) {
                behind++;
            }
        }

        private void passLetters() {
            while (behind < end && isLetter(signAt(behind))) {
                behind++;
            }
        }

        private void passDigits() {
            number = 0;
            while (behind < end && isDigit(signAt(behind))) {
                number = Math.min(HUGE, number * 10 + (signAt(behind) - '0'));
                behind++;
            }
        }

        private int signAt(int place) {
            if (tape == null || place < 0 || place >= end || place >= Tape.LENGTH) {
                return NONE;
            }
            return tape.bytes[place] & 255;
        }

        private static boolean isBlank(int sign) {
            return sign == 10 || sign == 32;
        }

        private static boolean isLetter(int sign) {
            return sign >= 'a' && sign <= 'z';
        }

        private static boolean isDigit(int sign) {
            return sign >= '0' && sign <= '9';
        }
    }

    /** The customs in force, and what the latest reading of a text found. */
    private static final class Customs {
        static final int BAD_TOKEN = 1;
        static final int BAD_NUMBER = 2;
        static final int TOLD_TWICE = 3;

        private final Reader reader = new Reader();
        private final int[] inForce = new int[Line.SLOTS];
        // a text with a fault must leave the customs in force alone, so it is read in here first
        private final int[] draft = new int[Line.SLOTS];
        private final boolean[] told = new boolean[Line.SLOTS];
        int faultFound;
        int faultPlace = NONE;

        int read(Tape tape, int length) {
            startDraft();
            reader.begin(tape, length);
            int lines = 0;
            while (lines < Tape.LENGTH && reader.token != Reader.END) {
                if (!readLine()) {
                    return NONE;
                }
                lines++;
            }
            System.arraycopy(draft, 0, inForce, 0, Line.SLOTS);
            return lines;
        }

        int coins(Line line) {
            return inForce[line.slot];
        }

        boolean saysOther(Line line) {
            return inForce[line.slot] == 1;
        }

        int offerBehind(int gradeSeen) {
            if (gradeSeen < 0 || gradeSeen >= MOST_GRADES) {
                return inForce[Line.SHUT.slot];
            }
            return inForce[Line.OFFER.slot + gradeSeen];
        }

        private void startDraft() {
            faultFound = 0;
            faultPlace = NONE;
            for (int slot = 0; slot < Line.SLOTS; slot++) {
                draft[slot] = 0;
                told[slot] = false;
            }
        }

        private boolean readLine() {
            Line line = lineHere();
            if (line == null) {
                return blame(BAD_TOKEN);
            }
            int slot = line.slot;
            if (line == Line.OFFER) {
                reader.advance();
                if (!isNumberUpTo(MOST_GRADES - 1)) {
                    return false;
                }
                slot += reader.number;
            }
            if (told[slot]) {
                return blame(TOLD_TWICE);
            }
            told[slot] = true;
            reader.advance();
            if (!keepSaying(line, slot)) {
                return false;
            }
            reader.advance();
            if (reader.token != Reader.CLOSE) {
                return blame(BAD_TOKEN);
            }
            reader.advance();
            return true;
        }

        private boolean keepSaying(Line line, int slot) {
            if (line.isChoice()) {
                draft[slot] = reader.stands(line.other) ? 1 : 0;
                return draft[slot] == 1 || reader.stands(line.usual) || blame(BAD_TOKEN);
            }
            if (!isNumberUpTo(line.most)) {
                return false;
            }
            draft[slot] = reader.number;
            return true;
        }

        private Line lineHere() {
            for (Line line : LINES) {
                if (reader.stands(line.word)) {
                    return line;
                }
            }
            return null;
        }

        private boolean isNumberUpTo(int most) {
            if (reader.token != Reader.NUMBER) {
                return blame(BAD_TOKEN);
            }
            return reader.number <= most || blame(BAD_NUMBER);
        }

        private boolean blame(int what) {
            faultFound = what;
            faultPlace = reader.start;
            return false;
        }
    }

    /** The men with their purses. */
    private static final class Men {
        final int[] purses = new int[MOST_MEN];
        private final int[] dues = new int[MOST_MEN];
        int size;

        int add(int coins) {
            if (coins < 0 || coins > MOST_PURSE || size >= MOST_MEN) {
                return NONE;
            }
            purses[size] = coins;
            size++;
            return size - 1;
        }

        boolean has(int number) {
            return number >= 0 && number < size;
        }

        boolean canPay(Boulder stone, int coins) {
            divide(stone, coins);
            for (int i = 0; i < size; i++) {
                if (purses[i] < dues[i]) {
                    return false;
                }
            }
            return true;
        }

        void take(Boulder stone, int coins) {
            divide(stone, coins);
            for (int i = 0; i < size; i++) {
                purses[i] -= dues[i];
            }
        }

        void give(Boulder stone, int coins) {
            divide(stone, coins);
            for (int i = 0; i < size; i++) {
                purses[i] += dues[i];
            }
        }

        private void divide(Boulder stone, int coins) {
            int over = coins;
            for (int i = 0; i < size; i++) {
                dues[i] = stone.parts[i] * coins / ALL_PARTS;
                over -= dues[i];
            }
            for (int i = 0; i < size && over > 0; i++) {
                if (stone.parts[i] > 0) {
                    dues[i]++;
                    over--;
                }
            }
        }
    }

    /** A boulder, its owners' parts and the bids on it in the order in which their men first bade. */
    private static final class Boulder {
        final int slices;
        private final int inside;
        final int[] parts = new int[MOST_MEN];
        final int[] bidders = new int[MOST_MEN];
        final int[] bidCoins = new int[MOST_MEN];
        int bidCount;
        int seen;
        boolean spent;

        Boulder(int owner, int slices, int inside) {
            this.slices = slices;
            this.inside = inside;
            this.parts[owner] = ALL_PARTS;
        }

        static int gradeInside(int inside, int slice) {
            return (inside >> (2 * slice)) & 3;
        }

        int gradeOf(int slice) {
            return gradeInside(inside, slice);
        }

        int left() {
            return slices - seen;
        }

        int lastSeen() {
            return seen == 0 ? NONE : gradeOf(seen - 1);
        }

        int cutNext() {
            int grade = gradeOf(seen);
            seen++;
            spent = seen >= slices;
            return grade;
        }

        void placeBid(int man, int coins) {
            for (int i = 0; i < bidCount; i++) {
                if (bidders[i] == man) {
                    bidCoins[i] = coins;
                    return;
                }
            }
            if (bidCount < MOST_MEN) {
                bidders[bidCount] = man;
                bidCoins[bidCount] = coins;
                bidCount++;
            }
        }

        void passAllTo(int man) {
            Arrays.fill(parts, 0);
            parts[man] = ALL_PARTS;
        }
    }

    /** The latest sale: the bids that were left in it, best first, and how it ended. */
    private static final class Sale {
        private final int[] bidders = new int[MOST_MEN];
        private final int[] coins = new int[MOST_MEN];
        private int leftIn;
        private int out;
        private boolean held;
        private int price;
        private int defaulted;
        int tax;

        int tell(int what) {
            if (!held) {
                return NONE;
            }
            switch (what) {
                case 0:
                    return price;
                case 1:
                    return defaulted;
                case 2:
                    return tax;
                case 3:
                    return out;
                default:
                    return NONE;
            }
        }

        int hold(Boulder stone, Men men, Customs law) {
            held = true;
            price = 0;
            defaulted = 0;
            tax = 0;
            rankBids(stone, men, law);
            stone.bidCount = 0;
            for (int first = 0; first < leftIn; first++) {
                if (isBarredTie(first, law)) {
                    return NONE;
                }
                int asked = priceFor(first, law);
                if (men.purses[bidders[first]] >= asked) {
                    settle(bidders[first], asked, stone, men, law);
                    return bidders[first];
                }
                forfeit(first, stone, men, law);
                if (!law.saysOther(Line.DEFAULT)) {
                    return NONE;
                }
            }
            return NONE;
        }

        private void rankBids(Boulder stone, Men men, Customs law) {
            leftIn = 0;
            out = 0;
            for (int i = 0; i < stone.bidCount; i++) {
                int man = stone.bidders[i];
                int sum = stone.bidCoins[i];
                boolean isOut = sum < law.coins(Line.RESERVE)
                        || stone.parts[man] > 0
                        || men.purses[man] < depositOf(sum, law);
                if (isOut) {
                    out++;
                } else {
                    rank(man, sum);
                }
            }
        }

        // behind like ones, as the bids come here in the order in which they were told
        private void rank(int man, int sum) {
            if (leftIn >= MOST_MEN) {
                return;
            }
            int at = leftIn;
            for (; at > 0 && coins[at - 1] < sum; at--) {
                coins[at] = coins[at - 1];
                bidders[at] = bidders[at - 1];
            }
            coins[at] = sum;
            bidders[at] = man;
            leftIn++;
        }

        private boolean isBarredTie(int first, Customs law) {
            return law.saysOther(Line.TIE) && first + 1 < leftIn && coins[first] == coins[first + 1];
        }

        private int priceFor(int first, Customs law) {
            if (!law.saysOther(Line.PRICE)) {
                return coins[first];
            }
            int next = first + 1 < leftIn ? coins[first + 1] : 1;
            return Math.max(next, law.coins(Line.RESERVE));
        }

        private void settle(int winner, int asked, Boulder stone, Men men, Customs law) {
            price = asked;
            tax = asked * law.coins(Line.TAX) / HUNDRED;
            men.purses[winner] -= asked;
            men.give(stone, asked - tax);
            stone.passAllTo(winner);
        }

        private void forfeit(int first, Boulder stone, Men men, Customs law) {
            int deposit = depositOf(coins[first], law);
            men.purses[bidders[first]] -= deposit;
            men.give(stone, deposit);
            defaulted++;
        }

        private static int depositOf(int sum, Customs law) {
            return sum * law.coins(Line.DEPOSIT) / HUNDRED;
        }
    }

    /** Grades and kinds, and what they let one expect of a boulder by what was seen of it. */
    private static final class Chances {
        // one more than the most slices: the number of different counts of a grade
        static final int COUNTS = 9;
        static final int PLACES = COUNTS * COUNTS * COUNTS;
        // how far a slice of each grade moves the place in 'onward'; grade 0 follows from the others
        static final int[] STEPS = {0, 81, 9, 1};

        // Euclid's way needs under a hundred steps for two longs
        static final int GCD_STEPS = 100;

        final int[] worths = new int[MOST_GRADES];
        int gradeCount;
        int kindCount;
        private final int[] priors = new int[MOST_KINDS];
        private final int[] weights = new int[MOST_KINDS * MOST_GRADES];
        private final long[] powers = new long[MOST_KINDS * MOST_GRADES * COUNTS];
        private final long[] odds = new long[MOST_KINDS];
        private long allOdds;
        private final int[] further = new int[MOST_GRADES];
        private final long[] oddsThere = new long[MOST_KINDS];
        private final long[] onward = new long[PLACES];
        long upper;
        long lower = 1;

        int addGrade(int worth) {
            if (worth < 0 || worth > MOST_WORTH || gradeCount >= MOST_GRADES) {
                return NONE;
            }
            worths[gradeCount] = worth;
            gradeCount++;
            return gradeCount - 1;
        }

        boolean knowsAll(int slices, int inside) {
            for (int slice = 0; slice < slices; slice++) {
                if (Boulder.gradeInside(inside, slice) >= gradeCount) {
                    return false;
                }
            }
            return true;
        }

        int addKind(int prior, int w0, int w1, int w2, int w3) {
            if (prior < 1 || prior > MOST_PRIOR || kindCount >= MOST_KINDS) {
                return NONE;
            }
            if (!canWeigh(0, w0) || !canWeigh(1, w1) || !canWeigh(2, w2) || !canWeigh(3, w3)) {
                return NONE;
            }
            if (w0 + w1 + w2 + w3 != ALL_WEIGHT) {
                return NONE;
            }
            priors[kindCount] = prior;
            keepWeight(0, w0);
            keepWeight(1, w1);
            keepWeight(2, w2);
            keepWeight(3, w3);
            kindCount++;
            return kindCount - 1;
        }

        // the upper bound keeps the sum of four from wrapping round
        private boolean canWeigh(int grade, int weight) {
            return weight >= 0 && weight <= (grade < gradeCount ? ALL_WEIGHT : 0);
        }

        private void keepWeight(int grade, int weight) {
            int row = kindCount * MOST_GRADES + grade;
            weights[row] = weight;
            long power = 1;
            for (int i = 0; i < COUNTS; i++) {
                powers[row * COUNTS + i] = power;
                power *= weight;
            }
        }

        boolean hasKind(int number) {
            return number >= 0 && number < kindCount;
        }

        /** Weighs the kinds by what was seen; false if there is no kind that it could be. */
        boolean weigh(Boulder stone) {
            allOdds = 0;
            for (int kind = 0; kind < kindCount; kind++) {
                long weight = priors[kind];
                for (int slice = 0; slice < stone.seen; slice++) {
                    weight *= weights[kind * MOST_GRADES + stone.gradeOf(slice)];
                }
                odds[kind] = weight;
                allOdds += weight;
            }
            return allOdds > 0;
        }

        void expectKind(int kind) {
            keepFraction(odds[kind], allOdds);
        }

        void expectRest(int left) {
            long sum = 0;
            for (int kind = 0; kind < kindCount; kind++) {
                for (int grade = 0; grade < gradeCount; grade++) {
                    sum += odds[kind] * weights[kind * MOST_GRADES + grade] * worths[grade];
                }
            }
            keepFraction(sum * left, allOdds * ALL_WEIGHT);
        }

        /**
         * All values are held times allOdds times 16 to the power of the slices left, so they are whole
         * and, at 297 * 16^8 * 8 * 999 at most, fit a long.
         */
        int expectBest(Boulder stone, Customs law) {
            int left = stone.left();
            long scale = allOdds * sixteenToThe(left);
            long selling = scale * left * law.offerBehind(stone.lastSeen());
            long cutting = valueOfCutting(left, law);
            keepFraction(Math.max(selling, cutting), scale);
            return cutting > selling ? ADVICE_CUT : ADVICE_SELL;
        }

        /**
         * What cutting on is worth hangs on how many of each grade were seen, not on their order, so
         * 'onward' has one value for each such count, and goes back from the last slice to this face.
         */
        private long valueOfCutting(int left, Customs law) {
            Arrays.fill(onward, 0);
            for (int more = left - 1; more >= 0; more--) {
                int behind = left - more - 1;
                for (int c1 = 0; c1 <= more; c1++) {
                    for (int c2 = 0; c2 <= more - c1; c2++) {
                        for (int c3 = 0; c3 <= more - c1 - c2; c3++) {
                            goFurther(more - c1 - c2 - c3, c1, c2, c3);
                            int place = c1 * STEPS[1] + c2 * STEPS[2] + c3 * STEPS[3];
                            onward[place] = valueOfNextCut(place, behind, law);
                        }
                    }
                }
            }
            return onward[0];
        }

        private void goFurther(int c0, int c1, int c2, int c3) {
            further[0] = c0;
            further[1] = c1;
            further[2] = c2;
            further[3] = c3;
            for (int kind = 0; kind < kindCount; kind++) {
                long weight = odds[kind];
                for (int grade = 0; grade < MOST_GRADES; grade++) {
                    weight *= powers[(kind * MOST_GRADES + grade) * COUNTS + further[grade]];
                }
                oddsThere[kind] = weight;
            }
        }

        // the values one slice further stand at higher places (or this one), which are not yet written over
        private long valueOfNextCut(int place, int behind, Customs law) {
            int cost = law.coins(Line.COST);
            long sum = 0;
            for (int grade = 0; grade < gradeCount; grade++) {
                long scale = oddsOfNext(grade) * sixteenToThe(behind);
                if (scale > 0) {
                    long selling = scale * behind * law.offerBehind(grade);
                    long cutting = onward[place + STEPS[grade]];
                    sum += scale * (worths[grade] - cost) + Math.max(selling, cutting);
                }
            }
            return sum;
        }

        private long oddsOfNext(int grade) {
            long sum = 0;
            for (int kind = 0; kind < kindCount; kind++) {
                sum += oddsThere[kind] * weights[kind * MOST_GRADES + grade];
            }
            return sum;
        }

        private static long sixteenToThe(int power) {
            return 1L << (4 * power);
        }

        private void keepFraction(long above, long below) {
            long common = commonDivisor(above, below);
            if (common > 0) {
                upper = above / common;
                lower = below / common;
            }
        }

        private static long commonDivisor(long above, long below) {
            long a = above;
            long b = below;
            for (int step = 0; step < GCD_STEPS && b != 0; step++) {
                long remainder = a % b;
                a = b;
                b = remainder;
            }
            return a;
        }
    }
}
