import java.util.function.Supplier;

/** Promises 18 to 20, and what is expected of a boulder in "Terms": each sentence that names a boundary case. */
public final class EdgesOfChancesTest {
    private static final long NO_BEST = Long.MIN_VALUE;
    private static final Supplier<StoneHall> BUSY = Scenes::busy;
    private static final Supplier<StoneHall> FULL = Scenes::full;

    public static void main(String[] args) {
        restOfNoSuchBoulder();
        restOfASpentOne();
        restOfAnotherWhat();
        bestOfNoSuchBoulder();
        bestOfASpentOne();
        bestOfAnotherWhat();
        likelyOfNoSuchBoulder();
        likelyOfASpentOne();
        likelyOfNoSuchKind();
        likelyOfAnotherWhat();
        withoutKinds();
        seenThatNoKindHas();
        seenThatOneKindHasNot();
        asOftenAsThePrior();
        notByOthers();
        allSlicesLeft();
        leastTerms();
        cutIfThatIsMore();
        cutIfThatIsMoreByTheLeast();
        bestAtEachFace();
        bestOfTheLastSlice();
        bestIsNeverBelow0();
        costIsNeverRefused();
        byTheCustomsOfNow();
        greatestNumbers();
        Check.end();
    }

    private static void restIs(StoneHall x, int boulder, long upper, long lower) {
        Edge.due("rest upper", x.rest(boulder, 0), upper);
        Edge.due("rest lower", x.rest(boulder, 1), lower);
    }

    private static void bestIs(StoneHall x, int boulder, long upper, long lower, long advice) {
        Edge.due("best upper", x.best(boulder, 0), upper);
        Edge.due("best lower", x.best(boulder, 1), lower);
        Edge.due("advice", x.best(boulder, 2), advice);
    }

    private static void likelyIs(StoneHall x, int boulder, int kind, long upper, long lower) {
        Edge.due("likely upper", x.likely(boulder, kind, 0), upper);
        Edge.due("likely lower", x.likely(boulder, kind, 1), lower);
    }

    private static void noneIs(StoneHall x, int boulder) {
        restIs(x, boulder, -1, -1);
        bestIs(x, boulder, NO_BEST, NO_BEST, NO_BEST);
        likelyIs(x, boulder, 0, -1, -1);
    }

    /** Grades by worths, one man with a purse, and his boulder. */
    private static StoneHall stone(String customs, int purse, int slices, int inside, int... worths) {
        StoneHall x = new StoneHall();
        for (int worth : worths) {
            x.grade(worth);
        }
        x.man(purse);
        Edge.due("boulder", x.boulder(0, slices, inside), 0);
        Edge.due("customs " + customs, Check.customs(x, customs) >= 0, true);
        return x;
    }

    private static void restOfNoSuchBoulder() {
        Edge.says("Promise 18", "REST, what 0: the upper number, 1: the lower; NONE: no such BOULDER");
        // boulder 0: 3/8 of 10 and 5/8 of 35, four times; boulder 1, behind a 35: 3/10 and 7/10, twice
        restIs(Scenes.busy(), 0, 205, 2);
        restIs(Scenes.busy(), 1, 55, 1);
        Edge.answers(FULL, "boulder 9", x -> x.rest(9, 0) > 0 ? 1 : 0, 1);
        for (int what = 0; what <= 1; what++) {
            int told = what;
            Edge.refuses(BUSY, "rest(4, " + what + ")", x -> x.rest(4, told), -1);
            Edge.refuses(BUSY, "rest(-1, " + what + ")", x -> x.rest(-1, told), -1);
            Edge.refuses(FULL, "rest(10, " + what + ")", x -> x.rest(10, told), -1);
            for (int far : Scenes.FAR) {
                Edge.refuses(BUSY, "rest(" + far + ", " + what + ")", x -> x.rest(far, told), -1);
            }
        }
    }

    private static void restOfASpentOne() {
        Edge.says("Promise 18", "it is spent, there is none");
        Edge.refuses(BUSY, "sold to the HALL", x -> x.rest(2, 0), -1);
        Edge.refuses(BUSY, "its lower number", x -> x.rest(2, 1), -1);
        Edge.refuses(BUSY, "cut to the end", x -> x.rest(3, 0), -1);
        Edge.refuses(BUSY, "its lower number", x -> x.rest(3, 1), -1);
        StoneHall x = Scenes.busy();
        x.cut(1);
        Edge.due("with one slice left", x.rest(1, 1) > 0, true);
        x.cut(1);
        restIs(x, 1, -1, -1);
    }

    private static void restOfAnotherWhat() {
        Edge.says("Promise 18", "or no such what.");
        Edge.refuses(BUSY, "rest(0, 2)", x -> x.rest(0, 2), -1);
        Edge.refuses(BUSY, "rest(0, -1)", x -> x.rest(0, -1), -1);
        for (int far : Scenes.FAR) {
            Edge.refuses(BUSY, "rest(0, " + far + ")", x -> x.rest(0, far), -1);
        }
    }

    private static void bestOfNoSuchBoulder() {
        Edge.says("Promise 19", "BEST, what 0, 1 likewise, 2: ADVICE. Long.MIN_VALUE: as NONE there.");
        // whatever is seen, a slice is worth more than its cost of 3 and all offers: it is best to cut all
        bestIs(Scenes.busy(), 0, 181, 2, 2);
        bestIs(Scenes.busy(), 1, 49, 1, 2);
        for (int what = 0; what <= 2; what++) {
            int told = what;
            Edge.refuses(BUSY, "best(4, " + what + ")", x -> x.best(4, told), NO_BEST);
            Edge.refuses(BUSY, "best(-1, " + what + ")", x -> x.best(-1, told), NO_BEST);
            Edge.refuses(FULL, "best(10, " + what + ")", x -> x.best(10, told), NO_BEST);
            for (int far : Scenes.FAR) {
                Edge.refuses(BUSY, "best(" + far + ", " + what + ")", x -> x.best(far, told), NO_BEST);
            }
        }
    }

    private static void bestOfASpentOne() {
        Edge.says("Promise 19", "Long.MIN_VALUE: as NONE there.");
        for (int what = 0; what <= 2; what++) {
            int told = what;
            Edge.refuses(BUSY, "sold to the HALL, " + what, x -> x.best(2, told), NO_BEST);
            Edge.refuses(BUSY, "cut to the end, " + what, x -> x.best(3, told), NO_BEST);
        }
        StoneHall x = Scenes.busy();
        x.cut(1);
        Edge.due("with one slice left", x.best(1, 2), 2);
        x.sell(1);
        bestIs(x, 1, NO_BEST, NO_BEST, NO_BEST);
    }

    private static void bestOfAnotherWhat() {
        Edge.says("Promise 19", "Long.MIN_VALUE: as NONE there.");
        Edge.refuses(BUSY, "best(0, 3)", x -> x.best(0, 3), NO_BEST);
        Edge.refuses(BUSY, "best(0, -1)", x -> x.best(0, -1), NO_BEST);
        for (int far : Scenes.FAR) {
            Edge.refuses(BUSY, "best(0, " + far + ")", x -> x.best(0, far), NO_BEST);
        }
    }

    private static void likelyOfNoSuchBoulder() {
        Edge.says("Promise 20", "what 0, 1: upper, lower number in least terms; NONE likewise");
        likelyIs(Scenes.busy(), 0, 0, 1, 4);
        likelyIs(Scenes.busy(), 0, 1, 3, 4);
        likelyIs(Scenes.busy(), 1, 0, 1, 10);
        likelyIs(Scenes.busy(), 1, 1, 9, 10);
        Edge.refuses(BUSY, "likely(4, 0, 0)", x -> x.likely(4, 0, 0), -1);
        Edge.refuses(BUSY, "likely(4, 0, 1)", x -> x.likely(4, 0, 1), -1);
        Edge.refuses(BUSY, "likely(-1, 0, 0)", x -> x.likely(-1, 0, 0), -1);
        Edge.refuses(FULL, "likely(10, 0, 0)", x -> x.likely(10, 0, 0), -1);
        for (int far : Scenes.FAR) {
            Edge.refuses(BUSY, "likely(" + far + ", 0, 0)", x -> x.likely(far, 0, 0), -1);
        }
    }

    private static void likelyOfASpentOne() {
        Edge.says("Promise 20", "NONE likewise");
        for (int kind = 0; kind <= 1; kind++) {
            int asked = kind;
            Edge.refuses(BUSY, "sold to the HALL, kind " + kind, x -> x.likely(2, asked, 0), -1);
            Edge.refuses(BUSY, "cut to the end, kind " + kind, x -> x.likely(3, asked, 1), -1);
        }
    }

    private static void likelyOfNoSuchKind() {
        Edge.says("Promise 20", "or no such KIND.");
        Edge.refuses(BUSY, "likely(0, 2, 0)", x -> x.likely(0, 2, 0), -1);
        Edge.refuses(BUSY, "likely(0, 2, 1)", x -> x.likely(0, 2, 1), -1);
        Edge.refuses(BUSY, "likely(0, -1, 0)", x -> x.likely(0, -1, 0), -1);
        // 2 among 1 + 3 + 2
        Edge.answers(FULL, "likely(0, 2, 0)", x -> x.likely(0, 2, 0), 1);
        Edge.answers(FULL, "likely(0, 2, 1)", x -> x.likely(0, 2, 1), 3);
        Edge.refuses(FULL, "likely(0, 3, 0)", x -> x.likely(0, 3, 0), -1);
        for (int far : Scenes.FAR) {
            Edge.refuses(BUSY, "likely(0, " + far + ", 0)", x -> x.likely(0, far, 0), -1);
        }
    }

    private static void likelyOfAnotherWhat() {
        Edge.says("Promise 20", "what 0, 1: upper, lower number in least terms; NONE likewise");
        Edge.refuses(BUSY, "likely(0, 0, 2)", x -> x.likely(0, 0, 2), -1);
        Edge.refuses(BUSY, "likely(0, 0, -1)", x -> x.likely(0, 0, -1), -1);
        for (int far : Scenes.FAR) {
            Edge.refuses(BUSY, "likely(0, 0, " + far + ")", x -> x.likely(0, 0, far), -1);
        }
    }

    private static void withoutKinds() {
        Edge.says("Terms", "or without KINDS, there are none.)");
        StoneHall x = stone("shut 9;", 5, 3, 0, 10);
        noneIs(x, 0);
        Edge.due("the first KIND", x.kind(1, 16, 0, 0, 0), 0);
        restIs(x, 0, 30, 1);
        bestIs(x, 0, 30, 1, 2);
        likelyIs(x, 0, 0, 1, 1);
    }

    private static void seenThatNoKindHas() {
        Edge.says("Terms", "With slices seen that no KIND has");
        StoneHall none = stone("", 5, 3, 0b01_00, 10, 20);
        none.kind(9, 16, 0, 0, 0);
        restIs(none, 0, 30, 1);
        none.cut(0);
        restIs(none, 0, 20, 1);
        none.cut(0);
        noneIs(none, 0);
        Edge.due("it can be cut on", none.cut(0), 0);
        StoneHall rare = stone("", 5, 3, 0b01_00, 10, 20);
        rare.kind(9, 15, 1, 0, 0);
        rare.cut(0);
        rare.cut(0);
        restIs(rare, 0, 85, 8);
        likelyIs(rare, 0, 0, 1, 1);
        StoneHall apart = stone("", 5, 3, 0b01_00, 10, 20);
        apart.kind(9, 16, 0, 0, 0);
        apart.kind(9, 0, 16, 0, 0);
        apart.cut(0);
        restIs(apart, 0, 20, 1);
        apart.cut(0);
        noneIs(apart, 0);
        likelyIs(apart, 0, 1, -1, -1);
    }

    private static void seenThatOneKindHasNot() {
        Edge.says("Promise 20", "How likely a BOULDER is of a KIND by what was seen");
        StoneHall x = stone("", 5, 3, 1, 10, 20);
        x.kind(99, 16, 0, 0, 0);
        x.kind(1, 15, 1, 0, 0);
        likelyIs(x, 0, 0, 99, 100);
        likelyIs(x, 0, 1, 1, 100);
        x.cut(0);
        likelyIs(x, 0, 0, 0, 1);
        likelyIs(x, 0, 1, 1, 1);
    }

    private static void asOftenAsThePrior() {
        Edge.says("Terms", "A boulder is of a KIND as often as its PRIOR is among all; of its slices each is of a GRADE as often as the WEIGHT of its KIND is of 16, each by itself.");
        StoneHall x = stone("", 5, 8, 0, 10, 20);
        x.kind(1, 16, 0, 0, 0);
        x.kind(99, 0, 16, 0, 0);
        likelyIs(x, 0, 0, 1, 100);
        likelyIs(x, 0, 1, 99, 100);
        // 8 * (10 + 99 * 20) / 100
        restIs(x, 0, 796, 5);
        x.kind(99, 1, 15, 0, 0);
        likelyIs(x, 0, 0, 1, 199);
        likelyIs(x, 0, 2, 99, 199);
    }

    private static void notByOthers() {
        Edge.says("Terms", "By what was seen of a BOULDER (not of others)");
        StoneHall x = Scenes.busy();
        x.cut(1);
        x.boulder(2, 5, 0b00_00_00_00);
        x.cut(4);
        x.cut(4);
        restIs(x, 0, 205, 2);
        bestIs(x, 0, 181, 2, 2);
        likelyIs(x, 0, 0, 1, 4);
        // two of grade 0: 144 against 3 times 16
        likelyIs(x, 4, 0, 3, 4);
    }

    private static void allSlicesLeft() {
        Edge.says("Terms", "REST: the expected WORTH of all slices left.");
        StoneHall x = stone("", 5, 8, 0, 7);
        x.kind(1, 16, 0, 0, 0);
        for (int left = 8; left >= 1; left--) {
            restIs(x, 0, 7 * left, 1);
            Edge.due("cut", x.cut(0), 0);
        }
        restIs(x, 0, -1, -1);
    }

    private static void leastTerms() {
        Edge.says("Terms", "Both as fractions in least terms.");
        StoneHall zero = stone("", 5, 3, 0, 0);
        zero.kind(7, 16, 0, 0, 0);
        restIs(zero, 0, 0, 1);
        bestIs(zero, 0, 0, 1, 1);
        likelyIs(zero, 0, 0, 1, 1);
        StoneHall half = stone("", 5, 1, 0, 0, 1);
        half.kind(98, 8, 8, 0, 0);
        restIs(half, 0, 1, 2);
        bestIs(half, 0, 1, 2, 2);
        StoneHall sixteenth = stone("", 5, 1, 0, 0, 1);
        sixteenth.kind(98, 15, 1, 0, 0);
        restIs(sixteenth, 0, 1, 16);
        StoneHall whole = stone("", 5, 8, 0, 0, 2);
        whole.kind(98, 15, 1, 0, 0);
        restIs(whole, 0, 1, 1);
        bestIs(whole, 0, 1, 1, 2);
    }

    private static void cutIfThatIsMore() {
        Edge.says("Terms", "ADVICE: 1 SELL, 2 CUT (if that is more).");
        advised("shut 10;cost 0;", 20, 1);
        advised("shut 9;cost 0;", 20, 2);
        advised("shut 11;cost 0;", 22, 1);
        advised("shut 7;cost 3;", 14, 1);
        advised("shut 7;cost 2;", 16, 2);
        advised("shut 7;cost 4;", 14, 1);
        advised("cost 10;", 0, 1);
        advised("cost 9;", 2, 2);
        advised("cost 11;", 0, 1);
    }

    // two slices, surely of worth 10
    private static void advised(String customs, long best, long advice) {
        StoneHall x = stone(customs, 99, 2, 0, 10);
        x.kind(1, 16, 0, 0, 0);
        bestIs(x, 0, best, 1, advice);
    }

    private static void cutIfThatIsMoreByTheLeast() {
        Edge.says("Terms", "2 CUT (if that is more).");
        StoneHall more = stone("shut 10;", 5, 1, 0, 10, 11);
        more.kind(99, 16, 0, 0, 0);
        more.kind(1, 15, 1, 0, 0);
        bestIs(more, 0, 16001, 1600, 2);
        StoneHall alike = stone("shut 10;", 5, 1, 0, 10, 11);
        alike.kind(99, 16, 0, 0, 0);
        alike.kind(1, 16, 0, 0, 0);
        bestIs(alike, 0, 10, 1, 1);
        StoneHall less = stone("shut 10;", 5, 1, 0, 10, 9);
        less.kind(99, 16, 0, 0, 0);
        less.kind(1, 15, 1, 0, 0);
        bestIs(less, 0, 10, 1, 1);
    }

    private static void bestAtEachFace() {
        Edge.says("Terms", "if at each face it is done what is best: SELL (at once all), or CUT and so on;");
        // behind a 0 the last slice is sold for 30, behind a 20 it is cut
        StoneHall x = stone("offer 0 30;shut 19;", 99, 2, 1, 0, 20);
        x.kind(1, 8, 8, 0, 0);
        // a half of 0 + 30 and a half of 20 + 10
        bestIs(x, 0, 38, 1, 1);
        Check.customs(x, "offer 0 30;shut 14;");
        bestIs(x, 0, 30, 1, 2);
        x.cut(0);
        bestIs(x, 0, 10, 1, 2);
        Check.customs(x, "offer 0 30;offer 1 10;shut 14;");
        bestIs(x, 0, 10, 1, 1);
        Check.customs(x, "offer 0 30;offer 1 11;shut 14;");
        bestIs(x, 0, 11, 1, 1);
    }

    private static void bestOfTheLastSlice() {
        Edge.says("Terms", "It is spent, too, when its last slice is cut.");
        // behind the last slice nothing is left to be sold, however much is offered
        StoneHall x = stone("offer 0 999;offer 1 999;shut 3;", 99, 1, 0, 0, 4);
        x.kind(1, 8, 8, 0, 0);
        bestIs(x, 0, 3, 1, 1);
        Check.customs(x, "offer 0 999;offer 1 999;shut 1;");
        bestIs(x, 0, 2, 1, 2);
    }

    private static void bestIsNeverBelow0() {
        Edge.says("Terms", "BEST: the expected sum of WORTHS less costs from now on");
        StoneHall x = stone("cost 999;", 999, 8, 0, 0, 1);
        x.kind(1, 15, 1, 0, 0);
        bestIs(x, 0, 0, 1, 1);
        StoneHall tempting = stone("cost 999;offer 1 999;", 999, 8, 0, 0, 1);
        tempting.kind(1, 1, 15, 0, 0);
        // 15/16 of 1 + 7 * 999 - 999, and 1/16 of a stone behind a 0, which goes on likewise with one less
        HallModel model = new HallModel();
        model.grade(0);
        model.grade(1);
        model.man(999);
        model.boulder(0, 8, 0);
        model.kind(1, 1, 15, 0, 0);
        modelCustoms(model, "cost 999;offer 1 999;");
        bestIs(tempting, 0, model.best(0, 0), model.best(0, 1), 2);
    }

    private static void costIsNeverRefused() {
        Edge.says("Terms", "(A cost is never refused here.");
        StoneHall poor = stone("cost 9;", 8, 3, 0, 10);
        poor.kind(1, 16, 0, 0, 0);
        Edge.due("refused there", poor.cut(0), -1);
        bestIs(poor, 0, 3, 1, 2);
        StoneHall none = stone("cost 9;", 0, 3, 0, 10);
        none.kind(1, 16, 0, 0, 0);
        bestIs(none, 0, 3, 1, 2);
        StoneHall rich = stone("cost 9;", 9, 3, 0, 10);
        rich.kind(1, 16, 0, 0, 0);
        bestIs(rich, 0, 3, 1, 2);
        Edge.due("not refused", rich.cut(0), 0);
    }

    private static void byTheCustomsOfNow() {
        Edge.says("Promise 3", "are the CUSTOMS from now on");
        StoneHall x = stone("", 9, 3, 0, 10);
        x.kind(1, 16, 0, 0, 0);
        bestIs(x, 0, 30, 1, 2);
        Check.customs(x, "cost 4;");
        bestIs(x, 0, 18, 1, 2);
        Edge.due("with a FAULT", Check.customs(x, "cost 5"), -1);
        bestIs(x, 0, 18, 1, 2);
        Edge.due("refused", x.customs(1), -2);
        bestIs(x, 0, 18, 1, 2);
        x.customs(0);
        bestIs(x, 0, 30, 1, 2);
    }

    private static void greatestNumbers() {
        Edge.says("Terms", "Both as fractions in least terms.");
        String[] customs = {"", "cost 999;", "cost 1;", "shut 999;offer 0 999;offer 1 998;offer 2 997;offer 3 996;cost 1;",
            "cost 7;offer 0 990;offer 1 995;offer 2 999;offer 3 1;"};
        int[][] weights = {{13, 1, 1, 1}, {1, 1, 13, 1}, {3, 5, 1, 7}};
        int[] insides = {0, 0xffff, 0b00_01_10_11_00_01_10_11, 0b11_11_10_10_01_01_00_00, 0x5555};
        for (int i = 0; i < customs.length; i++) {
            greatest(customs[i], insides[i], weights);
        }
    }

    private static void greatest(String customs, int inside, int[][] weights) {
        StoneHall x = stone(customs, 999999, 8, inside, 999, 998, 997, 991);
        HallModel model = new HallModel();
        for (int worth : new int[] {999, 998, 997, 991}) {
            model.grade(worth);
        }
        model.man(999999);
        model.boulder(0, 8, inside);
        modelCustoms(model, customs);
        int prior = 99;
        for (int[] w : weights) {
            Edge.due("kind", x.kind(prior, w[0], w[1], w[2], w[3]), model.kind(prior, w[0], w[1], w[2], w[3]));
            prior -= 2;
        }
        for (int seen = 0; seen < 8; seen++) {
            restIs(x, 0, model.rest(0, 0), model.rest(0, 1));
            bestIs(x, 0, model.best(0, 0), model.best(0, 1), model.best(0, 2));
            for (int kind = 0; kind < 3; kind++) {
                likelyIs(x, 0, kind, model.likely(0, kind, 0), model.likely(0, kind, 1));
            }
            Edge.due("cut", x.cut(0), model.cut(0));
        }
    }

    private static void modelCustoms(HallModel model, String text) {
        StringBuilder padded = new StringBuilder(text);
        while (padded.length() % 20 != 0) {
            padded.append(' ');
        }
        for (int at = 0; at < padded.length(); at += 20) {
            int[] n = new int[5];
            for (int i = 0; i < 20; i++) {
                n[i / 4] = n[i / 4] << 8 | padded.charAt(at + i);
            }
            model.feed(n[0], n[1], n[2], n[3], n[4]);
        }
        Edge.due("the model reads " + text, model.customs(text.length()) >= 0, true);
    }
}
