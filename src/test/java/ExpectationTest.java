/** Promises 18 to 20: rest, best, likely, by worked examples. */
public final class ExpectationTest {
    public static void main(String[] args) {
        withoutKinds();
        wrongOnes();
        restByKinds();
        seenThatNoKindHas();
        likelyByWhatWasSeen();
        bestSellsWhenAlike();
        bestCountsTheRarest();
        bestLooksAhead();
        bestTakesTheGradeSeenLast();
        costsBeyondWorths();
        spentOnes();
        othersDoNotCount();
        greatestNumbers();
        Check.end();
    }

    private static StoneHall hall(String customs, int... worths) {
        StoneHall x = new StoneHall();
        for (int worth : worths) {
            x.grade(worth);
        }
        x.man(100000);
        Check.due("lines of " + customs, Check.customs(x, customs) >= 0, true);
        return x;
    }

    private static void restIs(StoneHall x, long upper, long lower) {
        Check.due("rest(0, 0)", x.rest(0, 0), upper);
        Check.due("rest(0, 1)", x.rest(0, 1), lower);
    }

    private static void bestIs(StoneHall x, long upper, long lower, long advice) {
        Check.due("best(0, 0)", x.best(0, 0), upper);
        Check.due("best(0, 1)", x.best(0, 1), lower);
        Check.due("best(0, 2)", x.best(0, 2), advice);
    }

    private static void likelyIs(StoneHall x, int kind, long upper, long lower) {
        Check.due("likely upper", x.likely(0, kind, 0), upper);
        Check.due("likely lower", x.likely(0, kind, 1), lower);
    }

    private static void noneFor(StoneHall x, int boulder) {
        for (int what = 0; what <= 2; what++) {
            Check.due("no rest", x.rest(boulder, what), -1);
            Check.due("no best", x.best(boulder, what), Check.NO_BEST);
            Check.due("not likely", x.likely(boulder, 0, what), -1);
        }
    }

    private static void withoutKinds() {
        StoneHall x = hall("shut 5;", 1, 2);
        x.boulder(0, 2, 0);
        noneFor(x, 0);
    }

    private static void wrongOnes() {
        StoneHall x = hall("", 1, 2);
        x.boulder(0, 2, 0);
        x.kind(1, 16, 0, 0, 0);
        noneFor(x, 1);
        noneFor(x, -1);
        noneFor(x, Integer.MIN_VALUE);
        Check.due("rest what 2", x.rest(0, 2), -1);
        Check.due("rest what -1", x.rest(0, -1), -1);
        Check.due("best what 3", x.best(0, 3), Check.NO_BEST);
        Check.due("best what -1", x.best(0, -1), Check.NO_BEST);
        Check.due("likely what 2", x.likely(0, 0, 2), -1);
        Check.due("likely what -1", x.likely(0, 0, -1), -1);
        Check.due("likely kind 1", x.likely(0, 1, 0), -1);
        Check.due("likely kind -1", x.likely(0, -1, 0), -1);
        likelyIs(x, 0, 1, 1);
    }

    private static void restByKinds() {
        StoneHall x = hall("", 10, 20);
        x.boulder(0, 3, 0);
        x.kind(1, 16, 0, 0, 0);
        restIs(x, 30, 1);
        x.kind(2, 0, 16, 0, 0);
        restIs(x, 50, 1);
        x.kind(4, 7, 9, 0, 0);
        // (1*10 + 2*20 + 4*(70+180)/16) / 7 * 3 = (50 + 62.5) * 3 / 7
        restIs(x, 675, 14);
        StoneHall y = hall("", 0);
        y.boulder(0, 3, 0);
        y.kind(5, 16, 0, 0, 0);
        restIs(y, 0, 1);
        bestIs(y, 0, 1, 1);
    }

    private static void seenThatNoKindHas() {
        StoneHall x = hall("", 10, 20);
        x.boulder(0, 3, 1);
        x.kind(1, 16, 0, 0, 0);
        restIs(x, 30, 1);
        x.cut(0);
        noneFor(x, 0);
        x.kind(1, 15, 1, 0, 0);
        likelyIs(x, 0, 0, 1);
        likelyIs(x, 1, 1, 1);
        restIs(x, 85, 4);
    }

    private static void likelyByWhatWasSeen() {
        StoneHall x = hall("", 10, 20);
        x.boulder(0, 4, 0b01_00_00);
        x.kind(1, 12, 4, 0, 0);
        x.kind(3, 4, 12, 0, 0);
        likelyIs(x, 0, 1, 4);
        likelyIs(x, 1, 3, 4);
        x.cut(0);
        likelyIs(x, 0, 1, 2);
        x.cut(0);
        likelyIs(x, 0, 3, 4);
        likelyIs(x, 1, 1, 4);
        x.cut(0);
        likelyIs(x, 0, 1, 2);
    }

    private static void bestSellsWhenAlike() {
        StoneHall x = hall("shut 8;cost 2;", 10);
        x.boulder(0, 2, 0);
        x.kind(1, 16, 0, 0, 0);
        bestIs(x, 16, 1, 1);
        Check.customs(x, "shut 7;cost 2;");
        bestIs(x, 16, 1, 2);
        Check.customs(x, "shut 9;cost 2;");
        bestIs(x, 18, 1, 1);
    }

    private static void bestCountsTheRarest() {
        StoneHall x = hall("", 0, 16);
        x.boulder(0, 1, 0);
        x.kind(1, 15, 1, 0, 0);
        restIs(x, 1, 1);
        bestIs(x, 1, 1, 2);
    }

    private static void bestLooksAhead() {
        StoneHall x = hall("cost 10;offer 1 50;", 0, 20);
        x.boulder(0, 2, 0);
        x.kind(1, 8, 8, 0, 0);
        // a slice is worth its cost just; but a good one lets the rest be sold for 50
        bestIs(x, 25, 1, 2);
        restIs(x, 20, 1);
        Check.customs(x, "cost 10;offer 1 50;shut 13;");
        bestIs(x, 26, 1, 1);
    }

    private static void bestTakesTheGradeSeenLast() {
        StoneHall x = hall("cost 20;offer 0 3;offer 1 5;shut 999;", 10, 20);
        x.boulder(0, 4, 0b01_00);
        x.kind(1, 8, 8, 0, 0);
        bestIs(x, 4 * 999, 1, 1);
        x.cut(0);
        bestIs(x, 9, 1, 1);
        x.cut(0);
        bestIs(x, 10, 1, 1);
    }

    private static void costsBeyondWorths() {
        StoneHall x = hall("cost 999;", 10, 20);
        x.boulder(0, 8, 0);
        x.kind(1, 8, 8, 0, 0);
        bestIs(x, 0, 1, 1);
        StoneHall poor = new StoneHall();
        poor.grade(999);
        poor.man(0);
        poor.boulder(0, 3, 0);
        poor.kind(1, 16, 0, 0, 0);
        Check.customs(poor, "cost 99;");
        Check.due("he can't pay", poor.cut(0), -1);
        bestIs(poor, 2700, 1, 2);
    }

    private static void spentOnes() {
        StoneHall x = hall("", 10);
        x.kind(1, 16, 0, 0, 0);
        x.boulder(0, 1, 0);
        x.boulder(0, 2, 0);
        restIs(x, 10, 1);
        x.cut(0);
        noneFor(x, 0);
        x.cut(1);
        Check.due("one is left", x.rest(1, 0), 10);
        x.sell(1);
        noneFor(x, 1);
    }

    private static void othersDoNotCount() {
        StoneHall x = hall("", 10, 20);
        x.kind(1, 12, 4, 0, 0);
        x.kind(1, 4, 12, 0, 0);
        x.boulder(0, 3, 0);
        x.boulder(0, 3, 0);
        x.cut(1);
        likelyIs(x, 0, 1, 2);
        Check.due("the other's", x.likely(1, 0, 0), 3);
    }

    private static void greatestNumbers() {
        StoneHall x = hall("cost 0;", 999, 998, 997, 996);
        x.kind(99, 13, 1, 1, 1);
        x.kind(99, 1, 13, 1, 1);
        x.kind(99, 1, 1, 13, 1);
        x.boulder(0, 8, 0);
        // without cost and offer it is best to cut all: best is rest, whatever was seen
        for (int seen = 0; seen < 8; seen++) {
            bestIs(x, x.rest(0, 0), x.rest(0, 1), 2);
            x.cut(0);
        }
    }
}
