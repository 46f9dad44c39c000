import java.util.function.Supplier;

/** Promises 13 and 14, and cutting and selling in "Terms": each sentence that names a boundary case. */
public final class EdgesOfCutsTest {
    private static final Supplier<StoneHall> BUSY = Scenes::busy;
    private static final Supplier<StoneHall> FULL = Scenes::full;

    public static void main(String[] args) {
        cutOfNoSuchBoulder();
        cutOfASpentOne();
        cutThatOneOwnerCannotPay();
        cutThatOneOfTwoCannotPay();
        cutThatOneOfEightCannotPay();
        costsByParts();
        worthComesBehindTheCost();
        worthIsGotByParts();
        worthIsNotOfTheHall();
        sellOfNoSuchBoulder();
        sellOfASpentOne();
        sellOfAShutOne();
        sellBehindAGrade();
        sellForNothing();
        sellByParts();
        spentByTheLastSlice();
        Check.end();
    }

    private static void pursesAre(StoneHall x, int... due) {
        for (int man = 0; man < due.length; man++) {
            Edge.due("purse of " + man, x.purse(man), due[man]);
        }
    }

    /** A hall where the men have these parts of the boulder, by their numbers. */
    private static StoneHall owners(String customs, int[] purses, int... parts) {
        StoneHall x = Scenes.with(customs, purses);
        for (int man = 1; man < parts.length; man++) {
            Edge.due("share for " + man, x.share(0, 0, man, parts[man]), true);
        }
        Edge.due("parts of the first", x.parts(0, 0), parts[0]);
        return x;
    }

    private static int[] purses(int... coins) {
        return coins;
    }

    private static void cutOfNoSuchBoulder() {
        Edge.says("Promise 13", "CUT: the GRADE that is seen; NONE: no such BOULDER");
        Edge.answers(BUSY, "boulder 0", x -> x.cut(0), 0);
        Edge.answers(BUSY, "boulder 1", x -> x.cut(1), 1);
        Edge.answers(FULL, "boulder 9", x -> x.cut(9), 0);
        Edge.refuses(BUSY, "boulder 4", x -> x.cut(4), -1);
        Edge.refuses(BUSY, "boulder -1", x -> x.cut(-1), -1);
        Edge.refuses(FULL, "boulder 10", x -> x.cut(10), -1);
        for (int far : Scenes.FAR) {
            Edge.refuses(BUSY, "boulder " + far, x -> x.cut(far), -1);
        }
    }

    private static void cutOfASpentOne() {
        Edge.says("Promise 13", "spent, or refused.");
        Edge.refuses(BUSY, "sold to the HALL", x -> x.cut(2), -1);
        Edge.refuses(BUSY, "cut to the end", x -> x.cut(3), -1);
        Supplier<StoneHall> eight = () -> {
            StoneHall x = Scenes.with("cost 1;", 20);
            x.boulder(0, 8, 0b01_01_01_01_01_01_01_01);
            for (int slice = 0; slice < 8; slice++) {
                Edge.due("slice " + slice, x.cut(1), 1);
            }
            return x;
        };
        Edge.refuses(eight, "a ninth slice", x -> x.cut(1), -1);
    }

    private static void cutThatOneOwnerCannotPay() {
        Edge.says("Terms", "the owners pay cost to the HALL, if each one's PURSE has what he has to pay (else it is refused)");
        StoneHall just = owners("cost 10;", purses(10), 16);
        Edge.due("10 of 10", just.cut(0), 0);
        pursesAre(just, 10);
        Edge.due("the HALL", just.count(4), 10);
        Edge.refuses(() -> owners("cost 10;", purses(9), 16), "9 of 10", x -> x.cut(0), -1);
        Edge.refuses(() -> owners("cost 999;", purses(998), 16), "998 of 999", x -> x.cut(0), -1);
        Edge.answers(() -> owners("cost 999;", purses(999), 16), "999 of 999", x -> x.cut(0), 0);
        Edge.refuses(() -> owners("cost 1;", purses(0), 16), "0 of 1", x -> x.cut(0), -1);
        Edge.answers(() -> owners("cost 0;", purses(0), 16), "0 of 0", x -> x.cut(0), 0);
        StoneHall refused = owners("cost 10;", purses(9), 16);
        Edge.due("refused", refused.cut(0), -1);
        Check.customs(refused, "cost 9;");
        Edge.due("the same slice later", refused.cut(0), 0);
        Edge.due("the first one seen", refused.look(0, 1), 1);
    }

    private static void cutThatOneOfTwoCannotPay() {
        Edge.says("Terms", "if each one's PURSE has what he has to pay (else it is refused)");
        // of 11 by 8 and 8 parts the first pays 6, the second 5
        StoneHall just = owners("cost 11;", purses(6, 5), 8, 8);
        Edge.due("6 and 5", just.cut(0), 0);
        pursesAre(just, 5, 5);
        Edge.refuses(() -> owners("cost 11;", purses(5, 99), 8, 8), "5 and 99", x -> x.cut(0), -1);
        Edge.refuses(() -> owners("cost 11;", purses(99, 4), 8, 8), "99 and 4", x -> x.cut(0), -1);
        // of 1 by 1 and 15 parts the first pays it
        Edge.answers(() -> owners("cost 1;", purses(1, 0), 1, 15), "1 and 0", x -> x.cut(0), 0);
        Edge.refuses(() -> owners("cost 1;", purses(0, 99), 1, 15), "0 and 99", x -> x.cut(0), -1);
        // of 16 by 15 and 1 parts the second pays 1, of 15 none
        Edge.answers(() -> owners("cost 16;", purses(15, 1), 15, 1), "15 and 1", x -> x.cut(0), 0);
        Edge.refuses(() -> owners("cost 16;", purses(99, 0), 15, 1), "99 and 0", x -> x.cut(0), -1);
        Edge.answers(() -> owners("cost 15;", purses(15, 0), 15, 1), "15 and 0", x -> x.cut(0), 0);
        Edge.answers(() -> owners("cost 10;", purses(10, 0), 16), "one without PARTS pays nothing", x -> x.cut(0), 0);
    }

    private static void cutThatOneOfEightCannotPay() {
        Edge.says("Terms", "What they pay likewise.");
        // 2 parts of 999 are 124 and 7 are left: all but the last pay 125
        int[] just = {125, 125, 125, 125, 125, 125, 125, 124};
        StoneHall x = owners("cost 999;", just, 2, 2, 2, 2, 2, 2, 2, 2);
        Edge.due("just enough", x.cut(0), 0);
        // 2 parts of the worth 10 are 1, and 2 are left
        pursesAre(x, 2, 2, 1, 1, 1, 1, 1, 1);
        for (int man = 0; man < 8; man++) {
            int[] short1 = just.clone();
            short1[man]--;
            Edge.refuses(() -> owners("cost 999;", short1, 2, 2, 2, 2, 2, 2, 2, 2), "one coin short: " + man, h -> h.cut(0), -1);
        }
    }

    private static void costsByParts() {
        Edge.says("Terms", "What they pay likewise.");
        StoneHall x = owners("cost 7;", purses(50, 50, 50), 1, 5, 10);
        x.cut(0);
        // 7 by 1, 5 and 10 parts: 0, 2, 4 and 1 of the first; 10: 0, 3, 6 and 1 for the first
        pursesAre(x, 50, 51, 52);
        Edge.due("the HALL", x.count(4), 7);
        StoneHall one = owners("cost 1;", purses(50, 50, 50), 5, 5, 6);
        one.cut(0);
        // 10 by 5, 5 and 6 parts: 3, 3, 3 and 1 for the first, who has paid 1
        pursesAre(one, 53, 53, 53);
    }

    private static void worthComesBehindTheCost() {
        Edge.says("Terms", "CUT: the next slice is seen: the owners pay cost to the HALL");
        Supplier<StoneHall> poor = () -> {
            StoneHall x = Scenes.with("cost 5;", 4);
            x.grade(999);
            x.boulder(0, 2, 0b10_10);
            return x;
        };
        Edge.refuses(poor, "a WORTH of 999 does not pay its own cost of 5", x -> x.cut(1), -1);
        StoneHall x = Scenes.with("cost 5;", 5);
        Edge.due("the first", x.cut(0), 0);
        Edge.due("the next is paid by the first one's WORTH", x.cut(0), 0);
        pursesAre(x, 15);
    }

    private static void worthIsGotByParts() {
        Edge.says("Terms", "(else it is refused), and get its WORTH.");
        StoneHall x = owners("", purses(0, 0), 15, 1);
        x.cut(0);
        // 10 by 15 and 1 parts: 9 and 0, and 1 is left
        pursesAre(x, 10, 0);
        x.share(0, 0, 1, 11);
        x.cut(0);
        // the parts of now: 10 by 4 and 12 are 2 and 7, and 1 is left
        pursesAre(x, 13, 7);
        x.share(0, 0, 1, 4);
        x.cut(0);
        pursesAre(x, 13, 17);
    }

    private static void worthIsNotOfTheHall() {
        Edge.says("Terms", "SELL: the rest is sold to the HALL:");
        StoneHall x = owners("shut 3;offer 0 7;", purses(0, 0), 8, 8);
        x.cut(0);
        Edge.due("a WORTH is not paid by the HALL", x.count(4), 0);
        Edge.due("three left", x.sell(0), 21);
        Edge.due("paid by the HALL", x.count(4), -21);
        pursesAre(x, 16, 15);
        Edge.due("the PARTS stay", x.parts(0, 1), 8);
    }

    private static void sellOfNoSuchBoulder() {
        Edge.says("Promise 14", "SELL: how many coins; NONE: no such BOULDER");
        Edge.answers(BUSY, "boulder 0, shut", x -> x.sell(0), 36);
        Edge.answers(BUSY, "boulder 1, behind grade 1", x -> x.sell(1), 24);
        Edge.answers(FULL, "boulder 9, shut", x -> x.sell(9), 72);
        Edge.refuses(BUSY, "boulder 4", x -> x.sell(4), -1);
        Edge.refuses(BUSY, "boulder -1", x -> x.sell(-1), -1);
        Edge.refuses(FULL, "boulder 10", x -> x.sell(10), -1);
        for (int far : Scenes.FAR) {
            Edge.refuses(BUSY, "boulder " + far, x -> x.sell(far), -1);
        }
    }

    private static void sellOfASpentOne() {
        Edge.says("Promise 14", "or spent.");
        Edge.refuses(BUSY, "sold to the HALL", x -> x.sell(2), -1);
        Edge.refuses(BUSY, "cut to the end", x -> x.sell(3), -1);
    }

    private static void sellOfAShutOne() {
        Edge.says("Terms", "for each slice that is left what offer says for the GRADE seen last, shut if none was;");
        for (int slices = 1; slices <= 8; slices++) {
            StoneHall x = Scenes.with("shut 999;offer 0 1;", 0);
            x.boulder(0, slices, 0);
            Edge.due(slices + " slices", x.sell(1), 999 * slices);
            pursesAre(x, 999 * slices);
            Edge.due("the HALL", x.count(4), -999 * slices);
            Edge.due("none was seen", x.look(1, 1), 0);
        }
    }

    private static void sellBehindAGrade() {
        Edge.says("Terms", "for each slice that is left what offer says for the GRADE seen last, shut if none was;");
        String customs = "shut 50;offer 0 5;offer 1 7;offer 2 11;offer 3 13;";
        int[] offers = {5, 7, 11, 13};
        for (int last = 0; last < 4; last++) {
            for (int seen = 1; seen < 8; seen++) {
                StoneHall x = Scenes.with(customs, 0);
                x.grade(0);
                x.grade(0);
                // the slices seen are of another grade but for the last one
                int other = last == 0 ? 0x5555 : 0;
                int at = 2 * (seen - 1);
                x.boulder(0, 8, other & ~(3 << at) | last << at);
                for (int slice = 0; slice < seen; slice++) {
                    x.cut(1);
                }
                Edge.due("behind grade " + last + " with " + seen + " seen", x.sell(1), offers[last] * (8 - seen));
            }
        }
    }

    private static void sellForNothing() {
        Edge.says("Terms", "the BOULDER is spent.");
        StoneHall x = Scenes.with("", 5);
        Edge.due("no shut", x.sell(0), 0);
        Edge.due("spent", x.look(0, 2), 1);
        Edge.due("no more", x.sell(0), -1);
        pursesAre(x, 5);
        StoneHall y = Scenes.with("shut 9;offer 1 9;", 5);
        y.cut(0);
        Edge.due("not spent yet", y.look(0, 2), 0);
        Edge.due("no offer for grade 0", y.sell(0), 0);
        Edge.due("spent", y.look(0, 2), 1);
        Edge.due("slices stay", y.look(0, 0), 4);
        Edge.due("seen stay", y.look(0, 1), 1);
    }

    private static void sellByParts() {
        Edge.says("Terms", "What owners get: each PARTS times it by 16, cut; of the coins left one each those with PARTS, by numbers.");
        StoneHall x = owners("shut 1;", purses(0, 0, 0), 5, 5, 6);
        Edge.due("4 coins", x.sell(0), 4);
        // 4 by 5, 5 and 6 parts: 1 each, and 1 is left
        pursesAre(x, 2, 1, 1);
        StoneHall y = owners("shut 999;", purses(0, 0), 1, 15);
        Edge.due("3996 coins", y.sell(0), 3996);
        // 249.75 and 3746.25
        pursesAre(y, 250, 3746);
        Edge.due("parts of a spent one stay", y.parts(0, 1), 15);
    }

    private static void spentByTheLastSlice() {
        Edge.says("Terms", "It is spent, too, when its last slice is cut.");
        for (int slices = 1; slices <= 8; slices++) {
            StoneHall x = Scenes.with("", 0, 5);
            x.boulder(0, slices, 0);
            for (int seen = 1; seen <= slices; seen++) {
                Edge.due("not spent with " + seen + " of " + slices + " to be cut", x.look(1, 2), 0);
                Edge.due("cut", x.cut(1), 0);
            }
            Edge.due("spent with all " + slices, x.look(1, 2), 1);
            Edge.due("no more to cut", x.cut(1), -1);
            Edge.due("no more to sell", x.sell(1), -1);
            Edge.due("no more to bid for", x.bid(1, 1, 5), -1);
            Edge.due("no more to open", x.open(1), -2);
            Edge.due("no more to share", x.share(1, 0, 1, 1), false);
        }
        StoneHall refused = Scenes.with("cost 6;", 5);
        refused.boulder(0, 1, 0);
        Edge.due("the last one, refused", refused.cut(1), -1);
        Edge.due("not spent", refused.look(1, 2), 0);
    }
}
