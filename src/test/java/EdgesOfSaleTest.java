import java.util.function.Supplier;

/** Promises 10 to 12 and the sale in "Terms": each sentence that names a boundary case. */
public final class EdgesOfSaleTest {
    private static final Supplier<StoneHall> BUSY = Scenes::busy;
    private static final Supplier<StoneHall> FULL = Scenes::full;

    public static void main(String[] args) {
        bidOfNoSuchOnes();
        bidOnASpentOne();
        bidFrom1To99999();
        bidOfOneWhoHasParts();
        howManyBids();
        openOfNoSuchBoulder();
        openOfASpentOne();
        saleAheadOfAny();
        saleOfAnotherWhat();
        saleOfTheLatest();
        greaterFirstOfLikeOnesTheEarlier();
        latestOneCounts();
        outBelowReserve();
        outByParts();
        outByDeposit();
        depositIsCut();
        noneIsLeft();
        firstTwoAlike();
        firstPrice();
        secondPrice();
        reserveIfNoneIsLeft();
        purseBelowThePrice();
        defaultNext();
        defaultNone();
        taxIsCut();
        allSixteenParts();
        bidsAreGone();
        ownersGetInParts();
        coinsLeftByNumbers();
        Check.end();
    }

    private static void saleIs(StoneHall x, int price, int defaulted, int tax, int out) {
        Edge.due("price", x.sale(0), price);
        Edge.due("defaulted", x.sale(1), defaulted);
        Edge.due("tax", x.sale(2), tax);
        Edge.due("out", x.sale(3), out);
    }

    private static void pursesAre(StoneHall x, int... due) {
        for (int man = 0; man < due.length; man++) {
            Edge.due("purse of " + man, x.purse(man), due[man]);
        }
    }

    /** A hall whose first man has the boulder, and bids on it by the men behind him, told in their order. */
    private static StoneHall bids(String customs, int[] purses, int... coins) {
        StoneHall x = Scenes.with(customs, purses);
        for (int i = 0; i < coins.length; i++) {
            Edge.due("bid of " + (i + 1), x.bid(i + 1, 0, coins[i]), i + 1);
        }
        return x;
    }

    private static int[] purses(int... coins) {
        return coins;
    }

    private static void bidOfNoSuchOnes() {
        Edge.says("Promise 10", "A BID: how many there are on the BOULDER; NONE: no such ones");
        Edge.answers(BUSY, "the first man, on another's", x -> x.bid(0, x.boulder(1, 1, 0), 5), 1);
        Edge.answers(BUSY, "the last man", x -> x.bid(3, 0, 5), 3);
        Edge.answers(FULL, "the last man of eight", x -> x.bid(7, 0, 5), 4);
        Edge.answers(FULL, "the last boulder of ten", x -> x.bid(0, 9, 5), 1);
        Edge.refuses(BUSY, "man 4", x -> x.bid(4, 0, 5), -1);
        Edge.refuses(BUSY, "man -1", x -> x.bid(-1, 0, 5), -1);
        Edge.refuses(FULL, "man 8", x -> x.bid(8, 0, 5), -1);
        Edge.refuses(BUSY, "boulder 4", x -> x.bid(2, 4, 5), -1);
        Edge.refuses(BUSY, "boulder -1", x -> x.bid(2, -1, 5), -1);
        Edge.refuses(FULL, "boulder 10", x -> x.bid(2, 10, 5), -1);
        for (int far : Scenes.FAR) {
            Edge.refuses(BUSY, "man " + far, x -> x.bid(far, 0, 5), -1);
            Edge.refuses(BUSY, "boulder " + far, x -> x.bid(2, far, 5), -1);
        }
    }

    private static void bidOnASpentOne() {
        Edge.says("Promise 10", "spent, no such bid, or he has PARTS.");
        Edge.refuses(BUSY, "sold to the HALL", x -> x.bid(1, 2, 5), -1);
        Edge.refuses(BUSY, "cut to the end", x -> x.bid(1, 3, 5), -1);
        Edge.says("Terms", "BIDS on a BOULDER that is not spent");
        StoneHall x = Scenes.with("", 0, 50);
        x.cut(0);
        x.cut(0);
        x.cut(0);
        Edge.due("with one slice left", x.bid(1, 0, 5), 1);
        x.cut(0);
        Edge.due("with none left", x.bid(1, 0, 5), -1);
    }

    private static void bidFrom1To99999() {
        Edge.says("Terms", "(1 .. 99999 each");
        Edge.answers(BUSY, "1", x -> x.bid(1, 0, 1), 3);
        Edge.answers(BUSY, "99999", x -> x.bid(1, 0, 99999), 3);
        Edge.refuses(BUSY, "0", x -> x.bid(1, 0, 0), -1);
        Edge.refuses(BUSY, "-1", x -> x.bid(1, 0, -1), -1);
        Edge.refuses(BUSY, "100000", x -> x.bid(1, 0, 100000), -1);
        Edge.refuses(BUSY, "0 of the third", x -> x.bid(2, 0, 0), -1);
        Edge.refuses(BUSY, "MIN", x -> x.bid(1, 0, Integer.MIN_VALUE), -1);
        Edge.refuses(BUSY, "MAX", x -> x.bid(1, 0, Integer.MAX_VALUE), -1);
        Edge.refuses(FULL, "0 of one without a bid", x -> x.bid(0, 9, 0), -1);
        Edge.refuses(FULL, "100000 of one without a bid", x -> x.bid(0, 9, 100000), -1);
    }

    private static void bidOfOneWhoHasParts() {
        Edge.says("Terms", "an owner of PARTS may not bid)");
        Edge.refuses(BUSY, "one with all PARTS", x -> x.bid(0, 0, 5), -1);
        Edge.refuses(BUSY, "one with 5 PARTS", x -> x.bid(0, 1, 5), -1);
        StoneHall x = Scenes.with("", 0, 50);
        Edge.due("with no PART", x.bid(1, 0, 5), 1);
        x.share(0, 0, 1, 1);
        Edge.due("with one PART", x.bid(1, 0, 5), -1);
        x.share(0, 1, 0, 1);
        Edge.due("with no PART again", x.bid(1, 0, 5), 1);
        x.share(0, 0, 1, 15);
        Edge.due("the other with one PART left", x.bid(0, 0, 5), -1);
        x.share(0, 0, 1, 1);
        Edge.due("the other with none left", x.bid(0, 0, 5), 2);
    }

    private static void howManyBids() {
        Edge.says("Promise 10", "A BID: how many there are on the BOULDER");
        StoneHall x = Scenes.with("", 1, 2, 3, 4, 5, 6, 7, 80);
        for (int man = 1; man < 8; man++) {
            Edge.due("bid of " + man, x.bid(man, 0, man), man);
        }
        Edge.due("another one of the first", x.bid(1, 0, 9), 7);
        Edge.due("another one of the last", x.bid(7, 0, 9), 7);
        Edge.due("all are told", x.look(0, 3), 7);
        x.share(0, 0, 1, 16);
        Edge.due("the eighth, from the owner before", x.bid(0, 0, 1), 8);
        Edge.due("all eight", x.look(0, 3), 8);
        Edge.due("the sale", x.open(0), 7);
        saleIs(x, 9, 0, 0, 1);
    }

    private static void openOfNoSuchBoulder() {
        Edge.says("Promise 11", "The SALE: who WINS; NONE: nothing is sold; -2: no such BOULDER");
        Edge.answers(BUSY, "boulder 0", x -> x.open(0), 1);
        Edge.answers(FULL, "boulder 9", x -> x.open(9), -1);
        Edge.refuses(BUSY, "boulder 4", x -> x.open(4), -2);
        Edge.refuses(BUSY, "boulder -1", x -> x.open(-1), -2);
        Edge.refuses(FULL, "boulder 10", x -> x.open(10), -2);
        for (int far : Scenes.FAR) {
            Edge.refuses(BUSY, "boulder " + far, x -> x.open(far), -2);
        }
        Edge.refuses(() -> Scenes.with("", 5), "ahead of any", x -> x.open(1), -2);
    }

    private static void openOfASpentOne() {
        Edge.says("Promise 11", "or it is spent.");
        Edge.refuses(BUSY, "sold to the HALL", x -> x.open(2), -2);
        Edge.refuses(BUSY, "cut to the end", x -> x.open(3), -2);
        Supplier<StoneHall> withBids = () -> {
            StoneHall x = bids("", purses(0, 50), 20);
            x.sell(0);
            return x;
        };
        Edge.refuses(withBids, "with a bid on it", x -> x.open(0), -2);
        StoneHall x = bids("", purses(0, 50), 20);
        x.cut(0);
        x.cut(0);
        x.cut(0);
        Edge.due("with one slice left", x.open(0), 1);
        x.cut(0);
        Edge.due("with none left", x.open(0), -2);
    }

    private static void saleAheadOfAny() {
        Edge.says("Promise 12", "NONE ahead of any");
        StoneHall x = Scenes.with("", 0);
        saleIs(x, -1, -1, -1, -1);
        x.open(1);
        saleIs(x, -1, -1, -1, -1);
        Edge.due("of no bids", x.open(0), -1);
        saleIs(x, 0, 0, 0, 0);
    }

    private static void saleOfAnotherWhat() {
        Edge.says("Promise 12", "and for another what.");
        Edge.refuses(BUSY, "sale(4)", x -> x.sale(4), -1);
        Edge.refuses(BUSY, "sale(-1)", x -> x.sale(-1), -1);
        for (int far : Scenes.FAR) {
            Edge.refuses(BUSY, "sale(" + far + ")", x -> x.sale(far), -1);
        }
        Edge.refuses(StoneHall::new, "sale(4) ahead of any", x -> x.sale(4), -1);
    }

    private static void saleOfTheLatest() {
        Edge.says("Promise 12", "Of the latest open() that was not -2, what 0: the PRICE (0 if nothing was sold), 1: how many DEFAULTED, 2: the tax, 3: bids that were out.");
        StoneHall x = bids("reserve 20;tax 10;default next;", purses(0, 90, 45, 90), 100, 50, 19);
        Edge.due("nothing is sold", x.open(0), -1);
        saleIs(x, 0, 2, 0, 1);
        x.bid(3, 0, 30);
        Edge.due("it is sold", x.open(0), 3);
        saleIs(x, 30, 0, 3, 0);
        Edge.due("-2", x.open(1), -2);
        saleIs(x, 30, 0, 3, 0);
        x.bid(1, 0, 19);
        Edge.due("nothing is sold", x.open(0), -1);
        saleIs(x, 0, 0, 0, 1);
    }

    private static void greaterFirstOfLikeOnesTheEarlier() {
        Edge.says("Terms", "are opened at once, the greater first, of like ones the earlier.");
        Edge.due("greater by one", bids("", purses(0, 99, 99, 99), 50, 51, 50).open(0), 2);
        Edge.due("all alike", bids("", purses(0, 99, 99, 99), 50, 50, 50).open(0), 1);
        Edge.due("the last two alike", bids("", purses(0, 99, 99, 99), 49, 50, 50).open(0), 2);
        StoneHall x = Scenes.with("", 0, 99, 99, 99);
        x.bid(3, 0, 50);
        x.bid(2, 0, 50);
        x.bid(1, 0, 50);
        Edge.due("the earlier, not the lower number", x.open(0), 3);
        StoneHall rising = bids("default next;", purses(0, 9, 20, 9, 9), 10, 20, 30, 40);
        Edge.due("told from the least to the greatest: the third of them can pay", rising.open(0), 2);
        saleIs(rising, 20, 2, 0, 0);
        StoneHall mixed = bids("default next;", purses(0, 9, 9, 30, 9, 9), 50, 10, 30, 40, 30);
        Edge.due("told this way and that: the third of them can pay", mixed.open(0), 3);
        saleIs(mixed, 30, 2, 0, 0);
        StoneHall most = bids("", purses(0, 99999, 99999), 99998, 99999);
        Edge.due("the greatest that there may be", most.open(0), 2);
    }

    private static void latestOneCounts() {
        Edge.says("Terms", "a man's latest one counts, as of when it was told first;");
        StoneHall raised = bids("", purses(0, 99, 99), 20, 50);
        Edge.due("raised to a like one", raised.bid(1, 0, 50), 2);
        Edge.due("the one who told first", raised.open(0), 1);
        StoneHall lowered = bids("", purses(0, 99, 99), 51, 50);
        lowered.bid(1, 0, 49);
        Edge.due("lowered below the other", lowered.open(0), 2);
        StoneHall refused = bids("", purses(0, 99, 99), 51, 50);
        Edge.due("no such bid", refused.bid(1, 0, 0), -1);
        Edge.due("the one before counts", refused.open(0), 1);
        StoneHall anew = bids("", purses(0, 99, 99), 20, 10);
        anew.open(0);
        anew.cut(0);
        anew.bid(2, 0, 30);
        anew.bid(0, 0, 10);
        anew.bid(0, 0, 30);
        Edge.due("first told since the SALE before", anew.open(0), 2);
    }

    private static void outBelowReserve() {
        Edge.says("Terms", "Out are bids below reserve");
        StoneHall below = bids("reserve 50;", purses(0, 99), 49);
        Edge.due("49", below.open(0), -1);
        saleIs(below, 0, 0, 0, 1);
        StoneHall just = bids("reserve 50;", purses(0, 99), 50);
        Edge.due("50", just.open(0), 1);
        saleIs(just, 50, 0, 0, 0);
        StoneHall least = bids("reserve 1;", purses(0, 99), 1);
        Edge.due("1 by reserve 1", least.open(0), 1);
        StoneHall latest = bids("reserve 50;", purses(0, 99), 90);
        latest.bid(1, 0, 49);
        Edge.due("90 and then 49", latest.open(0), -1);
    }

    private static void outByParts() {
        Edge.says("Terms", "of men who have PARTS by now");
        StoneHall one = bids("", purses(0, 99, 99), 60, 50);
        one.share(0, 0, 1, 1);
        Edge.due("one PART", one.open(0), 2);
        saleIs(one, 50, 0, 0, 1);
        StoneHall none = bids("", purses(0, 99, 99), 60, 50);
        none.share(0, 0, 1, 1);
        none.share(0, 1, 0, 1);
        Edge.due("a PART no more", none.open(0), 1);
        saleIs(none, 60, 0, 0, 0);
        StoneHall twice = bids("reserve 70;deposit 100;", purses(0, 9), 60);
        twice.share(0, 0, 1, 16);
        Edge.due("out for three reasons", twice.open(0), -1);
        saleIs(twice, 0, 0, 0, 1);
    }

    private static void outByDeposit() {
        Edge.says("Terms", "and of men whose PURSE is below the deposit");
        StoneHall below = bids("deposit 50;", purses(0, 29), 60);
        Edge.due("29 of 30", below.open(0), -1);
        saleIs(below, 0, 0, 0, 1);
        pursesAre(below, 0, 29);
        StoneHall just = bids("deposit 50;", purses(0, 30), 60);
        Edge.due("30 of 30", just.open(0), -1);
        saleIs(just, 0, 1, 0, 0);
        pursesAre(just, 30, 0);
        StoneHall all = bids("deposit 100;", purses(0, 60), 60);
        Edge.due("60 of 60", all.open(0), 1);
        StoneHall no = bids("deposit 100;", purses(0, 59), 60);
        Edge.due("59 of 60", no.open(0), -1);
        saleIs(no, 0, 0, 0, 1);
        StoneHall nothing = bids("deposit 0;", purses(0, 0), 99999);
        Edge.due("0 of 0", nothing.open(0), -1);
        saleIs(nothing, 0, 1, 0, 0);
        StoneHall most = bids("deposit 100;", purses(0, 99999), 99999);
        Edge.due("99999 of 99999", most.open(0), 1);
    }

    private static void depositIsCut() {
        Edge.says("Terms", "(deposit in a hundred of the bid, cut).");
        StoneHall under = bids("deposit 1;", purses(0, 0), 99);
        Edge.due("1 in a hundred of 99 is 0", under.open(0), -1);
        saleIs(under, 0, 1, 0, 0);
        StoneHall over = bids("deposit 1;", purses(0, 0), 100);
        Edge.due("1 in a hundred of 100 is 1", over.open(0), -1);
        saleIs(over, 0, 0, 0, 1);
        StoneHall in = bids("deposit 33;", purses(0, 1), 6);
        Edge.due("33 in a hundred of 6 is 1", in.open(0), -1);
        saleIs(in, 0, 1, 0, 0);
        pursesAre(in, 1, 0);
        StoneHall great = bids("deposit 99;", purses(0, 98999), 99999);
        Edge.due("99 in a hundred of 99999 is 98999, though he has it", great.open(0), -1);
        saleIs(great, 0, 1, 0, 0);
        pursesAre(great, 98999, 0);
    }

    private static void noneIsLeft() {
        Edge.says("Terms", "If none is left");
        StoneHall empty = Scenes.with("", 0, 50);
        Edge.due("no bids", empty.open(0), -1);
        saleIs(empty, 0, 0, 0, 0);
        StoneHall out = bids("reserve 30;", purses(0, 50, 50), 29, 1);
        Edge.due("all are out", out.open(0), -1);
        saleIs(out, 0, 0, 0, 2);
        pursesAre(out, 0, 50, 50);
        Edge.due("the owner has all", out.parts(0, 0), 16);
        StoneHall second = Scenes.with("price second;reserve 30;", 0, 50);
        Edge.due("no bids, by second", second.open(0), -1);
        saleIs(second, 0, 0, 0, 0);
    }

    private static void firstTwoAlike() {
        Edge.says("Terms", "or the first two are alike and tie says none: nothing is sold.");
        StoneHall alike = bids("tie none;", purses(0, 99, 99), 50, 50);
        Edge.due("alike", alike.open(0), -1);
        saleIs(alike, 0, 0, 0, 0);
        pursesAre(alike, 0, 99, 99);
        Edge.due("one more", bids("tie none;", purses(0, 99, 99), 50, 51).open(0), 2);
        Edge.due("one less", bids("tie none;", purses(0, 99, 99), 50, 49).open(0), 1);
        Edge.due("the second and third", bids("tie none;", purses(0, 99, 99, 99), 51, 50, 50).open(0), 1);
        Edge.due("one alone", bids("tie none;", purses(0, 99), 50).open(0), 1);
        StoneHall again = bids("tie none;", purses(0, 99, 99, 99), 60, 50);
        again.open(0);
        again.bid(3, 0, 50);
        Edge.due("one alone, alike with a bid of the SALE before", again.open(0), 3);
        StoneHall behind = bids("tie none;default next;", purses(0, 9, 99, 99), 70, 60, 50);
        behind.open(0);
        behind.boulder(0, 1, 0);
        behind.bid(1, 1, 70);
        behind.bid(3, 1, 50);
        Edge.due("one alone behind a default", behind.open(1), 3);
        Edge.due("tie first", bids("tie first;", purses(0, 99, 99), 50, 50).open(0), 1);
        StoneHall out = bids("tie none;deposit 100;", purses(0, 49, 99), 50, 50);
        Edge.due("one of the two is out", out.open(0), 2);
        saleIs(out, 50, 0, 0, 1);
        StoneHall poor = bids("tie none;default next;deposit 10;", purses(0, 49, 49), 50, 50);
        Edge.due("alike, though both would default", poor.open(0), -1);
        saleIs(poor, 0, 0, 0, 0);
    }

    private static void firstPrice() {
        Edge.says("Terms", "Else the first one WINS at the PRICE: its bid;");
        StoneHall least = bids("", purses(0, 1), 1);
        Edge.due("1", least.open(0), 1);
        saleIs(least, 1, 0, 0, 0);
        pursesAre(least, 1, 0);
        StoneHall most = bids("", purses(999999, 999999), 99999);
        Edge.due("99999", most.open(0), 1);
        saleIs(most, 99999, 0, 0, 0);
        pursesAre(most, 1099998, 900000);
        StoneHall reserve = bids("reserve 10;", purses(0, 50), 30);
        Edge.due("its bid, not reserve", reserve.open(0), 1);
        saleIs(reserve, 30, 0, 0, 0);
    }

    private static void secondPrice() {
        Edge.says("Terms", "by second: the next one's that is left, but reserve at least");
        StoneHall next = bids("price second;", purses(0, 99, 99, 99), 30, 80, 50);
        Edge.due("the greatest", next.open(0), 2);
        saleIs(next, 50, 0, 0, 0);
        StoneHall out = bids("price second;deposit 100;", purses(0, 99, 99, 49), 30, 80, 50);
        Edge.due("the next one is out", out.open(0), 2);
        saleIs(out, 30, 0, 0, 1);
        StoneHall alike = bids("price second;", purses(0, 99, 99), 80, 80);
        Edge.due("alike", alike.open(0), 1);
        saleIs(alike, 80, 0, 0, 0);
        StoneHall just = bids("price second;reserve 50;", purses(0, 99, 99), 50, 80);
        Edge.due("next just at reserve", just.open(0), 2);
        saleIs(just, 50, 0, 0, 0);
        StoneHall above = bids("price second;reserve 50;", purses(0, 99, 99), 51, 80);
        Edge.due("next above reserve", above.open(0), 2);
        saleIs(above, 51, 0, 0, 0);
        StoneHall least = bids("price second;", purses(0, 99, 99), 1, 80);
        Edge.due("next 1", least.open(0), 2);
        saleIs(least, 1, 0, 0, 0);
    }

    private static void reserveIfNoneIsLeft() {
        Edge.says("Terms", "or reserve if none is left (1 at least).");
        StoneHall two = bids("price second;reserve 2;", purses(0, 99), 80);
        Edge.due("reserve 2", two.open(0), 1);
        saleIs(two, 2, 0, 0, 0);
        StoneHall one = bids("price second;reserve 1;", purses(0, 99), 80);
        Edge.due("reserve 1", one.open(0), 1);
        saleIs(one, 1, 0, 0, 0);
        StoneHall zero = bids("price second;reserve 0;", purses(0, 99), 80);
        Edge.due("reserve 0", zero.open(0), 1);
        saleIs(zero, 1, 0, 0, 0);
        pursesAre(zero, 1, 98);
        StoneHall again = bids("price second;", purses(0, 99, 99, 99), 60, 50);
        again.open(0);
        again.bid(3, 0, 80);
        Edge.due("none left, though there was one in the SALE before", again.open(0), 3);
        saleIs(again, 1, 0, 0, 0);
        StoneHall unsaid = bids("price second;", purses(0, 1), 99999);
        Edge.due("no reserve", unsaid.open(0), 1);
        saleIs(unsaid, 1, 0, 0, 0);
        pursesAre(unsaid, 1, 0);
        StoneHall below = bids("price second;reserve 50;", purses(0, 99, 99), 49, 80);
        Edge.due("next below reserve", below.open(0), 2);
        saleIs(below, 50, 0, 0, 1);
        StoneHall most = bids("price second;reserve 99999;", purses(0, 99999), 99999);
        Edge.due("reserve 99999", most.open(0), 1);
        saleIs(most, 99999, 0, 0, 0);
    }

    private static void purseBelowThePrice() {
        Edge.says("Terms", "If the PURSE is below the PRICE, he DEFAULTS: his deposit is paid to the owners");
        StoneHall just = bids("deposit 10;", purses(0, 60), 60);
        Edge.due("60 of 60", just.open(0), 1);
        saleIs(just, 60, 0, 0, 0);
        pursesAre(just, 60, 0);
        StoneHall below = bids("deposit 10;tax 50;", purses(0, 59), 60);
        Edge.due("59 of 60", below.open(0), -1);
        saleIs(below, 0, 1, 0, 0);
        pursesAre(below, 6, 53);
        Edge.due("a deposit is not taxed", below.count(4), 0);
        Edge.due("the owner keeps all", below.parts(0, 0), 16);
        StoneHall second = bids("price second;deposit 10;", purses(0, 50, 99), 90, 50);
        Edge.due("50 of the second's 50", second.open(0), 1);
        StoneHall lower = bids("price second;deposit 10;", purses(0, 49, 99), 90, 50);
        Edge.due("49 of the second's 50", lower.open(0), -1);
        saleIs(lower, 0, 1, 0, 0);
        pursesAre(lower, 9, 40, 99);
        StoneHall nothing = bids("", purses(3, 59), 60);
        Edge.due("59 of 60 without a deposit", nothing.open(0), -1);
        saleIs(nothing, 0, 1, 0, 0);
        pursesAre(nothing, 3, 59);
        StoneHall shared = bids("deposit 10;", purses(0, 59, 0), 60);
        shared.share(0, 0, 2, 8);
        shared.open(0);
        pursesAre(shared, 3, 53, 3);
    }

    private static void defaultNext() {
        Edge.says("Terms", "and by default next the SALE goes on with the bids behind his");
        StoneHall behind = bids("default next;deposit 10;", purses(0, 59, 58), 60, 58);
        Edge.due("the one behind", behind.open(0), 2);
        saleIs(behind, 58, 1, 0, 0);
        pursesAre(behind, 64, 53, 0);
        StoneHall none = bids("default next;deposit 10;", purses(0, 59, 57), 60, 58);
        Edge.due("none behind", none.open(0), -1);
        saleIs(none, 0, 2, 0, 0);
        pursesAre(none, 11, 53, 52);
        StoneHall alone = bids("default next;", purses(0, 59), 60);
        Edge.due("alone", alone.open(0), -1);
        saleIs(alone, 0, 1, 0, 0);
        StoneHall alike = bids("default next;", purses(0, 59, 60), 60, 60);
        Edge.due("a like one behind", alike.open(0), 2);
        saleIs(alike, 60, 1, 0, 0);
        StoneHall last = bids("default next;price second;reserve 9;", purses(0, 10, 9, 50), 30, 20, 8);
        Edge.due("the last one left pays reserve", last.open(0), 2);
        saleIs(last, 9, 1, 0, 1);
        StoneHall seven = bids("default next;", purses(0, 0, 0, 0, 0, 0, 0, 1), 7, 6, 5, 4, 3, 2, 1);
        Edge.due("six default", seven.open(0), 7);
        saleIs(seven, 1, 6, 0, 0);
        StoneHall all = bids("default next;", purses(0, 0, 0, 0, 0, 0, 0, 0), 7, 6, 5, 4, 3, 2, 1);
        Edge.due("seven default", all.open(0), -1);
        saleIs(all, 0, 7, 0, 0);
        StoneHall tie = bids("default next;tie none;", purses(0, 59, 50, 50), 60, 50, 50);
        Edge.due("the first two behind his are alike", tie.open(0), -1);
        saleIs(tie, 0, 1, 0, 0);
    }

    private static void defaultNone() {
        Edge.says("Terms", "else nothing is sold.");
        StoneHall told = bids("default none;deposit 10;", purses(0, 59, 58), 60, 58);
        Edge.due("default none", told.open(0), -1);
        saleIs(told, 0, 1, 0, 0);
        pursesAre(told, 6, 53, 58);
        StoneHall unsaid = bids("deposit 10;", purses(0, 59, 58), 60, 58);
        Edge.due("no default", unsaid.open(0), -1);
        saleIs(unsaid, 0, 1, 0, 0);
        Edge.due("the owner has all", unsaid.parts(0, 0), 16);
        Edge.due("bids are gone", unsaid.look(0, 3), 0);
    }

    private static void taxIsCut() {
        Edge.says("Terms", "The PRICE: tax in a hundred of it (cut) to the HALL, the rest to the owners;");
        taxed("tax 0;", 99, 0);
        taxed("tax 1;", 99, 0);
        taxed("tax 1;", 100, 1);
        taxed("tax 1;", 199, 1);
        taxed("tax 1;", 200, 2);
        taxed("tax 99;", 1, 0);
        taxed("tax 100;", 1, 1);
        taxed("tax 99;", 99999, 98999);
        taxed("tax 100;", 99999, 99999);
    }

    private static void taxed(String customs, int price, int tax) {
        StoneHall x = bids(customs, purses(0, 99999), price);
        Edge.due(customs + " of " + price, x.open(0), 1);
        saleIs(x, price, 0, tax, 0);
        pursesAre(x, price - tax, 99999 - price);
        Edge.due("the HALL", x.count(4), tax);
    }

    private static void allSixteenParts() {
        Edge.says("Terms", "he has all 16 PARTS.");
        StoneHall x = bids("", purses(0, 99, 99), 50);
        x.share(0, 0, 2, 15);
        Edge.due("sold", x.open(0), 1);
        Edge.due("the first owner", x.parts(0, 0), 0);
        Edge.due("the winner", x.parts(0, 1), 16);
        Edge.due("the second owner", x.parts(0, 2), 0);
    }

    private static void bidsAreGone() {
        Edge.says("Terms", "Behind a SALE all bids on it are gone.");
        gone("sold", bids("", purses(0, 99, 99), 50, 40));
        gone("alike", bids("tie none;", purses(0, 99, 99), 50, 50));
        gone("all out", bids("reserve 60;", purses(0, 99, 99), 50, 40));
        gone("default", bids("", purses(0, 9, 99), 50, 40));
        gone("default next", bids("default next;", purses(0, 9, 9), 50, 40));
        StoneHall other = bids("", purses(0, 99, 99), 50, 40);
        other.boulder(0, 1, 0);
        other.bid(2, 1, 30);
        other.open(0);
        Edge.due("those on another stay", other.look(1, 3), 1);
        Edge.due("refused", other.open(7), -2);
        Edge.due("those on another stay", other.open(1), 2);
    }

    private static void gone(String name, StoneHall x) {
        Edge.due(name + ": ahead of it", x.look(0, 3), 2);
        x.open(0);
        Edge.due(name + ": behind it", x.look(0, 3), 0);
        Edge.due(name + ": none to open", x.open(0), -1);
        saleIs(x, 0, 0, 0, 0);
    }

    private static void ownersGetInParts() {
        Edge.says("Terms", "What owners get: each PARTS times it by 16, cut;");
        got(0, 16, 5, 5, 0);
        got(5, 11, 1, 1, 0);
        got(5, 11, 3, 1, 2);
        got(8, 8, 1, 1, 0);
        got(8, 8, 2, 1, 1);
        got(1, 15, 16, 1, 15);
        got(1, 15, 32, 2, 30);
        // 15 * 99999 by 16 is 93749.06, 99999 by 16 is 6249.9
        got(15, 1, 99999, 93750, 6249);
        got(1, 15, 99999, 6250, 93749);
    }

    // man 0 has 'first' parts and man 1 'second', 16 together, or none has shared: man 0 has all
    private static void got(int first, int second, int price, int due0, int due1) {
        StoneHall x = Scenes.with("", 0, 0, 99999);
        if (first > 0) {
            x.share(0, 0, 1, second);
        }
        x.bid(2, 0, price);
        Edge.due("sold for " + price, x.open(0), 2);
        pursesAre(x, due0, due1, 99999 - price);
    }

    private static void coinsLeftByNumbers() {
        Edge.says("Terms", "of the coins left one each those with PARTS, by numbers.");
        shared(1, 1, 0, 0, 0, 0, 0, 0);
        shared(6, 2, 1, 1, 1, 1, 0, 0);
        shared(7, 2, 1, 1, 1, 1, 1, 0);
        shared(8, 2, 1, 1, 1, 1, 1, 1);
        shared(16, 4, 2, 2, 2, 2, 2, 2);
        StoneHall skipped = Scenes.with("", 0, 0, 0, 0, 99);
        skipped.share(0, 0, 1, 5);
        skipped.share(0, 0, 3, 11);
        skipped.bid(4, 0, 1);
        skipped.open(0);
        pursesAre(skipped, 0, 1, 0, 0, 98);
        StoneHall both = Scenes.with("", 0, 0, 0, 0, 99);
        both.share(0, 0, 1, 5);
        both.share(0, 0, 3, 10);
        both.bid(4, 0, 3);
        both.open(0);
        // 1, 5 and 10 parts of 3: 0, 0 and 1, and the two left to the first two
        pursesAre(both, 1, 1, 0, 1, 96);
    }

    // man 0 has 4 parts, men 1 to 6 have 2 each, and man 7 buys
    private static void shared(int price, int... due) {
        StoneHall x = Scenes.with("", 0, 0, 0, 0, 0, 0, 0, 99);
        for (int man = 1; man <= 6; man++) {
            x.share(0, 0, man, 2);
        }
        x.bid(7, 0, price);
        Edge.due("sold for " + price, x.open(0), 7);
        pursesAre(x, due[0], due[1], due[2], due[3], due[4], due[5], due[6], 99 - price);
    }
}
