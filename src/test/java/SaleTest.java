/** Promises 10 to 12: bid, open, sale. */
public final class SaleTest {
    public static void main(String[] args) {
        bids();
        saleAheadOfAny();
        greaterFirstAndEarlierFirst();
        latestBidCountsAsOfTheFirst();
        outByReserveDepositAndParts();
        ties();
        secondPrice();
        secondPriceWithoutNext();
        defaultNone();
        defaultNext();
        tieBehindADefault();
        taxIsCut();
        ownersDivide();
        bidsAreGone();
        bidsOfOtherBoulders();
        soldAgain();
        Check.end();
    }

    private static StoneHall hall(String customs, int... purses) {
        StoneHall x = new StoneHall();
        x.grade(10);
        for (int purse : purses) {
            x.man(purse);
        }
        x.boulder(0, 4, 0);
        Check.due("lines of " + customs, Check.customs(x, customs) >= 0, true);
        return x;
    }

    private static void saleIs(StoneHall x, int price, int defaulted, int tax, int out) {
        Check.due("sale(0)", x.sale(0), price);
        Check.due("sale(1)", x.sale(1), defaulted);
        Check.due("sale(2)", x.sale(2), tax);
        Check.due("sale(3)", x.sale(3), out);
        Check.due("sale(4)", x.sale(4), -1);
        Check.due("sale(-1)", x.sale(-1), -1);
    }

    private static void pursesAre(StoneHall x, int... due) {
        for (int i = 0; i < due.length; i++) {
            Check.due("purse(" + i + ")", x.purse(i), due[i]);
        }
    }

    private static void bids() {
        StoneHall x = hall("", 0, 5, 5);
        Check.due("no such man", x.bid(3, 0, 1), -1);
        Check.due("man -1", x.bid(-1, 0, 1), -1);
        Check.due("no such boulder", x.bid(1, 1, 1), -1);
        Check.due("boulder -1", x.bid(1, -1, 1), -1);
        Check.due("0 coins", x.bid(1, 0, 0), -1);
        Check.due("-1 coins", x.bid(1, 0, -1), -1);
        Check.due("100000 coins", x.bid(1, 0, 100000), -1);
        Check.due("an owner", x.bid(0, 0, 1), -1);
        Check.due("none yet", Check.look(x, 0, 3), 0);
        Check.due("1 coin", x.bid(1, 0, 1), 1);
        Check.due("99999 coins, beyond the purse", x.bid(1, 0, 99999), 1);
        Check.due("another", x.bid(2, 0, 4), 2);
        x.share(0, 0, 2, 1);
        Check.due("an owner by now", x.bid(2, 0, 5), -1);
        Check.due("his old bid stays", Check.look(x, 0, 3), 2);
        x.share(0, 0, 2, 15);
        Check.due("an owner no more", x.bid(0, 0, 5), 3);
        x.sell(0);
        Check.due("a spent one", x.bid(1, 0, 5), -1);
        Check.due("open a spent one", x.open(0), -2);
    }

    private static void saleAheadOfAny() {
        StoneHall x = hall("", 0);
        Check.due("open no boulder", x.open(1), -2);
        Check.due("open boulder -1", x.open(-1), -2);
        for (int what = -1; what <= 4; what++) {
            Check.due("sale ahead of any", x.sale(what), -1);
        }
        Check.due("open without bids", x.open(0), -1);
        saleIs(x, 0, 0, 0, 0);
    }

    private static void greaterFirstAndEarlierFirst() {
        StoneHall x = hall("", 0, 100, 100, 100, 100);
        x.bid(1, 0, 30);
        x.bid(4, 0, 40);
        x.bid(3, 0, 40);
        x.bid(2, 0, 20);
        Check.due("the earlier of the greatest", x.open(0), 4);
        saleIs(x, 40, 0, 0, 0);
        pursesAre(x, 40, 100, 100, 100, 60);
        Check.due("open of none keeps the latest", x.open(7), -2);
        saleIs(x, 40, 0, 0, 0);
    }

    private static void latestBidCountsAsOfTheFirst() {
        StoneHall x = hall("", 0, 100, 100);
        x.bid(1, 0, 10);
        x.bid(2, 0, 40);
        Check.due("again", x.bid(1, 0, 40), 2);
        Check.due("as of when it was told first", x.open(0), 1);
        StoneHall y = hall("", 0, 100, 100);
        y.bid(1, 0, 90);
        y.bid(2, 0, 40);
        y.bid(1, 0, 30);
        Check.due("the latest counts, though less", y.open(0), 2);
    }

    private static void outByReserveDepositAndParts() {
        StoneHall x = hall("reserve 50;deposit 33;", 0, 100, 100, 32, 33, 100);
        x.bid(1, 0, 49);
        x.bid(2, 0, 50);
        x.bid(3, 0, 100);
        x.bid(4, 0, 102);
        x.bid(5, 0, 90);
        x.share(0, 0, 5, 4);
        Check.due("33 of 102 is 33: he wins and defaults", x.open(0), -1);
        saleIs(x, 0, 1, 0, 3);
        pursesAre(x, 25, 100, 100, 32, 0, 108);
        x.bid(4, 0, 50);
        x.bid(2, 0, 50);
        Check.due("just the reserve", x.open(0), 2);
        saleIs(x, 50, 0, 0, 1);
        StoneHall y = hall("deposit 100;", 0, 70);
        y.bid(1, 0, 71);
        Check.due("all out", y.open(0), -1);
        saleIs(y, 0, 0, 0, 1);
        y.bid(1, 0, 70);
        Check.due("just the deposit", y.open(0), 1);
        StoneHall z = hall("", 5, 70);
        z.bid(1, 0, 70);
        z.share(0, 0, 1, 3);
        z.share(0, 1, 0, 3);
        Check.due("had parts once", z.open(0), 1);
        saleIs(z, 70, 0, 0, 0);
    }

    private static void ties() {
        StoneHall x = hall("tie none;", 0, 50, 50, 50);
        x.bid(1, 0, 20);
        x.bid(2, 0, 30);
        x.bid(3, 0, 30);
        Check.due("the first two alike", x.open(0), -1);
        saleIs(x, 0, 0, 0, 0);
        pursesAre(x, 0, 50, 50, 50);
        x.bid(1, 0, 20);
        x.bid(2, 0, 20);
        x.bid(3, 0, 30);
        Check.due("alike behind the first", x.open(0), 3);
        StoneHall y = hall("tie none;deposit 100;", 0, 50, 29);
        y.bid(2, 0, 30);
        y.bid(1, 0, 30);
        Check.due("one of the alike is out", y.open(0), 1);
        saleIs(y, 30, 0, 0, 1);
        StoneHall z = hall("tie first;", 0, 50, 50);
        z.bid(2, 0, 30);
        z.bid(1, 0, 30);
        Check.due("tie first", z.open(0), 2);
    }

    private static void secondPrice() {
        StoneHall x = hall("price second;reserve 10;", 0, 50, 50, 50);
        x.bid(1, 0, 20);
        x.bid(2, 0, 99);
        x.bid(3, 0, 9);
        Check.due("pays the next one's, though his bid is beyond his purse", x.open(0), 2);
        saleIs(x, 20, 0, 0, 1);
        pursesAre(x, 20, 50, 30, 50);
        StoneHall y = hall("price second;", 0, 50, 50);
        y.bid(1, 0, 20);
        y.bid(2, 0, 20);
        Check.due("alike", y.open(0), 1);
        saleIs(y, 20, 0, 0, 0);
    }

    private static void secondPriceWithoutNext() {
        StoneHall x = hall("price second;reserve 10;", 0, 50, 50);
        x.bid(1, 0, 20);
        x.bid(2, 0, 9);
        Check.due("next is out", x.open(0), 1);
        saleIs(x, 10, 0, 0, 1);
        StoneHall y = hall("price second;tax 99;", 0, 50);
        y.bid(1, 0, 20);
        Check.due("1 at least", y.open(0), 1);
        saleIs(y, 1, 0, 0, 0);
        pursesAre(y, 1, 49);
        StoneHall z = hall("price second;tax 100;", 0, 0);
        z.bid(1, 0, 20);
        Check.due("even 1 is too much", z.open(0), -1);
        saleIs(z, 0, 1, 0, 0);
    }

    private static void defaultNone() {
        StoneHall x = hall("deposit 10;default none;tax 50;", 0, 50, 50);
        x.bid(1, 0, 59);
        x.bid(2, 0, 50);
        Check.due("he defaults", x.open(0), -1);
        saleIs(x, 0, 1, 0, 0);
        pursesAre(x, 5, 45, 50);
        Check.due("no tax of a deposit", x.count(4), 0);
        Check.due("parts stay", x.parts(0, 0), 16);
        Check.due("bids are gone", Check.look(x, 0, 3), 0);
    }

    private static void defaultNext() {
        StoneHall x = hall("deposit 10;default next;price second;tax 10;", 0, 50, 50, 39, 60);
        x.bid(1, 0, 90);
        x.bid(2, 0, 80);
        x.bid(3, 0, 70);
        x.bid(4, 0, 30);
        Check.due("the third can pay the fourth's", x.open(0), 3);
        saleIs(x, 30, 2, 3, 0);
        pursesAre(x, 9 + 8 + 27, 41, 42, 9, 60);
        StoneHall y = hall("deposit 10;default next;", 0, 50, 50);
        y.bid(1, 0, 90);
        y.bid(2, 0, 51);
        Check.due("all default", y.open(0), -1);
        saleIs(y, 0, 2, 0, 0);
        pursesAre(y, 14, 41, 45);
        Check.due("parts stay", y.parts(0, 0), 16);
    }

    private static void tieBehindADefault() {
        StoneHall x = hall("tie none;default next;deposit 10;", 0, 50, 50, 50);
        x.bid(1, 0, 90);
        x.bid(2, 0, 40);
        x.bid(3, 0, 40);
        Check.due("alike behind a default", x.open(0), -1);
        saleIs(x, 0, 1, 0, 0);
        pursesAre(x, 9, 41, 50, 50);
        StoneHall y = hall("default next;deposit 10;", 0, 50, 50, 50);
        y.bid(1, 0, 90);
        y.bid(3, 0, 40);
        y.bid(2, 0, 40);
        Check.due("tie first behind a default", y.open(0), 3);
        saleIs(y, 40, 1, 0, 0);
        pursesAre(y, 49, 41, 50, 10);
    }

    private static void taxIsCut() {
        StoneHall x = hall("tax 33;", 0, 99999);
        x.bid(1, 0, 99999);
        Check.due("all he has", x.open(0), 1);
        saleIs(x, 99999, 0, 32999, 0);
        pursesAre(x, 67000, 0);
        Check.due("the hall", x.count(4), 32999);
        StoneHall y = hall("tax 100;", 0, 50);
        y.bid(1, 0, 50);
        y.open(0);
        saleIs(y, 50, 0, 50, 0);
        pursesAre(y, 0, 0);
        Check.due("the hall", y.count(4), 50);
    }

    private static void ownersDivide() {
        StoneHall x = hall("", 0, 0, 0, 100);
        x.share(0, 0, 2, 5);
        x.share(0, 0, 1, 1);
        x.bid(3, 0, 15);
        Check.due("sold", x.open(0), 3);
        pursesAre(x, 10, 1, 4, 85);
        Check.due("parts of 0", x.parts(0, 0), 0);
        Check.due("parts of 1", x.parts(0, 1), 0);
        Check.due("parts of 2", x.parts(0, 2), 0);
        Check.due("parts of 3", x.parts(0, 3), 16);
    }

    private static void bidsAreGone() {
        StoneHall x = hall("", 0, 50, 50);
        x.bid(1, 0, 20);
        x.bid(2, 0, 10);
        x.open(0);
        Check.due("gone", Check.look(x, 0, 3), 0);
        Check.due("anew", x.bid(2, 0, 10), 1);
        Check.due("the owner before may bid", x.bid(0, 0, 20), 2);
        Check.due("the owner now may not", x.bid(1, 0, 20), -1);
    }

    private static void bidsOfOtherBoulders() {
        StoneHall x = hall("", 0, 50, 50);
        x.boulder(0, 1, 0);
        x.bid(1, 0, 50);
        x.bid(1, 1, 50);
        Check.due("one", x.open(0), 1);
        Check.due("the other's bids stay", Check.look(x, 1, 3), 1);
        Check.due("but his purse is empty", x.open(1), -1);
        saleIs(x, 0, 1, 0, 0);
    }

    private static void soldAgain() {
        StoneHall x = hall("", 0, 50, 80);
        x.bid(1, 0, 50);
        x.open(0);
        Check.due("a slice for the new owner", x.cut(0), 0);
        x.bid(2, 0, 60);
        Check.due("sold again, begun", x.open(0), 2);
        pursesAre(x, 50, 70, 20);
        Check.due("seen", Check.look(x, 0, 1), 1);
    }
}
