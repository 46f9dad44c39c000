/** Promises 13 and 14: cut and sell, with what owners get and pay. */
public final class CutAndSellTest {
    public static void main(String[] args) {
        wrongOnes();
        costAndWorth();
        refused();
        refusedChangesNothing();
        sellShut();
        sellBehindAGrade();
        ownersDivideAnOffer();
        bidsOfASpentOneStay();
        Check.end();
    }

    private static StoneHall hall(String customs, int... purses) {
        StoneHall x = new StoneHall();
        x.grade(10);
        x.grade(35);
        for (int purse : purses) {
            x.man(purse);
        }
        Check.due("lines of " + customs, Check.customs(x, customs) >= 0, true);
        return x;
    }

    private static void wrongOnes() {
        StoneHall x = hall("", 0);
        x.boulder(0, 1, 0);
        Check.due("cut(1)", x.cut(1), -1);
        Check.due("cut(-1)", x.cut(-1), -1);
        Check.due("sell(1)", x.sell(1), -1);
        Check.due("sell(-1)", x.sell(-1), -1);
        Check.due("cut(0)", x.cut(0), 0);
        Check.due("cut of a spent one", x.cut(0), -1);
        Check.due("sell of a spent one", x.sell(0), -1);
        Check.due("purse", x.purse(0), 10);
    }

    private static void costAndWorth() {
        StoneHall x = hall("cost 7;", 100, 100, 100);
        x.boulder(1, 3, 1);
        x.share(0, 1, 2, 7);
        x.share(0, 1, 0, 1);
        Check.due("cut", x.cut(0), 1);
        // 1, 8, 7 parts: cost 0+1, 3, 3; worth 35: 2+1, 17, 15
        Check.due("purse(0)", x.purse(0), 102);
        Check.due("purse(1)", x.purse(1), 114);
        Check.due("purse(2)", x.purse(2), 112);
        Check.due("the hall", x.count(4), 7);
        Check.due("seen", Check.look(x, 0, 1), 1);
    }

    private static void refused() {
        StoneHall x = hall("cost 10;", 9, 10);
        x.boulder(0, 1, 0);
        x.boulder(1, 1, 0);
        Check.due("one coin short", x.cut(0), -1);
        Check.due("just enough", x.cut(1), 0);
        Check.due("purse", x.purse(1), 10);
        Check.due("a worth does not pay its own cost", x.cut(0), -1);
    }

    private static void refusedChangesNothing() {
        StoneHall x = hall("cost 10;", 100, 0);
        x.boulder(0, 2, 0);
        x.share(0, 0, 1, 2);
        Check.due("the second can't pay his coin", x.cut(0), -1);
        Check.due("purse(0)", x.purse(0), 100);
        Check.due("seen", Check.look(x, 0, 1), 0);
        Check.due("the hall", x.count(4), 0);
        x.share(0, 1, 0, 1);
        Check.due("one part of 10 is cut to none", x.cut(0), 0);
        Check.due("purse(0)", x.purse(0), 100);
        Check.due("purse(1)", x.purse(1), 0);
    }

    private static void sellShut() {
        StoneHall x = hall("shut 30;offer 0 1;offer 1 2;", 5);
        x.boulder(0, 3, 0);
        Check.due("sell", x.sell(0), 90);
        Check.due("purse", x.purse(0), 95);
        Check.due("the hall", x.count(4), -90);
        Check.due("spent", Check.look(x, 0, 2), 1);
        Check.due("seen", Check.look(x, 0, 1), 0);
        StoneHall y = hall("", 5);
        y.boulder(0, 3, 0);
        Check.due("for nothing", y.sell(0), 0);
        Check.due("spent, too", Check.look(y, 0, 2), 1);
    }

    private static void sellBehindAGrade() {
        StoneHall x = hall("shut 30;offer 0 11;offer 1 13;", 0);
        x.boulder(0, 5, 0b01_00);
        x.boulder(0, 5, 0b00_01);
        x.cut(0);
        x.cut(0);
        x.cut(1);
        x.cut(1);
        Check.due("grade 1 seen last", x.sell(0), 39);
        Check.due("grade 0 seen last", x.sell(1), 33);
    }

    private static void ownersDivideAnOffer() {
        StoneHall x = hall("shut 17;", 0, 0, 0);
        x.boulder(2, 1, 0);
        x.share(0, 2, 0, 4);
        x.share(0, 2, 1, 4);
        Check.due("sell", x.sell(0), 17);
        Check.due("purse(0)", x.purse(0), 5);
        Check.due("purse(1)", x.purse(1), 4);
        Check.due("purse(2)", x.purse(2), 8);
    }

    private static void bidsOfASpentOneStay() {
        StoneHall x = hall("", 0, 5);
        x.boulder(0, 1, 0);
        x.bid(1, 0, 3);
        x.sell(0);
        Check.due("no sale was held", Check.look(x, 0, 3), 1);
    }
}
