/** Promises 5 to 9, 15 to 17 and 21: grades, kinds, men, boulders, shares, and what is told of them. */
public final class ThingsTest {
    public static void main(String[] args) {
        grades();
        kinds();
        men();
        boulders();
        insideIsReadLowestFirst();
        shares();
        looks();
        counts();
        Check.end();
    }

    private static void grades() {
        StoneHall x = new StoneHall();
        Check.due("grade(-1)", x.grade(-1), -1);
        Check.due("grade(1000)", x.grade(1000), -1);
        Check.due("count(0)", x.count(0), 0);
        Check.due("grade(0)", x.grade(0), 0);
        Check.due("grade(999)", x.grade(999), 1);
        Check.due("grade(999) again", x.grade(999), 2);
        Check.due("the fourth", x.grade(1), 3);
        Check.due("the fifth", x.grade(1), -1);
        Check.due("count(0)", x.count(0), 4);
    }

    private static void kinds() {
        StoneHall x = new StoneHall();
        x.grade(1);
        x.grade(1);
        Check.due("prior 0", x.kind(0, 8, 8, 0, 0), -1);
        Check.due("prior 100", x.kind(100, 8, 8, 0, 0), -1);
        Check.due("prior -1", x.kind(-1, 8, 8, 0, 0), -1);
        Check.due("15 together", x.kind(1, 8, 7, 0, 0), -1);
        Check.due("17 together", x.kind(1, 8, 9, 0, 0), -1);
        Check.due("below 0", x.kind(1, 17, -1, 0, 0), -1);
        Check.due("grade 2 that is not", x.kind(1, 8, 7, 1, 0), -1);
        Check.due("grade 3 that is not", x.kind(1, 8, 7, 0, 1), -1);
        Check.due("below 0 for one that is not", x.kind(1, 16, 1, -1, 0), -1);
        Check.due("a sum that wraps", x.kind(1, Integer.MAX_VALUE, Integer.MAX_VALUE, 18, 0), -1);
        x.grade(1);
        x.grade(1);
        Check.due("a sum that wraps among four", x.kind(1, 1 << 30, 1 << 30, 1 << 30, (1 << 30) + 16), -1);
        Check.due("two wrap", x.kind(1, Integer.MAX_VALUE, Integer.MAX_VALUE, 18, 0), -1);
        Check.due("count(1)", x.count(1), 0);
        Check.due("prior 1", x.kind(1, 0, 16, 0, 0), 0);
        Check.due("prior 99", x.kind(99, 4, 4, 4, 4), 1);
        Check.due("the third", x.kind(5, 0, 0, 0, 16), 2);
        Check.due("the fourth", x.kind(5, 0, 0, 0, 16), -1);
        Check.due("count(1)", x.count(1), 3);
    }

    private static void men() {
        StoneHall x = new StoneHall();
        Check.due("man(-1)", x.man(-1), -1);
        Check.due("man(1000000)", x.man(1000000), -1);
        Check.due("man(0)", x.man(0), 0);
        Check.due("man(999999)", x.man(999999), 1);
        for (int i = 2; i < 8; i++) {
            Check.due("man " + i, x.man(10 * i), i);
        }
        Check.due("the ninth", x.man(1), -1);
        Check.due("purse(0)", x.purse(0), 0);
        Check.due("purse(1)", x.purse(1), 999999);
        Check.due("purse(7)", x.purse(7), 70);
        Check.due("purse(8)", x.purse(8), -1);
        Check.due("purse(-1)", x.purse(-1), -1);
        Check.due("count(2)", x.count(2), 8);
    }

    private static void boulders() {
        StoneHall x = new StoneHall();
        x.man(1);
        Check.due("without grades", x.boulder(0, 1, 0), -1);
        x.grade(1);
        x.grade(2);
        Check.due("no such man", x.boulder(1, 1, 0), -1);
        Check.due("man -1", x.boulder(-1, 1, 0), -1);
        Check.due("0 slices", x.boulder(0, 0, 0), -1);
        Check.due("9 slices", x.boulder(0, 9, 0), -1);
        Check.due("-1 slices", x.boulder(0, -1, 0), -1);
        Check.due("MIN slices", x.boulder(0, Integer.MIN_VALUE, 0), -1);
        Check.due("grade 2 in the last", x.boulder(0, 3, 2 << 4), -1);
        Check.due("grade 2 in the first", x.boulder(0, 3, 2), -1);
        Check.due("grade 3 in the eighth", x.boulder(0, 8, 3 << 14), -1);
        Check.due("grade 3 beyond its slices", x.boulder(0, 7, 3 << 14), 0);
        Check.due("bits beyond all slices", x.boulder(0, 8, 0xffff0000), 1);
        Check.due("slices", Check.look(x, 0, 0), 7);
        for (int i = 2; i < 10; i++) {
            Check.due("boulder " + i, x.boulder(0, 1, 1), i);
        }
        Check.due("the eleventh", x.boulder(0, 1, 1), -1);
        Check.due("count(3)", x.count(3), 10);
        Check.due("slices of the tenth", Check.look(x, 9, 0), 1);
        Check.due("the tenth's owner", x.parts(9, 0), 16);
    }

    private static void insideIsReadLowestFirst() {
        StoneHall x = new StoneHall();
        x.man(0);
        for (int i = 0; i < 4; i++) {
            x.grade(i);
        }
        x.boulder(0, 8, 0b11_10_01_00_00_01_10_11);
        int[] due = {3, 2, 1, 0, 0, 1, 2, 3};
        int[] purse = {3, 5, 6, 6, 6, 7, 9, 12};
        for (int i = 0; i < 8; i++) {
            Check.due("slice " + i, x.cut(0), due[i]);
            Check.due("purse behind it", x.purse(0), purse[i]);
        }
    }

    private static void shares() {
        StoneHall x = new StoneHall();
        x.grade(1);
        for (int i = 0; i < 3; i++) {
            x.man(5);
        }
        x.boulder(0, 2, 0);
        Check.due("no such boulder", x.share(1, 0, 1, 1), false);
        Check.due("boulder -1", x.share(-1, 0, 1, 1), false);
        Check.due("no such from", x.share(0, 3, 1, 1), false);
        Check.due("no such to", x.share(0, 0, 3, 1), false);
        Check.due("from -1", x.share(0, -1, 1, 1), false);
        Check.due("to -1", x.share(0, 0, -1, 1), false);
        Check.due("to himself", x.share(0, 0, 0, 1), false);
        Check.due("0 parts", x.share(0, 0, 1, 0), false);
        Check.due("-1 parts", x.share(0, 0, 1, -1), false);
        Check.due("17 parts", x.share(0, 0, 1, 17), false);
        Check.due("from one who has none", x.share(0, 1, 2, 1), false);
        Check.due("parts of 0", x.parts(0, 0), 16);
        Check.due("16 parts", x.share(0, 0, 1, 16), true);
        Check.due("parts of 0", x.parts(0, 0), 0);
        Check.due("1 part", x.share(0, 1, 2, 1), true);
        Check.due("1 part more", x.share(0, 1, 2, 1), true);
        Check.due("more than he has", x.share(0, 2, 0, 3), false);
        Check.due("parts of 1", x.parts(0, 1), 14);
        Check.due("parts of 2", x.parts(0, 2), 2);
        Check.due("for nothing", x.purse(0) * 100 + x.purse(1) * 10 + x.purse(2), 555);
        x.cut(0);
        Check.due("of a begun one", x.share(0, 2, 0, 1), true);
        x.cut(0);
        Check.due("of a spent one", x.share(0, 1, 0, 1), false);
        Check.due("parts of a spent one", x.parts(0, 1), 14);
        Check.due("parts of no boulder", x.parts(1, 0), -1);
        Check.due("parts of boulder -1", x.parts(-1, 0), -1);
        Check.due("parts of no man", x.parts(0, 3), -1);
        Check.due("parts of man -1", x.parts(0, -1), -1);
    }

    private static void looks() {
        StoneHall x = new StoneHall();
        x.grade(1);
        x.man(5);
        x.man(5);
        x.boulder(0, 2, 0);
        Check.due("no such boulder", Check.look(x, 1, 0), -101);
        Check.due("boulder -1", Check.look(x, -1, 0), -101);
        Check.due("neither", Check.look(x, 1, 4), -101);
        Check.due("no such what", Check.look(x, 0, 4), -102);
        Check.due("what -1", Check.look(x, 0, -1), -102);
        looksAre(x, 2, 0, 0, 0);
        x.bid(1, 0, 1);
        x.cut(0);
        looksAre(x, 2, 1, 0, 1);
        x.cut(0);
        Check.due("slices of a spent one", Check.look(x, 0, 0), 2);
        Check.due("seen of a spent one", Check.look(x, 0, 1), 2);
        Check.due("spent", Check.look(x, 0, 2), 1);
        x.boulder(0, 3, 0);
        x.cut(1);
        x.sell(1);
        Check.due("slices of one sold", Check.look(x, 1, 0), 3);
        Check.due("seen of one sold", Check.look(x, 1, 1), 1);
        Check.due("one sold is spent", Check.look(x, 1, 2), 1);
    }

    private static void looksAre(StoneHall x, int slices, int seen, int spent, int bids) {
        Check.due("look slices", Check.look(x, 0, 0), slices);
        Check.due("look seen", Check.look(x, 0, 1), seen);
        Check.due("look spent", Check.look(x, 0, 2), spent);
        Check.due("look bids", Check.look(x, 0, 3), bids);
    }

    private static void counts() {
        StoneHall x = new StoneHall();
        Check.due("count(5)", x.count(5), -1000000000);
        Check.due("count(-1)", x.count(-1), -1000000000);
        Check.due("count(MIN)", x.count(Integer.MIN_VALUE), -1000000000);
        x.grade(1);
        x.grade(2);
        x.grade(3);
        x.kind(1, 16, 0, 0, 0);
        x.kind(1, 16, 0, 0, 0);
        x.man(1);
        x.boulder(0, 1, 0);
        x.boulder(0, 1, 0);
        x.boulder(0, 1, 0);
        x.boulder(0, 1, 0);
        Check.due("count(0)", x.count(0), 3);
        Check.due("count(1)", x.count(1), 2);
        Check.due("count(2)", x.count(2), 1);
        Check.due("count(3)", x.count(3), 4);
        Check.due("count(4)", x.count(4), 0);
    }
}
