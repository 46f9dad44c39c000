/** Halls in which something has happened, for tests to begin with. */
final class Scenes {
    static final int[] FAR = {Integer.MIN_VALUE, Integer.MAX_VALUE, 1 << 16, 1 << 31 | 1};

    private Scenes() {
    }

    /** Grades 10 and 35, men by their purses, and the first man's boulder with 4 slices of grade 0. */
    static StoneHall with(String customs, int... purses) {
        StoneHall x = new StoneHall();
        x.grade(10);
        x.grade(35);
        for (int purse : purses) {
            x.man(purse);
        }
        x.boulder(0, 4, 0);
        Check.due("lines of " + customs, Check.customs(x, customs) >= 0, true);
        return x;
    }

    /**
     * 2 grades, 2 kinds, 4 men; boulder 0 is shut and has bids, 1 is shared, begun and has bids, 2 was sold and
     * then sold to the hall, 3 is cut to the end. A text with a fault was read, and the tape has 40 bytes.
     */
    static StoneHall busy() {
        StoneHall x = new StoneHall();
        x.grade(10);
        x.grade(35);
        x.kind(1, 12, 4, 0, 0);
        x.kind(3, 4, 12, 0, 0);
        x.man(100);
        x.man(500);
        x.man(80);
        x.man(1000);
        x.boulder(0, 4, 0b01_00_01_00);
        x.boulder(1, 3, 0b00_01_01);
        x.boulder(2, 2, 0);
        x.boulder(3, 1, 1);
        Check.customs(x, "price second;default next;deposit 10;reserve 7;tax 9;cost 3;offer 0 5;offer 1 12;shut 9;");
        x.bid(3, 2, 50);
        x.bid(0, 2, 20);
        x.open(2);
        x.sell(2);
        x.cut(3);
        x.share(1, 1, 0, 5);
        x.cut(1);
        x.bid(1, 0, 90);
        x.bid(2, 0, 85);
        x.bid(3, 0, 90);
        x.bid(2, 0, 70);
        x.bid(2, 1, 30);
        x.bid(3, 1, 10);
        Check.customs(x, "tie none;tax 101;");
        feedPadded(x, "cost 4;shut 20;tax 5;tie none;", 40);
        return x;
    }

    /** The busy hall with all the grades, kinds, men, boulders and bytes that there may be. */
    static StoneHall full() {
        StoneHall x = busy();
        x.grade(7);
        x.grade(3);
        x.kind(2, 4, 4, 4, 4);
        for (int man = 4; man < 8; man++) {
            x.man(10 * man);
        }
        for (int b = 4; b < 10; b++) {
            x.boulder(b - 2, b - 1, 0b11_10_01_00_11_10_01_00);
        }
        feedPadded(x, "reserve 40;", 360);
        return x;
    }

    /** Feeds a text with blanks behind it up to so many bytes, 20 and 20. */
    static void feedPadded(StoneHall x, String text, int bytes) {
        StringBuilder padded = new StringBuilder(text);
        while (padded.length() < bytes) {
            padded.append(' ');
        }
        Check.feed(x, padded.toString());
    }
}
