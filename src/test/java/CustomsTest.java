/** Promises 2 to 4: feed, customs, fault. */
public final class CustomsTest {
    public static void main(String[] args) {
        tape();
        bytesAreHighestFirst();
        refusedLengths();
        goodTexts();
        badTokens();
        badNumbers();
        toldTwice();
        faultOfTheLatest();
        faultyTextLeavesCustoms();
        newTextReplacesAll();
        Check.end();
    }

    private static void tape() {
        StoneHall x = new StoneHall();
        for (int size = 20; size <= 400; size += 20) {
            Check.due("feed to " + size, x.feed(1, 2, 3, 4, 5), size);
        }
        Check.due("feed beyond 400", x.feed(1, 2, 3, 4, 5), -1);
        Check.due("feed beyond 400 again", x.feed(1, 2, 3, 4, 5), -1);
        Check.due("customs(401)", x.customs(401), -2);
        Check.due("customs(400)", x.customs(400), -1);
        Check.due("the tape is empty then", x.feed(0, 0, 0, 0, 0), 20);
        Check.due("customs(1) of 20", x.customs(1), -1);
        Check.due("the whole tape is empty then", x.feed(0, 0, 0, 0, 0), 20);
    }

    private static void bytesAreHighestFirst() {
        StoneHall x = new StoneHall();
        x.feed(0x74617820, 0x353b0000, 0, 0, 0);
        Check.due("tax 5;", x.customs(6), 1);
        x.feed(0x80ff0001, 0, 0, 0, 0);
        Check.due("a byte above 127", x.customs(1), -1);
        Check.due("fault", x.fault(0), 1);
        Check.due("place", x.fault(1), 0);
        x.feed(0x20202020, 0x20202020, 0x20202020, 0x20202020, 0x20202074);
        x.feed(0x6965206e, 0x6f6e653b, 0, 0, 0);
        Check.due("a word across two feeds", x.customs(28), 1);
    }

    private static void refusedLengths() {
        StoneHall x = new StoneHall();
        Check.customs(x, "tax");
        x.feed(0x74696520, 0x6e6f6e65, 0x3b000000, 0, 0);
        Check.due("customs(-1)", x.customs(-1), -2);
        Check.due("customs(21)", x.customs(21), -2);
        Check.due("customs(MAX)", x.customs(Integer.MAX_VALUE), -2);
        Check.due("customs(MIN)", x.customs(Integer.MIN_VALUE), -2);
        Check.due("fault is still of the one before", x.fault(0), 1);
        Check.due("its place too", x.fault(1), 3);
        Check.due("the tape stayed", x.customs(9), 1);
    }

    private static void goodTexts() {
        good("", 0);
        good(" \n \n", 0);
        good("price first;", 1);
        good("price second;", 1);
        good("tie first;", 1);
        good("tie none;", 1);
        good("default next;", 1);
        good("default none;", 1);
        good("deposit 0;", 1);
        good("deposit 100;", 1);
        good("tax 100;", 1);
        good("reserve 99999;", 1);
        good("cost 999;", 1);
        good("shut 999;", 1);
        good("offer 3 999;", 1);
        good("offer0 0;", 1);
        good("cost5;", 1);
        good("cost 0000000000000000000000005;", 1);
        good("offer 003 1;", 1);
        good("\nprice\n first \n; tax 5 ;\n", 2);
        good("offer 0 1;offer 1 1;offer 2 1;offer 3 1;shut 1;cost 1;tax 1;reserve 1;deposit 1;default next;tie none;price second;", 12);
    }

    private static void badTokens() {
        bad(";", 1, 0);
        bad(" ;", 1, 1);
        bad("tax 5;;", 1, 6);
        bad("price", 1, 5);
        bad("price  ", 1, 7);
        bad("price first", 1, 11);
        bad("price first \n", 1, 13);
        bad("pricefirst;", 1, 0);
        bad("prices first;", 1, 0);
        bad("pric first;", 1, 0);
        bad("Price first;", 1, 0);
        bad("lax 5;", 1, 0);
        bad("taz 5;", 1, 0);
        bad("taxz 5;", 1, 0);
        bad("tax`5;", 1, 3);
        bad("tax{5;", 1, 3);
        bad("tax 5:", 1, 5);
        bad("tax 5/;", 1, 5);
        bad("price zirst;", 1, 6);
        bad("price firsts;", 1, 6);
        bad("price firs;", 1, 6);
        bad("price next;", 1, 6);
        bad("price 1;", 1, 6);
        bad("price ;", 1, 6);
        bad("price first first;", 1, 12);
        bad("tie second;", 1, 4);
        bad("tie next;", 1, 4);
        bad("default first;", 1, 8);
        bad("default second;", 1, 8);
        bad("deposit first;", 1, 8);
        bad("tax -5;", 1, 4);
        bad("tax 5.;", 1, 5);
        bad("tax 5 0;", 1, 6);
        bad("tax 5x;", 1, 5);
        bad("tax;", 1, 3);
        bad("5;", 1, 0);
        bad("first;", 1, 0);
        bad("none", 1, 0);
        bad("offer", 1, 5);
        bad("offer 1", 1, 7);
        bad("offer 1;", 1, 7);
        bad("offer 1 5", 1, 9);
        bad("offer x 5;", 1, 6);
        bad("offer 1 x;", 1, 8);
        bad("offer 15;", 2, 6);
        bad("tax\t5;", 1, 3);
        bad("tax" + (char) 0 + "5;", 1, 3);
        bad("tax 5;" + (char) 13, 1, 6);
        bad("tax 5" + (char) 187 + ";", 1, 5);
    }

    private static void badNumbers() {
        bad("deposit 101;", 2, 8);
        bad("tax 101;", 2, 4);
        bad("reserve 100000;", 2, 8);
        bad("cost 1000;", 2, 5);
        bad("shut 1000;", 2, 5);
        bad("offer 0 1000;", 2, 8);
        bad("offer 4 1;", 2, 6);
        bad("offer 4", 2, 6);
        bad("offer 4 1000;", 2, 6);
        bad("tax 101", 2, 4);
        bad("tax 4294967301;", 2, 4);
        bad("tax 99999999999999999999999999999999999999;", 2, 4);
        bad("tax 18446744073709551616;", 2, 4);
        bad("offer 4294967296 1;", 2, 6);
    }

    private static void toldTwice() {
        bad("tax 5;tax", 3, 6);
        bad("tax 5; tax 5;", 3, 7);
        bad("price first;price third;", 3, 12);
        bad("tie first;tie first;", 3, 10);
        bad("default none;default next;", 3, 13);
        bad("deposit 1;deposit 1;", 3, 10);
        bad("reserve 1;reserve 1;", 3, 10);
        bad("cost 1;cost 101010;", 3, 7);
        bad("shut 1;shut;", 3, 7);
        bad("offer 1 5;offer 1 6;", 3, 16);
        bad("offer 1 5;offer 01", 3, 16);
        bad("offer 1 5;offer", 1, 15);
        bad("offer 1 5;offer 4 1;", 2, 16);
        bad("tax 5;cost 1000;tax 5;", 2, 11);
    }

    private static void faultOfTheLatest() {
        StoneHall x = new StoneHall();
        Check.customs(x, "tax 101;");
        Check.due("fault(0)", x.fault(0), 2);
        Check.due("fault(1)", x.fault(1), 4);
        Check.due("fault(2)", x.fault(2), -1);
        Check.due("fault(-1)", x.fault(-1), -1);
        Check.due("fault(MIN)", x.fault(Integer.MIN_VALUE), -1);
        Check.customs(x, "tax 100;");
        Check.due("fault(0) of a good one", x.fault(0), 0);
        Check.due("fault(1) of a good one", x.fault(1), -1);
    }

    private static void faultyTextLeavesCustoms() {
        StoneHall x = new StoneHall();
        x.grade(0);
        x.man(100);
        x.boulder(0, 8, 0);
        Check.due("cost 7", Check.customs(x, "cost 7;"), 1);
        Check.due("cost 9 with a fault behind it", Check.customs(x, "cost 9;x"), -1);
        x.cut(0);
        Check.due("still 7 were paid", x.purse(0), 93);
    }

    private static void newTextReplacesAll() {
        StoneHall x = new StoneHall();
        x.grade(0);
        x.man(100);
        x.boulder(0, 2, 0);
        Check.due("two lines", Check.customs(x, "cost 7;shut 9;"), 2);
        Check.due("none", x.customs(0), 0);
        x.cut(0);
        Check.due("no cost", x.purse(0), 100);
        x.boulder(0, 2, 0);
        Check.due("no offer", x.sell(1), 0);
    }

    private static void good(String text, int lines) {
        StoneHall x = new StoneHall();
        Check.due("customs " + text, Check.customs(x, text), lines);
        Check.due("fault(0) of " + text, x.fault(0), 0);
        Check.due("fault(1) of " + text, x.fault(1), -1);
    }

    private static void bad(String text, int fault, int place) {
        StoneHall x = new StoneHall();
        Check.due("customs " + text, Check.customs(x, text), -1);
        Check.due("fault(0) of " + text, x.fault(0), fault);
        Check.due("fault(1) of " + text, x.fault(1), place);
    }
}
