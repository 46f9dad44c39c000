import java.util.function.Supplier;

/** Promises 2 to 4 and the text of the customs in "Terms": each sentence that names a boundary case. */
public final class EdgesOfTextTest {
    private static final Supplier<StoneHall> BUSY = Scenes::busy;
    private static final Supplier<StoneHall> FULL = Scenes::full;
    private static final String[] CHOICES = {"price", "tie", "default"};
    private static final String[] NUMBERS = {"deposit", "reserve", "tax", "cost", "shut"};

    public static void main(String[] args) {
        tapeUpTo400();
        bytesHighestFirst();
        customsOfSoMany();
        customsBelow0();
        tapeIsEmptyThen();
        customsFromNowOn();
        customsWithAFault();
        faultOfTheLatest();
        faultOfAnotherWhat();
        textOfNoLines();
        everyLineIsClosed();
        blanks();
        wordsOfLines();
        smallLettersInARow();
        numbersInTheirBounds();
        numbersThatWrap();
        gradesInTheirBounds();
        firstFaultAlongTheText();
        tokenThatCannotStandThere();
        lengthIfMoreMustCome();
        numberBeyondWhatIsSaid();
        lineToldAlready();
        offerOfOneGradeToldAlready();
        withoutALine();
        Check.end();
    }

    private static void tapeUpTo400() {
        Edge.says("Promise 2", "how many it has; NONE, and none come, if it would have more than 400.");
        StoneHall x = new StoneHall();
        for (int size = 20; size <= 400; size += 20) {
            Edge.due("up to " + size, x.feed(0, 0, 0, 0, 0), size);
        }
        Edge.due("beyond 400", x.feed(0, 0, 0, 0, 0), -1);
        Edge.due("401 of 400", x.customs(401), -2);
        Edge.refuses(FULL, "feed to a full TAPE", h -> h.feed(0, 0, 0, 0, 0), -1);
        Edge.refuses(FULL, "feed of blanks to a full TAPE", h -> h.feed(0x20202020, 0x20202020, 0x20202020, 0x20202020, 0x20202020), -1);
        StoneHall last = new StoneHall();
        Scenes.feedPadded(last, "", 380);
        Edge.due("the last twenty", Check.feed(last, "              tax 9;"), 400);
        Edge.due("none come", Check.feed(last, ";;;;;;;;;;;;;;;;;;;;"), -1);
        Edge.due("all 400 are read", last.customs(400), 1);
        Edge.due("anew from none", last.feed(0, 0, 0, 0, 0), 20);
    }

    private static void bytesHighestFirst() {
        Edge.says("Promise 2", "Twenty bytes come behind the TAPE, four of each number, the highest first");
        StoneHall x = new StoneHall();
        x.feed(0x636f7374, 0x20313233, 0x3b736875, 0x74203435, 0x363b2020);
        Edge.due("cost 123;shut 456;", x.customs(20), 2);
        x.feed(0x74617820, 0x39203b20, 0x20202020, 0x20202020, 0x2020202e);
        Edge.due("the last byte of the last number", x.customs(20), -1);
        Edge.due("its place", x.fault(1), 19);
        x.feed(0xff202020, 0, 0, 0, 0);
        Edge.due("a byte 255", x.customs(1), -1);
        Edge.due("its place", x.fault(1), 0);
        x.feed(0x80000000, 0, 0, 0, 0);
        Edge.due("a byte 128", x.customs(1), -1);
        x.feed(0x20202020, 0x20202020, 0x20202020, 0x20202020, 0x20207461);
        x.feed(0x78203130, 0x303b0000, 0, 0, 0);
        Edge.due("a word across two numbers of two calls", x.customs(26), 1);
    }

    private static void customsOfSoMany() {
        Edge.says("Promise 3", "-2, and the TAPE stays: there are not so many");
        Edge.answers(BUSY, "40 of 40", x -> x.customs(40), 4);
        Edge.answers(BUSY, "39 of 40", x -> x.customs(39), 4);
        Edge.refuses(BUSY, "41 of 40", x -> x.customs(41), -2);
        Edge.refuses(BUSY, "MAX of 40", x -> x.customs(Integer.MAX_VALUE), -2);
        Edge.answers(FULL, "400 of 400", x -> x.customs(400), 5);
        Edge.refuses(FULL, "401 of 400", x -> x.customs(401), -2);
        Edge.answers(StoneHall::new, "0 of none", x -> x.customs(0), 0);
        Edge.refuses(StoneHall::new, "1 of none", x -> x.customs(1), -2);
    }

    private static void customsBelow0() {
        Edge.says("Promise 3", "n is below 0.");
        Edge.answers(BUSY, "0 of 40", x -> x.customs(0), 0);
        Edge.refuses(BUSY, "-1", x -> x.customs(-1), -2);
        Edge.refuses(BUSY, "MIN", x -> x.customs(Integer.MIN_VALUE), -2);
        Edge.refuses(StoneHall::new, "-1 of none", x -> x.customs(-1), -2);
    }

    private static void tapeIsEmptyThen() {
        Edge.says("Promise 3", "The TAPE's first n bytes (it is empty then)");
        for (int n : new int[] {0, 1, 7, 20, 40}) {
            StoneHall x = Scenes.busy();
            Edge.due("customs(" + n + ") is not refused", x.customs(n) == -2, false);
            Edge.due("1 behind customs(" + n + ")", x.customs(1), -2);
            Edge.due("feed behind customs(" + n + ")", x.feed(0, 0, 0, 0, 0), 20);
        }
        StoneHall x = new StoneHall();
        Check.feed(x, "tax 5;cost 7;x");
        Edge.due("the first 13", x.customs(13), 2);
        Check.feed(x, "tax 5;cost 7;x");
        Edge.due("the first 6", x.customs(6), 1);
        Check.feed(x, "tax 5;cost 7;x");
        Edge.due("the first 14", x.customs(14), -1);
        Check.feed(x, "tax 5;cost 7;x");
        Edge.due("the first 5", x.customs(5), -1);
        Edge.due("as if there were no more", x.fault(1), 5);
    }

    private static void customsFromNowOn() {
        Edge.says("Promise 3", "are the CUSTOMS from now on: how many LINES");
        StoneHall x = Scenes.with("cost 3;shut 9;", 100);
        Edge.due("another text", Check.customs(x, "cost 4;"), 1);
        x.cut(0);
        Edge.due("cost 4", x.purse(0), 106);
        x.boulder(0, 5, 0);
        Edge.due("no shut", x.sell(1), 0);
        Edge.due("no text", x.customs(0), 0);
        x.cut(0);
        Edge.due("no cost", x.purse(0), 116);
        Edge.due("all that can be told", Check.customs(x, all("")), 12);
        Edge.due("blanks alone", Check.customs(x, "  \n "), 0);
    }

    private static String all(String blank) {
        return ("price" + blank + " second;tie none;default next;deposit 1;reserve 1;tax 1;cost 1;"
                + "offer 0 1;offer 1 1;offer 2 1;offer 3 1;shut 1;").replace(";", blank + ";" + blank);
    }

    private static void customsWithAFault() {
        Edge.says("Promise 3", "NONE with a FAULT");
        StoneHall x = Scenes.with("cost 3;", 100);
        Edge.due("a FAULT behind a good LINE", Check.customs(x, "cost 9;x"), -1);
        Edge.due("the TAPE is empty", x.customs(1), -2);
        x.cut(0);
        Edge.due("a text with a FAULT is no CUSTOMS: cost 3 stays", x.purse(0), 107);
        Edge.due("the same text without it", Check.customs(x, "cost 9;"), 1);
        x.cut(0);
        Edge.due("cost 9", x.purse(0), 108);
    }

    private static void faultOfTheLatest() {
        Edge.says("Promise 4", "Of the latest customs() that was not -2, what 0: its FAULT (0), 1: its place (NONE without).");
        StoneHall x = new StoneHall();
        faultIs(x, 0, -1);
        Check.customs(x, "tax 5;tax");
        faultIs(x, 3, 6);
        Edge.due("-2", x.customs(1), -2);
        faultIs(x, 3, 6);
        Edge.due("-2", x.customs(-1), -2);
        faultIs(x, 3, 6);
        Check.customs(x, "tax 101;");
        faultIs(x, 2, 4);
        Check.customs(x, ".");
        faultIs(x, 1, 0);
        Edge.due("a good one", x.customs(0), 0);
        faultIs(x, 0, -1);
    }

    private static void faultIs(StoneHall x, int fault, int place) {
        Edge.due("fault(0)", x.fault(0), fault);
        Edge.due("fault(1)", x.fault(1), place);
    }

    private static void faultOfAnotherWhat() {
        Edge.says("Promise 4", "NONE for another what.");
        Edge.answers(BUSY, "fault(0)", x -> x.fault(0), 2);
        Edge.answers(BUSY, "fault(1)", x -> x.fault(1), 13);
        Edge.refuses(BUSY, "fault(2)", x -> x.fault(2), -1);
        Edge.refuses(BUSY, "fault(-1)", x -> x.fault(-1), -1);
        for (int far : Scenes.FAR) {
            Edge.refuses(BUSY, "fault(" + far + ")", x -> x.fault(far), -1);
        }
    }

    private static void textOfNoLines() {
        Edge.says("Terms", "CUSTOMS, a TEXT: { LINE ';' }.");
        good("", 0);
        good(" ", 0);
        good("\n", 0);
        good("tax 5;", 1);
        good("tax 5;cost 5;", 2);
        good(all(""), 12);
        good(all(" "), 12);
        good(all("\n"), 12);
    }

    private static void everyLineIsClosed() {
        Edge.says("Terms", "CUSTOMS, a TEXT: { LINE ';' }.");
        bad(";", 1, 0);
        bad("tax 5;;", 1, 6);
        bad("tax 5", 1, 5);
        bad("tax 5 cost 5;", 1, 6);
        bad("tie first cost 5;", 1, 10);
        bad("offer 1 2 cost 5;", 1, 10);
        bad("tax 5,", 1, 5);
        bad("tax 5:", 1, 5);
        bad("tax 5<", 1, 5);
    }

    private static void blanks() {
        Edge.says("Terms", "Blanks 10, 32.");
        for (int sign = 0; sign < 256; sign++) {
            String text = "tax" + (char) sign + "5;";
            if (sign == 10 || sign == 32 || sign >= '0' && sign <= '9') {
                good(text, 1);
            } else {
                bad(text, 1, sign >= 'a' && sign <= 'z' ? 0 : 3);
            }
            String behind = "tax 5;" + (char) sign;
            if (sign == 10 || sign == 32) {
                good(behind, 1);
            } else {
                bad(behind, 1, 6);
            }
        }
        good("\n \n tax \n 5 \n ; \n ", 1);
    }

    private static void wordsOfLines() {
        Edge.says("Terms", "LINE: price ( first | second ) | tie ( first | none ) | default ( next | none ) | deposit N | reserve N | tax N | cost N | offer G N | shut N.");
        String[] values = {"first", "second", "none", "next"};
        boolean[][] fit = {{true, true, false, false}, {true, false, true, false}, {false, false, true, true}};
        for (int line = 0; line < 3; line++) {
            int behind = CHOICES[line].length() + 1;
            for (int value = 0; value < 4; value++) {
                String text = CHOICES[line] + " " + values[value] + ";";
                if (fit[line][value]) {
                    good(text, 1);
                } else {
                    bad(text, 1, behind);
                }
            }
            bad(CHOICES[line] + " 0;", 1, behind);
            bad(CHOICES[line] + " ;", 1, behind);
            bad(CHOICES[line] + " " + CHOICES[line] + ";", 1, behind);
        }
        for (String number : NUMBERS) {
            good(number + " 1;", 1);
            bad(number + " first;", 1, number.length() + 1);
            bad(number + " ;", 1, number.length() + 1);
            bad(number + " 1 1;", 1, number.length() + 3);
        }
        good("offer 1 1;", 1);
        bad("offer 1;", 1, 7);
        bad("offer ;", 1, 6);
        bad("offer none 1;", 1, 6);
        bad("offer 1 none;", 1, 8);
        bad("offer 1 1 1;", 1, 10);
        for (String value : values) {
            bad(value + ";", 1, 0);
        }
        bad("1;", 1, 0);
    }

    private static void smallLettersInARow() {
        Edge.says("Terms", "Words: small letters in a row.");
        good("tax 1;", 1);
        bad("Tax 1;", 1, 0);
        bad("taX 1;", 1, 0);
        bad("TAX 1;", 1, 0);
        bad("ta 1;", 1, 0);
        bad("taxx 1;", 1, 0);
        bad("xtax 1;", 1, 0);
        bad("t ax 1;", 1, 0);
        bad("lax 1;", 1, 0);
        bad("txx 1;", 1, 0);
        bad("taz 1;", 1, 0);
        bad("tie zone;", 1, 4);
        bad("tie nine;", 1, 4);
        bad("tie nona;", 1, 4);
        bad("tax`1;", 1, 3);
        bad("tax{1;", 1, 3);
        bad("`tax 1;", 1, 0);
        bad("tie nonez;", 1, 4);
        bad("tie non;", 1, 4);
        bad("tie no ne;", 1, 4);
        bad("tie None;", 1, 4);
        bad("tienone;", 1, 0);
        bad("aaaaaaaaaaaaaaaaaaaaaaaaaaaaaaaaaaaaaaaa", 1, 0);
    }

    private static void numbersInTheirBounds() {
        Edge.says("Terms", "N: digits: deposit, tax 0 .. 100, reserve 0 .. 99999, cost, offer, shut 0 .. 999;");
        String[] starts = {"deposit ", "tax ", "reserve ", "cost ", "offer 0 ", "offer 1 ", "offer 2 ", "offer 3 ", "shut "};
        int[] most = {100, 100, 99999, 999, 999, 999, 999, 999, 999};
        for (int i = 0; i < starts.length; i++) {
            good(starts[i] + "0;", 1);
            good(starts[i] + most[i] + ";", 1);
            good(starts[i] + "000" + most[i] + ";", 1);
            bad(starts[i] + (most[i] + 1) + ";", 2, starts[i].length());
            bad(starts[i] + "000" + (most[i] + 1) + ";", 2, starts[i].length());
            bad(starts[i] + "-1;", 1, starts[i].length());
            bad(starts[i] + "+1;", 1, starts[i].length());
            bad(starts[i] + "1.5;", 1, starts[i].length() + 1);
        }
        mostTakesEffect();
    }

    private static void mostTakesEffect() {
        StoneHall x = Scenes.with("cost 999;tax 100;offer 0 999;", 999, 99999);
        Edge.due("cost 999", x.cut(0), 0);
        Edge.due("cost 999 was paid", x.purse(0), 10);
        x.bid(1, 0, 99999);
        x.open(0);
        Edge.due("tax 100", x.sale(2), 99999);
        Edge.due("offer 999 for 3", x.sell(0), 2997);
        StoneHall y = Scenes.with("shut 999;reserve 99999;", 0, 99999, 99999);
        y.bid(1, 0, 99998);
        Edge.due("reserve 99999", y.open(0), -1);
        y.bid(2, 0, 99999);
        Edge.due("reserve 99999", y.open(0), 2);
        Edge.due("shut 999 for 4", y.sell(0), 3996);
        StoneHall z = Scenes.with("deposit 100;", 0, 50);
        z.bid(1, 0, 51);
        Edge.due("deposit 100", z.open(0), -1);
        Edge.due("out", z.sale(3), 1);
    }

    private static void numbersThatWrap() {
        Edge.says("Terms", "2 a G, N beyond what is said (at it).");
        String[] wraps = {"65536", "2147483647", "2147483648", "4294967295", "4294967296", "4294967301",
            "9223372036854775807", "9223372036854775808", "18446744073709551616", "18446744073709551621",
            "340282366920938463463374607431768211456", "99999999999999999999999999999999999999999999999999"};
        for (String wrap : wraps) {
            bad("tax " + wrap + ";", 2, 4);
            bad("offer " + wrap + " 1;", 2, 6);
            bad("offer 1 " + wrap + ";", 2, 8);
        }
        bad("tax 256;", 2, 4);
        bad("offer 256 1;", 2, 6);
        StringBuilder zeros = new StringBuilder("tax ");
        while (zeros.length() < 398) {
            zeros.append('0');
        }
        good(zeros + "5;", 1);
        bad(zeros.toString().replaceFirst("0", "1") + "5;", 2, 4);
    }

    private static void gradesInTheirBounds() {
        Edge.says("Terms", "G 0 .. 3.");
        for (int grade = 0; grade <= 3; grade++) {
            good("offer " + grade + " 1;", 1);
        }
        bad("offer 4 1;", 2, 6);
        bad("offer 10 1;", 2, 6);
        bad("offer -1 1;", 1, 6);
        StoneHall x = Scenes.with("offer 3 7;", 0);
        x.cut(0);
        Edge.due("an offer for a GRADE that there is not is a LINE", x.sell(0), 0);
    }

    private static void firstFaultAlongTheText() {
        Edge.says("Terms", "FAULTS, the first along the text (of one place the least), with its place:");
        bad("tax 101;tax x;", 2, 4);
        bad("tax x;tax 101;", 1, 4);
        bad("tax 5;tax 101;", 3, 6);
        bad("tax 5;tax x;", 3, 6);
        bad("tax 5;tax", 3, 6);
        bad("tax 5;cost 1000;tax 5;", 2, 11);
        bad("tax 5;.;tax 5;", 1, 6);
        bad("offer 4 1000;", 2, 6);
        bad("offer 4 x", 2, 6);
        bad("offer 1 1;offer 1 1000;", 3, 16);
        bad("offer 1 1;offer 4 1;", 2, 16);
        bad("offer 1 1;offer x 1;", 1, 16);
        bad("offer 1 1;offer", 1, 15);
        bad("tax 101", 2, 4);
        bad("tax 101.", 2, 4);
    }

    private static void tokenThatCannotStandThere() {
        Edge.says("Terms", "1 a TOKEN that is none or can't stand there");
        bad(".", 1, 0);
        bad("  .", 1, 2);
        bad("tax .", 1, 4);
        bad("tax 5.", 1, 5);
        bad("tax 5;.", 1, 6);
        bad("house 5;", 1, 0);
        bad("tax 5;\nhouse 5;", 1, 7);
        bad("tie house;", 1, 4);
        bad("tax 5x;", 1, 5);
        bad("tax 5tax 6;", 1, 5);
        bad("tax five;", 1, 4);
        good("tax5;", 1);
        good("offer1 5;", 1);
    }

    private static void lengthIfMoreMustCome() {
        Edge.says("Terms", "(the length, if more must come).");
        String[] texts = {"price", "price first", "tie none", "default", "tax", "tax 5", "offer", "offer 1", "offer 1 5",
            "tax 5;cost", "tax 5;cost 5", "price second;tie"};
        for (String text : texts) {
            bad(text, 1, text.length());
            bad(text + " ", 1, text.length() + 1);
            bad(text + "\n \n", 1, text.length() + 3);
        }
        bad("pric", 1, 0);
        StoneHall full = new StoneHall();
        Scenes.feedPadded(full, "tax", 400);
        Edge.due("400 bytes", full.customs(400), -1);
        faultIs(full, 1, 400);
        StoneHall cut = new StoneHall();
        Check.feed(cut, "tax 5;");
        Edge.due("cut ahead of the ';'", cut.customs(5), -1);
        faultIs(cut, 1, 5);
    }

    private static void numberBeyondWhatIsSaid() {
        Edge.says("Terms", "2 a G, N beyond what is said (at it).");
        good("tax 100;", 1);
        bad("tax 101;", 2, 4);
        bad("  tax   101  ;", 2, 8);
        good("offer 3 999;", 1);
        bad("offer 4 999;", 2, 6);
        bad("offer 3 1000;", 2, 8);
        bad("cost 1;offer 3 1000;", 2, 15);
    }

    private static void lineToldAlready() {
        Edge.says("Terms", "3 a LINE told already (at its first word;");
        for (String choice : CHOICES) {
            String line = choice + " none;";
            String good = choice.equals("price") ? "price first;" : line;
            bad(good + good, 3, good.length());
            bad(good + "cost 1; " + good, 3, good.length() + 8);
            bad(good + choice, 3, good.length());
        }
        bad("price first;price second;", 3, 12);
        bad("tie first;tie none;", 3, 10);
        bad("default none;default next;", 3, 13);
        for (String number : NUMBERS) {
            String line = number + " 0;";
            bad(line + line, 3, line.length());
            bad(line + "tie none; " + number + " 1;", 3, line.length() + 10);
        }
        StoneHall x = new StoneHall();
        Edge.due("told", Check.customs(x, "tax 5;"), 1);
        Edge.due("told in another text is not told already", Check.customs(x, "tax 5;"), 1);
        Check.customs(x, "tax 5;x");
        Edge.due("nor in one with a FAULT", Check.customs(x, "tax 5;"), 1);
    }

    private static void offerOfOneGradeToldAlready() {
        Edge.says("Terms", "offer of one G: at the G).");
        good("offer 0 1;offer 1 1;offer 2 1;offer 3 1;", 4);
        for (int grade = 0; grade <= 3; grade++) {
            String line = "offer " + grade + " 1;";
            bad(line + line, 3, 16);
            bad(line + "offer   " + grade, 3, 18);
            bad("offer 0 1;offer 1 1;offer 2 1;offer 3 1;" + line, 3, 46);
        }
        bad("offer 1 1;offer 01 1;", 3, 16);
    }

    private static void withoutALine() {
        Edge.says("Terms", "Without a LINE: price first, tie first, default none, all N 0.");
        String told = "price first;tie first;default none;deposit 0;reserve 0;tax 0;cost 0;"
                + "offer 0 0;offer 1 0;offer 2 0;offer 3 0;shut 0;";
        Edge.alike("no LINES and all as usual", () -> rivals(""), () -> rivals(told));
        Edge.differ("price", () -> rivals(""), () -> rivals("price second;"));
        Edge.differ("tie", () -> rivals(""), () -> rivals("tie none;"));
        Edge.differ("default", () -> rivals(""), () -> rivals("default next;"));
        Edge.differ("deposit", () -> rivals(""), () -> rivals("deposit 1;"));
        Edge.differ("reserve", () -> rivals(""), () -> rivals("reserve 1000;"));
        Edge.differ("tax", () -> rivals(""), () -> rivals("tax 1;"));
        Edge.differ("cost", () -> rivals(""), () -> rivals("cost 1;"));
        Edge.differ("offer", () -> rivals(""), () -> rivals("offer 0 1;"));
        Edge.differ("shut", () -> rivals(""), () -> rivals("shut 1;"));
    }

    // three boulders with a kind: alike bids that can be paid, a bid that can't, and none
    private static StoneHall rivals(String customs) {
        StoneHall x = Scenes.with(customs, 0, 500, 500, 90);
        x.kind(1, 15, 1, 0, 0);
        x.boulder(0, 4, 0);
        x.boulder(0, 2, 0);
        x.bid(1, 0, 100);
        x.bid(2, 0, 100);
        x.bid(3, 1, 100);
        x.bid(1, 1, 99);
        return x;
    }

    private static void good(String text, int lines) {
        StoneHall x = new StoneHall();
        Edge.due("customs of \"" + text + "\"", Check.customs(x, text), lines);
        Edge.due("fault(0) of \"" + text + "\"", x.fault(0), 0);
        Edge.due("fault(1) of \"" + text + "\"", x.fault(1), -1);
    }

    private static void bad(String text, int fault, int place) {
        StoneHall x = new StoneHall();
        Edge.due("customs of \"" + text + "\"", Check.customs(x, text), -1);
        Edge.due("fault(0) of \"" + text + "\"", x.fault(0), fault);
        Edge.due("fault(1) of \"" + text + "\"", x.fault(1), place);
    }
}
