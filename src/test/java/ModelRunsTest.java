import java.util.NoSuchElementException;
import java.util.Random;

/** All promises: long runs of calls, the same ones each time, held against the model of the document. */
public final class ModelRunsTest {
    private static final int RUNS = 600;
    private static final int CALLS = 512;
    private static final int[] EXTREMES = {
        Integer.MIN_VALUE, Integer.MAX_VALUE, -1, -2, 16, 400, 512, 65535, 1 << 30, Integer.MIN_VALUE + 1};
    private static final String[] PIECES = {
        "price first;", "price second;", "tie first;", "tie none;", "default next;", "default none;",
        "deposit 10;", "deposit 50;", "deposit 100;", "reserve 20;", "reserve 5;", "tax 7;", "tax 100;", "cost 3;", "cost 11;",
        "offer 0 5;", "offer 1 12;", "offer 2 30;", "offer 3 999;", "shut 9;", "shut 20;"};
    private static final String[] SCRAPS = {
        "price", "tie", "default", "first", "second", "none", "next", "offer", "deposit", "reserve", "tax", "cost",
        "shut", " ", "\n", ";", ";", " ", "0", "3", "4", "99", "100", "101", "999", "1000", "99999", "100000",
        "99999999999", "x", "A", "-", "\t", "\0", "\u00e9", "\u00ff"};

    private final Random random;
    private final StoneHall hall = new StoneHall();
    private final HallModel model = new HallModel();
    private final int most;
    private String text = "";
    private int fed = 0;

    private ModelRunsTest(long seed) {
        random = new Random(seed);
        most = seed % 2 == 0 ? 8 : 4;
    }

    public static void main(String[] args) {
        for (int run = 0; run < RUNS; run++) {
            new ModelRunsTest(run).run(run);
        }
        for (int run = 0; run < 3000; run++) {
            new ModelRunsTest(run).readTexts(run);
        }
        Check.end();
    }

    private void run(int run) {
        boolean settled = random.nextInt(4) > 0;
        if (settled) {
            settle();
        }
        for (int i = 0; i < CALLS - 30; i++) {
            call("run " + run + " call " + i + " ", random.nextInt(30));
        }
    }

    private void settle() {
        for (int i = 1 + random.nextInt(4); i > 0; i--) {
            grade("settle ");
        }
        for (int i = 3 + random.nextInt(5); i > 0; i--) {
            man("settle ");
        }
        for (int i = random.nextInt(4); i > 0; i--) {
            kind("settle ");
        }
    }

    private int some(int bound) {
        int roll = random.nextInt(60);
        if (roll == 0) {
            return EXTREMES[random.nextInt(EXTREMES.length)];
        }
        return roll == 1 ? bound : random.nextInt(bound);
    }

    private int stone() {
        return some(Math.max(1, Math.min(10, model.count(3))));
    }

    private int person() {
        return some(Math.max(1, model.count(2)));
    }

    private void call(String at, int which) {
        switch (which) {
            case 0: case 1: case 2: customs(at); break;
            case 3: faults(at); break;
            case 4: if (random.nextInt(4) == 0) grade(at); break;
            case 5: if (random.nextInt(4) == 0) kind(at); break;
            case 6: if (random.nextInt(4) == 0) man(at); break;
            case 7: if (random.nextInt(4) == 0) boulder(at); break;
            case 8: share(at); break;
            case 9: case 10: case 11: case 12: case 13: case 14: case 15: bid(at); break;
            case 16: case 17: open(at); break;
            case 18: if (random.nextInt(3) == 0) cut(at); break;
            case 19: if (random.nextInt(15) == 0) sell(at); break;
            case 20: look(at); break;
            case 21: parts(at); break;
            case 22: rest(at); break;
            case 23: best(at); break;
            case 24: likely(at); break;
            default: tell(at); break;
        }
    }

    private void feedText() {
        StringBuilder b = new StringBuilder();
        int kind = random.nextInt(10);
        for (int i = random.nextInt(12); i >= 0; i--) {
            b.append(kind > 0 ? PIECES[random.nextInt(PIECES.length)] : SCRAPS[random.nextInt(SCRAPS.length)]);
            b.append(random.nextInt(3) == 0 ? " " : "");
        }
        text = b.toString();
        feedAll("feed ");
    }

    private void feedAll(String at) {
        for (int i = 0; i < text.length(); i += 20) {
            int a = four(i);
            int b = four(i + 4);
            int c = four(i + 8);
            int d = four(i + 12);
            int e = four(i + 16);
            Check.due(at + "feed", hall.feed(a, b, c, d, e), model.feed(a, b, c, d, e));
        }
    }

    private int four(int at) {
        int n = 0;
        for (int i = at; i < at + 4; i++) {
            n = n << 8 | (i < text.length() ? text.charAt(i) : 0);
        }
        return n;
    }

    private void customs(String at) {
        if (random.nextInt(3) > 0) {
            feedText();
            fed = Math.min(text.length(), 400);
            return;
        }
        int n = random.nextInt(5) > 0 ? fed : some(420);
        Check.due(at + "customs(" + n + ") " + text, hall.customs(n), model.customs(n));
        faults(at);
    }

    private void readTexts(int run) {
        StringBuilder b = new StringBuilder();
        for (int i = random.nextInt(14); i >= 0; i--) {
            boolean whole = random.nextInt(3) > 0;
            b.append(whole ? PIECES[random.nextInt(PIECES.length)] : SCRAPS[random.nextInt(SCRAPS.length)]);
        }
        text = b.toString();
        feedAll("text " + run + " ");
        int n = Math.min(400, random.nextInt(4) == 0 ? random.nextInt(text.length() + 1) : text.length());
        Check.due("text " + run + " customs(" + n + ") of " + text, hall.customs(n), model.customs(n));
        faults("text " + run + " " + text + " ");
    }

    private void faults(String at) {
        int what = some(3);
        Check.due(at + "fault(0)", hall.fault(0), model.fault(0));
        Check.due(at + "fault(1)", hall.fault(1), model.fault(1));
        Check.due(at + "fault(" + what + ")", hall.fault(what), model.fault(what));
    }

    private void grade(String at) {
        int worth = random.nextInt(10) == 0 ? some(1000) : random.nextInt(40);
        Check.due(at + "grade(" + worth + ")", hall.grade(worth), model.grade(worth));
    }

    private void kind(String at) {
        int grades = Math.max(1, model.count(0));
        int[] w = new int[4];
        for (int i = 0; i < 16; i++) {
            w[random.nextInt(grades)] += 1;
        }
        if (random.nextInt(3) == 0) {
            w = new int[] {some(17), some(17), some(3), some(3)};
        }
        int prior = 1 + some(99);
        Check.due(at + "kind", hall.kind(prior, w[0], w[1], w[2], w[3]), model.kind(prior, w[0], w[1], w[2], w[3]));
    }

    private void man(String at) {
        int purse = random.nextInt(10) == 0 ? some(1000000) : random.nextInt(80);
        Check.due(at + "man(" + purse + ")", hall.man(purse), model.man(purse));
    }

    private void boulder(String at) {
        int owner = person();
        int slices = random.nextInt(20) == 0 ? some(10) : 1 + random.nextInt(most);
        if (slices > most && slices <= 8) {
            slices = most;
        }
        int inside = 0;
        for (int i = 0; i < 8; i++) {
            inside |= random.nextInt(Math.max(1, model.count(0))) << 2 * i;
        }
        if (random.nextInt(8) == 0) {
            inside = random.nextInt();
        }
        Check.due(at + "boulder", hall.boulder(owner, slices, inside), model.boulder(owner, slices, inside));
    }

    private void share(String at) {
        int b = stone();
        int from = person();
        int to = person();
        int parts = some(random.nextInt(3) == 0 ? 18 : 6);
        Check.due(at + "share", hall.share(b, from, to, parts), model.share(b, from, to, parts));
    }

    private void bid(String at) {
        int man = person();
        int b = stone();
        int coins = random.nextInt(40) == 0 ? some(100001) : some(10) * 5;
        Check.due(at + "bid", hall.bid(man, b, coins), model.bid(man, b, coins));
    }

    private void open(String at) {
        int b = stone();
        Check.due(at + "open(" + b + ")", hall.open(b), model.open(b));
        sale(at);
        for (int man = 0; man < 8; man++) {
            Check.due(at + "purse(" + man + ")", hall.purse(man), model.purse(man));
        }
    }

    private void sale(String at) {
        for (int what = -1; what <= 4; what++) {
            Check.due(at + "sale(" + what + ")", hall.sale(what), model.sale(what));
        }
    }

    private void cut(String at) {
        int b = stone();
        Check.due(at + "cut(" + b + ")", hall.cut(b), model.cut(b));
    }

    private void sell(String at) {
        int b = stone();
        Check.due(at + "sell(" + b + ")", hall.sell(b), model.sell(b));
    }

    private void look(String at) {
        int b = stone();
        int what = some(4);
        long want;
        try {
            want = model.look(b, what);
        } catch (IndexOutOfBoundsException e) {
            want = -101;
        } catch (NoSuchElementException e) {
            want = -102;
        }
        Check.due(at + "look(" + b + ", " + what + ")", Check.look(hall, b, what), want);
    }

    private void parts(String at) {
        int b = stone();
        int man = person();
        Check.due(at + "parts(" + b + ", " + man + ")", hall.parts(b, man), model.parts(b, man));
    }

    private void rest(String at) {
        int b = stone();
        int what = some(2);
        Check.due(at + "rest(" + b + ", " + what + ")", hall.rest(b, what), model.rest(b, what));
    }

    private void best(String at) {
        int b = stone();
        int what = some(3);
        Check.due(at + "best(" + b + ", " + what + ")", hall.best(b, what), model.best(b, what));
    }

    private void likely(String at) {
        int b = stone();
        int kind = some(3);
        int what = some(2);
        Check.due(at + "likely(" + b + ", " + kind + ", " + what + ")", hall.likely(b, kind, what), model.likely(b, kind, what));
    }

    private void tell(String at) {
        int man = person();
        int what = some(5);
        Check.due(at + "purse(" + man + ")", hall.purse(man), model.purse(man));
        Check.due(at + "count(" + what + ")", hall.count(what), model.count(what));
        int sale = some(4);
        Check.due(at + "sale(" + sale + ")", hall.sale(sale), model.sale(sale));
    }
}
