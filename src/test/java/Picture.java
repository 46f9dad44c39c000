import java.util.ArrayList;
import java.util.List;

/**
 * All that a hall tells, and then what it answers to a run of calls that brings out what it keeps hidden:
 * the bids by opening them, the customs by sales and cuts, what lies within by cutting, the tape by reading it.
 */
final class Picture {
    // with the calls that made the hall, a picture has to stay below the document's 512
    private static final int MOST_CALLS = 400;

    /** The customs by which the first bids are opened: others bring other bids out. */
    enum Light { IN_FORCE, FIRST_PRICE, SECOND_PRICE }

    private final StoneHall hall;
    private final List<String> rows = new ArrayList<>();
    private int calls = 0;

    private Picture(StoneHall hall) {
        this.hall = hall;
    }

    static List<String> of(StoneHall hall, Light light) {
        Picture picture = new Picture(hall);
        int men = hall.count(2);
        int boulders = hall.count(3);
        picture.tellAll(men, boulders);
        picture.readCustoms(light);
        picture.openAll(boulders);
        if (boulders <= 4) {
            picture.bidAnew(men, boulders);
        }
        picture.sellOne(0, boulders);
        picture.cutAll(boulders);
        picture.sellOne(1, boulders);
        picture.readTape();
        picture.cutAll(boulders);
        picture.sellAll(men, boulders);
        picture.addOneOfEach(boulders);
        Check.due("calls of a picture " + picture.calls, picture.calls <= MOST_CALLS, true);
        return picture.rows;
    }

    private void row(String call, long answer) {
        calls++;
        rows.add(call + " = " + answer);
    }

    private void tellAll(int men, int boulders) {
        for (int what = 0; what <= 4; what++) {
            row("count(" + what + ")", hall.count(what));
        }
        for (int what = 0; what <= 1; what++) {
            row("fault(" + what + ")", hall.fault(what));
        }
        tellSale();
        tellPurses(men);
        for (int b = 0; b < boulders; b++) {
            tellBoulder(b, men);
        }
    }

    private void tellSale() {
        for (int what = 0; what <= 3; what++) {
            row("sale(" + what + ")", hall.sale(what));
        }
    }

    private void tellPurses(int men) {
        for (int man = 0; man < men; man++) {
            row("purse(" + man + ")", hall.purse(man));
        }
    }

    private void tellBoulder(int b, int men) {
        for (int what = 0; what <= 3; what++) {
            row("look(" + b + ", " + what + ")", hall.look(b, what));
        }
        for (int man = 0; man < men; man++) {
            row("parts(" + b + ", " + man + ")", hall.parts(b, man));
        }
        for (int what = 0; what <= 1; what++) {
            row("rest(" + b + ", " + what + ")", hall.rest(b, what));
            for (int kind = 0; kind <= 2; kind++) {
                row("likely(" + b + ", " + kind + ", " + what + ")", hall.likely(b, kind, what));
            }
        }
        for (int what = 0; what <= 2; what++) {
            row("best(" + b + ", " + what + ")", hall.best(b, what));
        }
    }

    private void readCustoms(Light light) {
        if (light != Light.IN_FORCE) {
            hall.customs(0);
        }
        if (light == Light.SECOND_PRICE) {
            Check.customs(hall, "price second;");
        }
    }

    private void openAll(int boulders) {
        for (int b = 0; b < boulders; b++) {
            row("open(" + b + ")", hall.open(b));
            tellSale();
        }
    }

    private void bidAnew(int men, int boulders) {
        for (int b = 0; b < boulders; b++) {
            for (int man = 0; man < men; man++) {
                row("bid(" + man + ", " + b + ", " + (20 + man) + ")", hall.bid(man, b, 20 + man));
            }
        }
        openAll(boulders);
    }

    private void cutAll(int boulders) {
        for (int b = 0; b < boulders; b++) {
            row("cut(" + b + ")", hall.cut(b));
        }
    }

    private void sellOne(int b, int boulders) {
        if (b < boulders) {
            row("sell(" + b + ")", hall.sell(b));
        }
    }

    private void readTape() {
        int size = hall.feed(0x20202020, 0x6f666665, 0x72203120, 0x37373b20, 0x20202020);
        row("feed(\" offer 1 77; \")", size);
        int n = size == StoneHall.NONE ? 400 : size;
        row("customs(" + n + ")", hall.customs(n));
        row("fault(0)", hall.fault(0));
        row("fault(1)", hall.fault(1));
    }

    private void sellAll(int men, int boulders) {
        for (int b = 0; b < boulders; b++) {
            sellOne(b, boulders);
        }
        tellPurses(men);
        row("count(4)", hall.count(4));
    }

    private void addOneOfEach(int boulders) {
        row("grade(1)", hall.grade(1));
        row("kind(1, 16, 0, 0, 0)", hall.kind(1, 16, 0, 0, 0));
        row("man(1)", hall.man(1));
        row("boulder(0, 8, 0)", hall.boulder(0, 8, 0));
        row("rest(" + boulders + ", 0)", hall.rest(boulders, 0));
    }
}
