import java.util.function.Consumer;
import java.util.function.Supplier;

/** Promises 1, 5 to 9, 15 to 17 and 21: each sentence that names a boundary case. */
public final class EdgesOfThingsTest {
    private static final Supplier<StoneHall> NEW = StoneHall::new;
    private static final Supplier<StoneHall> BUSY = Scenes::busy;
    private static final Supplier<StoneHall> FULL = Scenes::full;

    public static void main(String[] args) {
        scenesShowTheirDifferences();
        atMost512Calls();
        aNewObjectIsEmpty();
        gradesAtMostFour();
        worthsFrom0To999();
        kindsAtMostThree();
        priorsFrom1To99();
        weightsSixteenTogether();
        weightsOfGradesThatThereAreNot();
        menAtMostEight();
        pursesFrom0To999999();
        pursesNeverBelow0();
        bouldersAtMostTen();
        slicesFrom1To8();
        bouldersOfMenAndGradesThatThereAre();
        bitsBeyondItsSlices();
        allShutAtFirst();
        partsSixteenTogether();
        shareOfNoSuchOnes();
        shareOfWhatHeHas();
        lookOfNoSuchBoulder();
        lookOfNoSuchWhat();
        lookWhetherSpent();
        partsOfNoSuchOnes();
        purseOfNoSuchMan();
        countOfEach();
        countOfAnotherWhat();
        coinsOfTheHall();
        Check.end();
    }

    private static void scenesShowTheirDifferences() {
        Edge.says("Not promised", "How the state is held inside the object is free");
        differs("the first one's bid", x -> x.bid(1, 0, 91));
        differs("the second one's bid", x -> x.bid(3, 0, 89));
        differs("the third one's bid", x -> x.bid(2, 0, 6));
        differs("a part", x -> x.share(0, 0, 1, 1));
        differs("twenty bytes", x -> x.feed(0x20202020, 0x20202020, 0x20202020, 0x20202020, 0x20202020));
        differs("customs", x -> x.customs(40));
        differs("no customs", x -> x.customs(0));
        differs("a slice", x -> x.cut(0));
        differs("a sale", x -> x.open(1));
        differs("the HALL's coins", x -> x.sell(1));
        differs("a grade", x -> x.grade(0));
        differs("a kind", x -> x.kind(1, 8, 8, 0, 0));
        differs("a man", x -> x.man(0));
        differs("a boulder", x -> x.boulder(0, 1, 0));
        Edge.alike("two of the same", BUSY, BUSY);
        Edge.alike("two of the same, full", FULL, FULL);
    }

    // a picture that shows no such difference would prove nothing of a refused call
    private static void differs(String name, Consumer<StoneHall> change) {
        Edge.differ(name, BUSY, () -> {
            StoneHall x = Scenes.busy();
            change.accept(x);
            return x;
        });
    }

    private static void atMost512Calls() {
        Edge.says("What it is", "An object is used for at most 512 calls after it has been made; what later calls answer is free.");
        StoneHall shares = Scenes.with("", 5, 5);
        int made = 6;
        for (int call = made + 1; call < 511; call += 2) {
            Edge.due("call " + call, shares.share(0, 0, 1, 16), true);
            Edge.due("call " + (call + 1), shares.share(0, 1, 0, 16), true);
        }
        Edge.due("call 511", shares.share(0, 0, 1, 16), true);
        Edge.due("call 512", shares.parts(0, 1), 16);
        StoneHall bids = Scenes.with("", 5, 99999);
        for (int call = made + 1; call <= 510; call++) {
            Edge.due("call " + call, bids.bid(1, 0, call), 1);
        }
        Edge.due("call 511", bids.open(0), 1);
        Edge.due("call 512", bids.purse(1), 99999 - 510);
        StoneHall tapes = new StoneHall();
        for (int call = 1; call <= 511; call++) {
            Edge.due("call " + call, tapes.feed(0, 0, 0, 0, 0), call <= 20 ? 20 * call : -1);
        }
        Edge.due("call 512", tapes.customs(400), -1);
    }

    private static void aNewObjectIsEmpty() {
        Edge.says("Promise 1", "No GRADES, KINDS, MEN, BOULDERS, CUSTOMS; an empty TAPE.");
        Edge.answers(NEW, "count(0)", x -> x.count(0), 0);
        Edge.answers(NEW, "count(1)", x -> x.count(1), 0);
        Edge.answers(NEW, "count(2)", x -> x.count(2), 0);
        Edge.answers(NEW, "count(3)", x -> x.count(3), 0);
        Edge.answers(NEW, "count(4)", x -> x.count(4), 0);
        Edge.answers(NEW, "customs(0)", x -> x.customs(0), 0);
        Edge.answers(NEW, "feed", x -> x.feed(1, 2, 3, 4, 5), 20);
        Edge.refuses(NEW, "customs(1)", x -> x.customs(1), -2);
        Edge.refuses(NEW, "kind(1, 16, 0, 0, 0)", x -> x.kind(1, 16, 0, 0, 0), -1);
        Edge.refuses(NEW, "boulder(0, 1, 0)", x -> x.boulder(0, 1, 0), -1);
        Edge.refuses(NEW, "share(0, 0, 1, 1)", x -> x.share(0, 0, 1, 1) ? 1 : 0, 0);
        Edge.refuses(NEW, "bid(0, 0, 1)", x -> x.bid(0, 0, 1), -1);
        Edge.refuses(NEW, "open(0)", x -> x.open(0), -2);
        Edge.refuses(NEW, "cut(0)", x -> x.cut(0), -1);
        Edge.refuses(NEW, "sell(0)", x -> x.sell(0), -1);
        Edge.refuses(NEW, "look(0, 0)", x -> Check.look(x, 0, 0), -101);
        Edge.refuses(NEW, "parts(0, 0)", x -> x.parts(0, 0), -1);
        Edge.refuses(NEW, "purse(0)", x -> x.purse(0), -1);
        Edge.refuses(NEW, "rest(0, 0)", x -> x.rest(0, 0), -1);
        Edge.refuses(NEW, "best(0, 0)", x -> x.best(0, 0), Long.MIN_VALUE);
        Edge.refuses(NEW, "likely(0, 0, 0)", x -> x.likely(0, 0, 0), -1);
    }

    private static void gradesAtMostFour() {
        Edge.says("Terms", "GRADES of slices, at most 4, numbered from 0 on");
        StoneHall x = new StoneHall();
        for (int grade = 0; grade < 4; grade++) {
            Edge.due("grade " + grade, x.grade(5), grade);
            Edge.due("how many", x.count(0), grade + 1);
        }
        Edge.due("the fifth", x.grade(5), -1);
        Edge.due("how many", x.count(0), 4);
        Edge.says("Promise 5", "or there are 4.");
        Edge.refuses(FULL, "grade(0)", h -> h.grade(0), -1);
        Edge.refuses(FULL, "grade(999)", h -> h.grade(999), -1);
    }

    private static void worthsFrom0To999() {
        Edge.says("Promise 5", "A GRADE: its number; NONE: no such WORTH");
        Edge.answers(BUSY, "grade(0)", x -> x.grade(0), 2);
        Edge.answers(BUSY, "grade(999)", x -> x.grade(999), 2);
        Edge.refuses(BUSY, "grade(-1)", x -> x.grade(-1), -1);
        Edge.refuses(BUSY, "grade(1000)", x -> x.grade(1000), -1);
        for (int far : Scenes.FAR) {
            Edge.refuses(BUSY, "grade(" + far + ")", x -> x.grade(far), -1);
        }
        Edge.says("Terms", "each with a WORTH (0 .. 999).");
        Edge.answers(BUSY, "a slice of the greatest WORTH", x -> purseBehindACut(x, 999), 999);
        Edge.answers(BUSY, "a slice of the least WORTH", x -> purseBehindACut(x, 0), 0);
    }

    private static int purseBehindACut(StoneHall x, int worth) {
        int grade = x.grade(worth);
        int man = x.man(3);
        int boulder = x.boulder(man, 1, grade);
        x.cut(boulder);
        return x.purse(man);
    }

    private static void kindsAtMostThree() {
        Edge.says("Terms", "KINDS of boulders, at most 3");
        StoneHall x = new StoneHall();
        x.grade(1);
        for (int kind = 0; kind < 3; kind++) {
            Edge.due("kind " + kind, x.kind(1, 16, 0, 0, 0), kind);
            Edge.due("how many", x.count(1), kind + 1);
        }
        Edge.due("the fourth", x.kind(1, 16, 0, 0, 0), -1);
        Edge.due("how many", x.count(1), 3);
        Edge.says("Promise 6", "A KIND: its number; NONE: it can't be, or there are 3.");
        Edge.refuses(FULL, "kind(1, 16, 0, 0, 0)", h -> h.kind(1, 16, 0, 0, 0), -1);
        Edge.refuses(FULL, "kind(99, 4, 4, 4, 4)", h -> h.kind(99, 4, 4, 4, 4), -1);
    }

    private static void priorsFrom1To99() {
        Edge.says("Terms", "a PRIOR (1 .. 99)");
        Edge.answers(BUSY, "kind(1, ..)", x -> x.kind(1, 8, 8, 0, 0), 2);
        Edge.answers(BUSY, "kind(99, ..)", x -> x.kind(99, 8, 8, 0, 0), 2);
        Edge.refuses(BUSY, "kind(0, ..)", x -> x.kind(0, 8, 8, 0, 0), -1);
        Edge.refuses(BUSY, "kind(100, ..)", x -> x.kind(100, 8, 8, 0, 0), -1);
        Edge.refuses(BUSY, "kind(-1, ..)", x -> x.kind(-1, 8, 8, 0, 0), -1);
        for (int far : Scenes.FAR) {
            Edge.refuses(BUSY, "kind(" + far + ", ..)", x -> x.kind(far, 8, 8, 0, 0), -1);
        }
        // 99 among 1 + 3 + 99
        Edge.answers(BUSY, "as likely as the greatest PRIOR", x -> x.likely(0, x.kind(99, 8, 8, 0, 0), 0), 99);
    }

    private static void weightsSixteenTogether() {
        Edge.says("Terms", "a WEIGHT for each of four GRADES (0 and more, 16 together;");
        Edge.answers(BUSY, "16 and 0", x -> x.kind(1, 16, 0, 0, 0), 2);
        Edge.answers(BUSY, "0 and 16", x -> x.kind(1, 0, 16, 0, 0), 2);
        Edge.answers(BUSY, "1 and 15", x -> x.kind(1, 1, 15, 0, 0), 2);
        Edge.refuses(BUSY, "15 together", x -> x.kind(1, 15, 0, 0, 0), -1);
        Edge.refuses(BUSY, "17 together", x -> x.kind(1, 1, 16, 0, 0), -1);
        Edge.refuses(BUSY, "none", x -> x.kind(1, 0, 0, 0, 0), -1);
        Edge.refuses(BUSY, "-1 and 17", x -> x.kind(1, -1, 17, 0, 0), -1);
        Edge.refuses(BUSY, "17 and -1", x -> x.kind(1, 17, -1, 0, 0), -1);
        Edge.refuses(BUSY, "a sum that wraps round to 16", x -> x.kind(1, Integer.MIN_VALUE, Integer.MIN_VALUE + 16, 0, 0), -1);
        Supplier<StoneHall> four = EdgesOfThingsTest::fourGrades;
        Edge.answers(four, "one of each four", x -> x.kind(1, 4, 4, 4, 4), 0);
        Edge.answers(four, "all of the last", x -> x.kind(1, 0, 0, 0, 16), 0);
        Edge.refuses(four, "15 together", x -> x.kind(1, 4, 4, 4, 3), -1);
        Edge.refuses(four, "17 together", x -> x.kind(1, 4, 4, 5, 4), -1);
        Edge.refuses(four, "the third below 0", x -> x.kind(1, 8, 8, -1, 1), -1);
        Edge.refuses(four, "the fourth below 0", x -> x.kind(1, 8, 8, 1, -1), -1);
        Edge.refuses(four, "four that wrap round to 16", x -> x.kind(1, 1 << 30, 1 << 30, 1 << 30, (1 << 30) + 16), -1);
        Edge.refuses(four, "three that wrap round to 16", x -> x.kind(1, Integer.MAX_VALUE, Integer.MAX_VALUE, 18, 0), -1);
    }

    private static StoneHall fourGrades() {
        StoneHall x = new StoneHall();
        for (int worth = 1; worth <= 4; worth++) {
            x.grade(worth);
        }
        return x;
    }

    private static void weightsOfGradesThatThereAreNot() {
        Edge.says("Terms", "0 for GRADES that there are not).");
        for (int grades = 0; grades < 4; grades++) {
            int there = grades;
            Supplier<StoneHall> scene = () -> gradesOnly(there);
            int[] inside = new int[4];
            int[] outside = new int[4];
            inside[Math.max(0, there - 1)] = 16;
            outside[there] = 16;
            Edge.answers(scene, "16 for the last of " + there, x -> kindOf(x, inside), there == 0 ? -1 : 0);
            Edge.refuses(scene, "16 for the one behind the last of " + there, x -> kindOf(x, outside), -1);
            outside[there] = 1;
            outside[0] += 15;
            Edge.refuses(scene, "1 for the one behind the last of " + there, x -> kindOf(x, outside), -1);
        }
        Edge.refuses(BUSY, "-1 for one that there is not", x -> x.kind(1, 16, 1, -1, 0), -1);
        Edge.refuses(BUSY, "1 for the fourth", x -> x.kind(1, 8, 7, 0, 1), -1);
        StoneHall later = Scenes.busy();
        Edge.due("ahead of the GRADE", later.kind(1, 8, 7, 1, 0), -1);
        later.grade(3);
        Edge.due("behind the GRADE", later.kind(1, 8, 7, 1, 0), 2);
    }

    private static StoneHall gradesOnly(int grades) {
        StoneHall x = new StoneHall();
        for (int grade = 0; grade < grades; grade++) {
            x.grade(1);
        }
        return x;
    }

    private static int kindOf(StoneHall x, int[] w) {
        return x.kind(1, w[0], w[1], w[2], w[3]);
    }

    private static void menAtMostEight() {
        Edge.says("Terms", "MEN, at most 8");
        StoneHall x = new StoneHall();
        for (int man = 0; man < 8; man++) {
            Edge.due("man " + man, x.man(man), man);
            Edge.due("how many", x.count(2), man + 1);
        }
        Edge.due("the ninth", x.man(5), -1);
        Edge.due("how many", x.count(2), 8);
        Edge.due("the last one's purse", x.purse(7), 7);
        Edge.says("Promise 7", "or there are 8.");
        Edge.refuses(FULL, "man(0)", h -> h.man(0), -1);
        Edge.refuses(FULL, "man(999999)", h -> h.man(999999), -1);
    }

    private static void pursesFrom0To999999() {
        Edge.says("Promise 7", "A MAN: the number; NONE: no such PURSE");
        Edge.answers(BUSY, "man(0)", x -> x.man(0), 4);
        Edge.answers(BUSY, "man(999999)", x -> x.man(999999), 4);
        Edge.refuses(BUSY, "man(-1)", x -> x.man(-1), -1);
        Edge.refuses(BUSY, "man(1000000)", x -> x.man(1000000), -1);
        Edge.refuses(BUSY, "man(MIN)", x -> x.man(Integer.MIN_VALUE), -1);
        Edge.refuses(BUSY, "man(MAX)", x -> x.man(Integer.MAX_VALUE), -1);
        Edge.says("Terms", "with PURSES (0 .. 999999 at first; below 0 they never come).");
        Edge.answers(BUSY, "the least purse", x -> x.purse(x.man(0)), 0);
        Edge.answers(BUSY, "the greatest purse", x -> x.purse(x.man(999999)), 999999);
        StoneHall rich = Scenes.with("", 999999);
        rich.cut(0);
        Edge.due("more than 999999, not at first", rich.purse(0), 1000009);
        StoneHall most = Scenes.with("", 999999, 999999);
        most.bid(1, 0, 99999);
        Edge.due("a price on top of it", most.open(0), 1);
        Edge.due("more than 999999, not at first", most.purse(0), 1099998);
        Edge.due("the other", most.purse(1), 900000);
    }

    private static void pursesNeverBelow0() {
        Edge.says("Terms", "below 0 they never come");
        StoneHall price = Scenes.with("", 0, 60);
        price.bid(1, 0, 60);
        Edge.due("all he has for a price", price.open(0), 1);
        Edge.due("just 0", price.purse(1), 0);
        StoneHall deposit = Scenes.with("deposit 50;", 0, 60);
        deposit.bid(1, 0, 121);
        Edge.due("all he has for a deposit", deposit.open(0), -1);
        Edge.due("just 0", deposit.purse(1), 0);
        StoneHall cost = Scenes.with("cost 60;", 60);
        Edge.due("all he has for a cost", cost.cut(0), 0);
        Edge.due("just its worth", cost.purse(0), 10);
        Edge.due("not enough for the next", cost.cut(0), -1);
        Edge.due("the same", cost.purse(0), 10);
    }

    private static void bouldersAtMostTen() {
        Edge.says("Terms", "BOULDERS, at most 10");
        StoneHall x = Scenes.with("", 5);
        for (int boulder = 1; boulder < 10; boulder++) {
            Edge.due("boulder " + boulder, x.boulder(0, 1, 0), boulder);
            Edge.due("how many", x.count(3), boulder + 1);
        }
        Edge.due("the eleventh", x.boulder(0, 1, 0), -1);
        Edge.due("how many", x.count(3), 10);
        for (int boulder = 0; boulder < 10; boulder++) {
            Edge.due("spent", x.sell(boulder), 0);
        }
        Edge.due("the eleventh, when all are spent", x.boulder(0, 1, 0), -1);
        Edge.says("Promise 8", "or there are 10.");
        Edge.refuses(FULL, "boulder(0, 1, 0)", h -> h.boulder(0, 1, 0), -1);
        Edge.refuses(FULL, "boulder(7, 8, 3)", h -> h.boulder(7, 8, 3), -1);
    }

    private static void slicesFrom1To8() {
        Edge.says("Terms", "1 .. 8 slices");
        Edge.answers(BUSY, "1 slice", x -> x.boulder(0, 1, 0), 4);
        Edge.answers(BUSY, "8 slices", x -> x.boulder(0, 8, 0), 4);
        Edge.answers(BUSY, "8 are told", x -> Check.look(x, x.boulder(0, 8, 0), 0), 8);
        Edge.refuses(BUSY, "0 slices", x -> x.boulder(0, 0, 0), -1);
        Edge.refuses(BUSY, "9 slices", x -> x.boulder(0, 9, 0), -1);
        Edge.refuses(BUSY, "-1 slices", x -> x.boulder(0, -1, 0), -1);
        for (int far : Scenes.FAR) {
            Edge.refuses(BUSY, far + " slices", x -> x.boulder(0, far, 0), -1);
        }
    }

    private static void bouldersOfMenAndGradesThatThereAre() {
        Edge.says("Promise 8", "A BOULDER: its number; NONE: no such man, slices, GRADES");
        Edge.answers(BUSY, "the first man", x -> x.boulder(0, 1, 0), 4);
        Edge.answers(BUSY, "the last man", x -> x.boulder(3, 1, 0), 4);
        Edge.refuses(BUSY, "a man behind the last", x -> x.boulder(4, 1, 0), -1);
        Edge.refuses(BUSY, "man -1", x -> x.boulder(-1, 1, 0), -1);
        for (int far : Scenes.FAR) {
            Edge.refuses(BUSY, "man " + far, x -> x.boulder(far, 1, 0), -1);
        }
        for (int slice = 0; slice < 8; slice++) {
            int shift = 2 * slice;
            Edge.answers(BUSY, "the last GRADE in slice " + slice, x -> x.boulder(0, 8, 1 << shift), 4);
            Edge.refuses(BUSY, "a GRADE behind the last in slice " + slice, x -> x.boulder(0, 8, 2 << shift), -1);
            Edge.refuses(BUSY, "GRADE 3 in slice " + slice, x -> x.boulder(0, 8, 3 << shift), -1);
        }
        Supplier<StoneHall> menOnly = () -> {
            StoneHall x = new StoneHall();
            x.man(1);
            return x;
        };
        Edge.refuses(menOnly, "without GRADES", x -> x.boulder(0, 1, 0), -1);
    }

    private static void bitsBeyondItsSlices() {
        Edge.says("Promise 8", "(Bits beyond its slices aren't looked at.)");
        for (int slices = 1; slices <= 8; slices++) {
            int many = slices;
            Edge.answers(BUSY, "GRADE 3 behind " + many + " slices", x -> x.boulder(0, many, 3 << 2 * many), 4);
            Edge.answers(BUSY, "all bits behind " + many + " slices", x -> x.boulder(0, many, -1 << 2 * many), 4);
            Edge.refuses(BUSY, "GRADE 3 in the last of " + many, x -> x.boulder(0, many, 3 << 2 * (many - 1)), -1);
        }
        Edge.answers(BUSY, "the highest bit", x -> x.boulder(0, 8, Integer.MIN_VALUE), 4);
        Edge.alike("whatever they are", () -> threeSlices(-1 << 6 | 0b01_00_01), () -> threeSlices(0b01_00_01));
        Edge.differ("but not those of its slices", () -> threeSlices(0b01_00_01), () -> threeSlices(0b01_01_01));
    }

    private static StoneHall threeSlices(int inside) {
        StoneHall x = Scenes.busy();
        Edge.due("three slices", x.boulder(1, 3, inside), 4);
        return x;
    }

    private static void allShutAtFirst() {
        Edge.says("Terms", "what each is of (told when it comes, two bits a slice, the first one lowest; GRADES that there are), all SHUT at first");
        StoneHall x = fourGrades();
        x.man(0);
        Edge.due("boulder", x.boulder(0, 8, 0b11_00_10_01_00_01_10_11), 0);
        Edge.due("none seen", x.look(0, 1), 0);
        Edge.due("not spent", x.look(0, 2), 0);
        int[] grades = {3, 2, 1, 0, 1, 2, 0, 3};
        for (int slice = 0; slice < 8; slice++) {
            Edge.due("slice " + slice, x.cut(0), grades[slice]);
            Edge.due("seen", x.look(0, 1), slice + 1);
        }
        Edge.due("no ninth", x.cut(0), -1);
    }

    private static void partsSixteenTogether() {
        Edge.says("Terms", "its owners' PARTS, 16 together (the one who brings it has all).");
        StoneHall x = Scenes.full();
        for (int man = 0; man < 8; man++) {
            Edge.due("parts of " + man, x.parts(9, man), man == 7 ? 16 : 0);
        }
        for (int man = 0; man < 7; man++) {
            Edge.due("2 parts", x.share(9, 7, man, 2), true);
        }
        for (int man = 0; man < 8; man++) {
            Edge.due("parts of " + man, x.parts(9, man), 2);
        }
    }

    private static void shareOfNoSuchOnes() {
        Edge.says("Promise 9", "PARTS of a BOULDER go from one man to another, for nothing: true; false: no such ones (or spent), both the same");
        Edge.answers(BUSY, "boulder 0", x -> share(x, 0, 0, 1, 1), 1);
        Edge.answers(FULL, "the last boulder and man", x -> share(x, 9, 7, 6, 1), 1);
        Edge.refuses(BUSY, "no such boulder", x -> share(x, 4, 0, 1, 1), 0);
        Edge.refuses(BUSY, "boulder -1", x -> share(x, -1, 0, 1, 1), 0);
        Edge.refuses(FULL, "boulder 10", x -> share(x, 10, 0, 1, 1), 0);
        Edge.refuses(BUSY, "no such from", x -> share(x, 0, 4, 1, 1), 0);
        Edge.refuses(BUSY, "from -1", x -> share(x, 0, -1, 1, 1), 0);
        Edge.refuses(FULL, "from 8", x -> share(x, 0, 8, 1, 1), 0);
        Edge.refuses(BUSY, "no such to", x -> share(x, 0, 0, 4, 1), 0);
        Edge.refuses(BUSY, "to -1", x -> share(x, 0, 0, -1, 1), 0);
        Edge.refuses(FULL, "to 8", x -> share(x, 0, 0, 8, 1), 0);
        for (int far : Scenes.FAR) {
            Edge.refuses(BUSY, "boulder " + far, x -> share(x, far, 0, 1, 1), 0);
            Edge.refuses(BUSY, "from " + far, x -> share(x, 0, far, 1, 1), 0);
            Edge.refuses(BUSY, "to " + far, x -> share(x, 0, 0, far, 1), 0);
        }
        Edge.refuses(BUSY, "sold to the HALL", x -> share(x, 2, 3, 0, 1), 0);
        Edge.refuses(BUSY, "cut to the end", x -> share(x, 3, 3, 0, 1), 0);
        Edge.refuses(BUSY, "to himself", x -> share(x, 0, 0, 0, 1), 0);
        Edge.refuses(BUSY, "all to himself", x -> share(x, 0, 0, 0, 16), 0);
        StoneHall nothing = Scenes.with("tax 50;cost 3;", 7, 8);
        nothing.share(0, 0, 1, 9);
        Edge.due("for nothing", nothing.purse(0) * 10 + nothing.purse(1), 78);
        Edge.due("for nothing to the HALL", nothing.count(4), 0);
    }

    private static void shareOfWhatHeHas() {
        Edge.says("Promise 9", "not 1 .. what he has.");
        Edge.answers(BUSY, "1 of 16", x -> share(x, 0, 0, 1, 1), 1);
        Edge.answers(BUSY, "16 of 16", x -> share(x, 0, 0, 1, 16), 1);
        Edge.answers(BUSY, "5 of 5", x -> share(x, 1, 0, 1, 5), 1);
        Edge.refuses(BUSY, "0", x -> share(x, 0, 0, 1, 0), 0);
        Edge.refuses(BUSY, "-1", x -> share(x, 0, 0, 1, -1), 0);
        Edge.refuses(BUSY, "17 of 16", x -> share(x, 0, 0, 1, 17), 0);
        Edge.refuses(BUSY, "6 of 5", x -> share(x, 1, 0, 1, 6), 0);
        Edge.refuses(BUSY, "1 of none", x -> share(x, 1, 2, 1, 1), 0);
        Edge.refuses(BUSY, "0 of none", x -> share(x, 1, 2, 1, 0), 0);
        for (int far : Scenes.FAR) {
            Edge.refuses(BUSY, far + " parts", x -> share(x, 0, 0, 1, far), 0);
        }
    }

    private static int share(StoneHall x, int boulder, int from, int to, int parts) {
        return x.share(boulder, from, to, parts) ? 1 : 0;
    }

    private static void lookOfNoSuchBoulder() {
        Edge.says("Promise 15", "IndexOutOfBoundsException: no such BOULDER.");
        Edge.answers(BUSY, "look(0, 0)", x -> Check.look(x, 0, 0), 4);
        Edge.answers(BUSY, "look(3, 0)", x -> Check.look(x, 3, 0), 1);
        Edge.answers(FULL, "look(9, 0)", x -> Check.look(x, 9, 0), 8);
        Edge.refuses(BUSY, "look(4, 0)", x -> Check.look(x, 4, 0), -101);
        Edge.refuses(BUSY, "look(-1, 0)", x -> Check.look(x, -1, 0), -101);
        Edge.refuses(FULL, "look(10, 0)", x -> Check.look(x, 10, 0), -101);
        for (int far : Scenes.FAR) {
            Edge.refuses(BUSY, "look(" + far + ", 0)", x -> Check.look(x, far, 0), -101);
        }
        Edge.refuses(BUSY, "neither such a boulder nor such a what", x -> Check.look(x, 4, 4), -101);
    }

    private static void lookOfNoSuchWhat() {
        Edge.says("Promise 15", "NoSuchElementException: no such what.");
        Edge.answers(BUSY, "look(0, 3)", x -> Check.look(x, 0, 3), 3);
        Edge.refuses(BUSY, "look(0, 4)", x -> Check.look(x, 0, 4), -102);
        Edge.refuses(BUSY, "look(0, -1)", x -> Check.look(x, 0, -1), -102);
        Edge.refuses(BUSY, "look(2, 4) of a spent one", x -> Check.look(x, 2, 4), -102);
        for (int far : Scenes.FAR) {
            Edge.refuses(BUSY, "look(0, " + far + ")", x -> Check.look(x, 0, far), -102);
        }
    }

    private static void lookWhetherSpent() {
        Edge.says("Promise 15", "Of a BOULDER, what 0: slices, 1: seen, 2: whether spent (also sold to the HALL), 3: bids on it.");
        lookIs(Scenes.busy(), 0, 4, 0, 0, 3);
        lookIs(Scenes.busy(), 1, 3, 1, 0, 2);
        lookIs(Scenes.busy(), 2, 2, 0, 1, 0);
        lookIs(Scenes.busy(), 3, 1, 1, 1, 0);
        StoneHall x = Scenes.busy();
        x.cut(1);
        lookIs(x, 1, 3, 2, 0, 2);
        x.sell(1);
        Edge.due("slices", x.look(1, 0), 3);
        Edge.due("seen", x.look(1, 1), 2);
        Edge.due("spent", x.look(1, 2), 1);
    }

    private static void lookIs(StoneHall x, int boulder, int slices, int seen, int spent, int bids) {
        Edge.due("slices of " + boulder, x.look(boulder, 0), slices);
        Edge.due("seen of " + boulder, x.look(boulder, 1), seen);
        Edge.due("whether spent is " + boulder, x.look(boulder, 2), spent);
        Edge.due("bids on " + boulder, x.look(boulder, 3), bids);
    }

    private static void partsOfNoSuchOnes() {
        Edge.says("Promise 16", "PARTS of a man; NONE: no such ones.");
        Edge.answers(BUSY, "parts(0, 0)", x -> x.parts(0, 0), 16);
        Edge.answers(BUSY, "parts(1, 0)", x -> x.parts(1, 0), 5);
        Edge.answers(BUSY, "parts(1, 1)", x -> x.parts(1, 1), 11);
        Edge.answers(BUSY, "parts(0, 3) of one who has none", x -> x.parts(0, 3), 0);
        Edge.answers(BUSY, "parts(3, 3) of a spent one", x -> x.parts(3, 3), 16);
        Edge.answers(BUSY, "parts(2, 3) of one sold to the HALL", x -> x.parts(2, 3), 16);
        Edge.answers(FULL, "parts(9, 7)", x -> x.parts(9, 7), 16);
        Edge.refuses(BUSY, "parts(4, 0)", x -> x.parts(4, 0), -1);
        Edge.refuses(BUSY, "parts(-1, 0)", x -> x.parts(-1, 0), -1);
        Edge.refuses(BUSY, "parts(0, 4)", x -> x.parts(0, 4), -1);
        Edge.refuses(BUSY, "parts(0, -1)", x -> x.parts(0, -1), -1);
        Edge.refuses(FULL, "parts(10, 7)", x -> x.parts(10, 7), -1);
        Edge.refuses(FULL, "parts(9, 8)", x -> x.parts(9, 8), -1);
        for (int far : Scenes.FAR) {
            Edge.refuses(BUSY, "parts(" + far + ", 0)", x -> x.parts(far, 0), -1);
            Edge.refuses(BUSY, "parts(0, " + far + ")", x -> x.parts(0, far), -1);
        }
    }

    private static void purseOfNoSuchMan() {
        Edge.says("Promise 17", "A PURSE; NONE: no such man.");
        StoneHall x = new StoneHall();
        x.man(11);
        x.man(22);
        Edge.due("purse(0)", x.purse(0), 11);
        Edge.due("purse(1)", x.purse(1), 22);
        Edge.due("purse(2)", x.purse(2), -1);
        Edge.answers(FULL, "purse(7)", h -> h.purse(7), 70);
        Edge.refuses(FULL, "purse(8)", h -> h.purse(8), -1);
        Edge.refuses(BUSY, "purse(4)", h -> h.purse(4), -1);
        Edge.refuses(BUSY, "purse(-1)", h -> h.purse(-1), -1);
        for (int far : Scenes.FAR) {
            Edge.refuses(BUSY, "purse(" + far + ")", h -> h.purse(far), -1);
        }
    }

    private static void countOfEach() {
        Edge.says("Promise 21", "0 GRADES, 1 KINDS, 2 MEN, 3 BOULDERS, 4 coins of the HALL");
        StoneHall x = new StoneHall();
        countsAre(x, 0, 0, 0, 0);
        x.grade(1);
        countsAre(x, 1, 0, 0, 0);
        x.kind(1, 16, 0, 0, 0);
        countsAre(x, 1, 1, 0, 0);
        x.man(1);
        countsAre(x, 1, 1, 1, 0);
        x.boulder(0, 1, 0);
        countsAre(x, 1, 1, 1, 1);
        x.sell(0);
        countsAre(x, 1, 1, 1, 1);
    }

    private static void countsAre(StoneHall x, int grades, int kinds, int men, int boulders) {
        Edge.due("GRADES", x.count(0), grades);
        Edge.due("KINDS", x.count(1), kinds);
        Edge.due("MEN", x.count(2), men);
        Edge.due("BOULDERS", x.count(3), boulders);
        Edge.due("coins", x.count(4), 0);
    }

    private static void countOfAnotherWhat() {
        Edge.says("Promise 21", "-1000000000 for another what.");
        Edge.answers(FULL, "count(0)", x -> x.count(0), 4);
        Edge.answers(FULL, "count(1)", x -> x.count(1), 3);
        Edge.answers(FULL, "count(2)", x -> x.count(2), 8);
        Edge.answers(FULL, "count(3)", x -> x.count(3), 10);
        Edge.refuses(BUSY, "count(5)", x -> x.count(5), -1000000000);
        Edge.refuses(BUSY, "count(-1)", x -> x.count(-1), -1000000000);
        for (int far : Scenes.FAR) {
            Edge.refuses(BUSY, "count(" + far + ")", x -> x.count(far), -1000000000);
        }
    }

    private static void coinsOfTheHall() {
        Edge.says("Promise 21", "4 coins of the HALL (taxes and costs less what it paid for rests).");
        StoneHall x = Scenes.with("tax 10;cost 7;offer 0 9;", 100, 100);
        Edge.due("at first", x.count(4), 0);
        x.bid(1, 0, 60);
        x.open(0);
        Edge.due("a tax", x.count(4), 6);
        x.cut(0);
        Edge.due("and a cost", x.count(4), 13);
        Edge.due("three slices", x.sell(0), 27);
        Edge.due("less the rest, below 0", x.count(4), -14);
    }
}
