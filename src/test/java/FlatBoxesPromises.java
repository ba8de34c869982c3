import java.util.function.Supplier;

/** Each promise by itself: ordinary calls, the document's edges, wrong calls; the answers are worked out by hand. */
public final class FlatBoxesPromises {
    private static final String STATE = "throws.IllegalStateException";
    private static final String ARGUMENT = "throws.IllegalArgumentException";
    private static final String INDEX = "throws.IndexOutOfBoundsException";
    private static final int LEAST = Integer.MIN_VALUE;
    private static final int MOST = Integer.MAX_VALUE;
    private static int wrong = 0;

    public static void main(String[] args) {
        newObject();
        carton();
        part();
        fragile();
        fits();
        fitsByLayers();
        run();
        runOfSeveral();
        at();
        atFromBelow();
        box();
        cost();
        manual();
        bag();
        into();
        counted();
        countedWithOneLess();
        raised();
        pallets();
        toldAndForgotten();
        throwingChangesNothing();
        exampleOfReadme();
        System.out.println(wrong == 0 ? "all promises hold" : wrong + " answers are not as promised");
        if (wrong != 0) {
            System.exit(1);
        }
    }

    private static void due(String what, Object want, Supplier<Object> call) {
        String got;
        try {
            got = String.valueOf(call.get());
        } catch (RuntimeException e) {
            got = "throws." + e.getClass().getSimpleName();
        }
        if (!got.equals(String.valueOf(want))) {
            wrong++;
            System.out.println(what + " answered " + got + ", due is " + want);
        }
    }

    private static void dueAt(FlatBoxes x, int part, int... want) {
        for (int what = 0; what < want.length; what++) {
            int w = what;
            due("at(" + part + ", " + what + ")", want[what], () -> x.at(part, w));
        }
    }

    private static void dueBox(FlatBoxes x, int box, int... want) {
        for (int what = 0; what < want.length; what++) {
            int w = what;
            due("box(" + box + ", " + what + ")", want[what], () -> x.box(box, w));
        }
    }

    /** Promise 1: two parts 10 wide share a layer of a carton just as wide as the gap that is due wants. */
    private static void newObject() {
        int[][] cases = {{LEAST, 0}, {-1, 0}, {0, 0}, {1, 1}, {9, 9}, {10, 10}, {11, 10}, {MOST, 10}};
        for (int[] c : cases) {
            FlatBoxes x = new FlatBoxes(c[0]);
            x.carton(20 + c[1], 10, 1, 1, 100);
            x.carton(19 + c[1], 10, 1, 1, 100);
            x.part(10, 10, 1, 1, 0);
            x.part(10, 10, 1, 1, 0);
            due("gap " + c[0] + ": fits", true, () -> x.fits(0, 3));
            due("gap " + c[0] + ": fits in less", false, () -> x.fits(1, 3));
            x.run();
            due("gap " + c[0] + ": at(1, 2)", 10 + c[1], () -> x.at(1, 2));
        }
        due("NONE", -1, () -> FlatBoxes.NONE);
        FlatBoxes x = new FlatBoxes(3);
        due("new: cost", STATE, x::cost);
        due("new: at", STATE, () -> x.at(0, 0));
        due("new: box", STATE, () -> x.box(0, 0));
        due("new: raised", STATE, () -> x.raised(0, 1));
        due("new: pallets", STATE, () -> x.pallets(1));
        due("new: manual", INDEX, () -> x.manual(0));
        due("new: fragile", INDEX, () -> x.fragile(0, true));
        due("new: fits", INDEX, () -> x.fits(0, 0));
        due("new: into", INDEX, () -> x.into(0, 0, 1, 0));
        due("new: counted", INDEX, () -> x.counted(0, 0));
    }

    /** Promise 2. */
    private static void carton() {
        FlatBoxes x = new FlatBoxes(0);
        int[][] bad = {{0, 1, 1, 1, 1}, {1, 0, 1, 1, 1}, {1, 1, 0, 1, 1}, {1, 1, 1, 0, 1}, {1, 1, 1, 1, 0},
            {101, 1, 1, 1, 1}, {1, 101, 1, 1, 1}, {1, 1, 101, 1, 1}, {1, 1, 1, 100001, 1}, {1, 1, 1, 1, 100001},
            {LEAST, 1, 1, 1, 1}, {1, MOST, 1, 1, 1}, {1, 1, -1, 1, 1}, {1, 1, 1, LEAST, 1}, {1, 1, 1, 1, MOST}};
        dueBadCartons(x, bad);
        due("carton least", 0, () -> x.carton(1, 1, 1, 1, 1));
        due("carton most", 1, () -> x.carton(100, 100, 100, 100000, 100000));
        due("carton 2", 2, () -> x.carton(5, 5, 5, 5, 5));
        due("carton 3", 3, () -> x.carton(5, 5, 5, 5, 5));
        due("carton 4", STATE, () -> x.carton(5, 5, 5, 5, 5));
        dueBadCartons(x, bad);
        x.part(1, 1, 1, 1, 0);
        due("the fifth is not there", INDEX, () -> x.fits(4, 1));
        due("the fourth is there", true, () -> x.fits(3, 1));
    }

    private static void dueBadCartons(FlatBoxes x, int[][] bad) {
        for (int[] b : bad) {
            due("carton" + java.util.Arrays.toString(b), ARGUMENT, () -> x.carton(b[0], b[1], b[2], b[3], b[4]));
        }
    }

    /** Promise 3. */
    private static void part() {
        FlatBoxes x = new FlatBoxes(0);
        int[][] bad = {{0, 1, 1, 1, 0}, {1, 0, 1, 1, 0}, {1, 1, 0, 1, 0}, {1, 1, 1, 0, 0}, {1, 1, 1, 1, -1},
            {101, 1, 1, 1, 0}, {1, 101, 1, 1, 0}, {1, 1, 101, 1, 0}, {1, 1, 1, 50001, 0}, {1, 1, 1, 1, 51},
            {MOST, 1, 1, 1, 0}, {1, LEAST, 1, 1, 0}, {1, 1, MOST, 1, 0}, {1, 1, 1, LEAST, 0}, {1, 1, 1, 1, MOST}};
        dueBadParts(x, bad);
        due("part least", 0, () -> x.part(1, 1, 1, 1, 0));
        due("part most", 1, () -> x.part(100, 100, 100, 50000, 50));
        for (int k = 2; k < 8; k++) {
            due("part " + k, k, () -> x.part(3, 3, 3, 3, 3));
        }
        due("part 8", STATE, () -> x.part(3, 3, 3, 3, 3));
        dueBadParts(x, bad);
        due("the ninth is not there", INDEX, () -> x.manual(8));
        due("the greatest step comes last", 1, () -> x.manual(7));
        x.carton(100, 100, 100, 1, 100000);
        due("the greatest part fits", true, () -> x.fits(0, 2));
    }

    private static void dueBadParts(FlatBoxes x, int[][] bad) {
        for (int[] b : bad) {
            due("part" + java.util.Arrays.toString(b), ARGUMENT, () -> x.part(b[0], b[1], b[2], b[3], b[4]));
        }
    }

    /** Promise 4. */
    private static void fragile() {
        FlatBoxes x = new FlatBoxes(0);
        x.carton(10, 10, 10, 1, 100);
        x.part(10, 10, 1, 1, 0);
        x.part(10, 10, 1, 1, 0);
        for (int part : new int[] {-1, 2, 8, LEAST, MOST}) {
            due("fragile(" + part + ")", INDEX, () -> x.fragile(part, true));
            due("fragile(" + part + ", false)", INDEX, () -> x.fragile(part, false));
        }
        due("not fragile still", false, () -> x.fragile(0, false));
        due("fragile", true, () -> x.fragile(0, true));
        due("fragile still", false, () -> x.fragile(0, true));
        due("one fragile layer", true, () -> x.fits(0, 3));
        due("the other too", true, () -> x.fragile(1, true));
        due("two fragile layers", false, () -> x.fits(0, 3));
        due("no more", true, () -> x.fragile(0, false));
        due("one fragile layer again", true, () -> x.fits(0, 3));
    }

    /** Promise 5: the limits of one part in one carton, and wrong calls. */
    private static void fits() {
        FlatBoxes x = new FlatBoxes(0);
        x.carton(10, 20, 30, 1, 40);
        due("no parts", ARGUMENT, () -> x.fits(0, 1));
        x.part(10, 20, 30, 40, 0);
        x.part(11, 1, 1, 1, 0);
        x.part(1, 21, 1, 1, 0);
        x.part(1, 1, 31, 1, 0);
        x.part(1, 1, 1, 41, 0);
        x.part(20, 10, 1, 1, 0);
        due("just so", true, () -> x.fits(0, 1));
        due("too wide", false, () -> x.fits(0, 2));
        due("too deep", false, () -> x.fits(0, 4));
        due("too thick", false, () -> x.fits(0, 8));
        due("too heavy", false, () -> x.fits(0, 16));
        due("would fit if turned", false, () -> x.fits(0, 32));
        due("none", ARGUMENT, () -> x.fits(0, 0));
        due("one that is not there", ARGUMENT, () -> x.fits(0, 64));
        due("some that are there, one not", ARGUMENT, () -> x.fits(0, 65));
        due("below 0", ARGUMENT, () -> x.fits(0, -1));
        due("the highest bit", ARGUMENT, () -> x.fits(0, LEAST));
        due("all bits but that", ARGUMENT, () -> x.fits(0, MOST));
        for (int carton : new int[] {-1, 1, 4, LEAST, MOST}) {
            due("carton " + carton, INDEX, () -> x.fits(carton, 1));
            due("carton and parts " + carton, INDEX, () -> x.fits(carton, 0));
        }
        due("needs no shares", STATE, x::cost);
    }

    /** Promise 5: which layer a part goes to. */
    private static void fitsByLayers() {
        FlatBoxes x = new FlatBoxes(1);
        x.carton(10, 10, 5, 1, 30);
        x.part(4, 1, 2, 10, 0);
        x.part(8, 1, 3, 10, 0);
        x.part(5, 1, 1, 10, 0);
        due("5 and 1 and 4 are 10 wide", true, () -> x.fits(0, 5));
        due("two layers, 3 and 2 high", true, () -> x.fits(0, 3));
        due("8 wide has no room for 5", true, () -> x.fits(0, 6));
        due("the thinnest goes to the second layer", true, () -> x.fits(0, 7));
        x.part(1, 1, 2, 1, 0);
        due("31 grams", false, () -> x.fits(0, 15));
        due("1 lies beside 8 in the first layer", true, () -> x.fits(0, 11));
        FlatBoxes y = new FlatBoxes(0);
        y.carton(10, 10, 4, 1, 100);
        y.part(5, 1, 2, 1, 0);
        y.part(6, 1, 2, 1, 0);
        y.part(5, 1, 2, 1, 0);
        y.part(4, 1, 2, 1, 0);
        due("of the same by numbers: 5 5, 6 4", true, () -> y.fits(0, 15));
        y.fragile(1, true);
        y.fragile(3, true);
        due("two fragile parts in one layer", true, () -> y.fits(0, 15));
        y.fragile(0, true);
        due("three in two layers", false, () -> y.fits(0, 15));
        FlatBoxes z = new FlatBoxes(0);
        z.carton(10, 10, 4, 1, 100);
        z.part(5, 1, 2, 1, 0);
        z.part(3, 1, 2, 1, 0);
        z.part(5, 1, 2, 1, 0);
        z.part(5, 1, 2, 1, 0);
        z.part(2, 1, 2, 1, 0);
        due("first room, not best room: 5 3 2, 5 5", true, () -> z.fits(0, 31));
        FlatBoxes w = new FlatBoxes(0);
        w.carton(10, 10, 4, 1, 100);
        w.part(4, 1, 2, 1, 0);
        w.part(5, 1, 2, 1, 0);
        w.part(6, 1, 2, 1, 0);
        w.part(5, 1, 2, 1, 0);
        due("4 5, 6, 5: three layers, though two would do", false, () -> w.fits(0, 15));
    }

    /** Promise 6. */
    private static void run() {
        FlatBoxes x = new FlatBoxes(0);
        due("nothing at all", 0, x::run);
        due("that costs nothing", 0, x::cost);
        x.carton(10, 10, 10, 70, 100);
        due("no parts", 0, x::run);
        x.part(10, 10, 10, 100, 0);
        due("one", 1, x::run);
        due("one again", 1, x::run);
        x.part(11, 1, 1, 1, 0);
        due("one that fits no carton", FlatBoxes.NONE, x::run);
        due("no shares then", STATE, x::cost);
        due("none again", FlatBoxes.NONE, x::run);
        x.carton(11, 11, 11, 200, 101);
        due("together", 1, x::run);
        due("70 and 200 would be more", 200, x::cost);
        FlatBoxes y = new FlatBoxes(0);
        y.part(1, 1, 1, 1, 0);
        due("no cartons", FlatBoxes.NONE, y::run);
        due("no shares without cartons", STATE, () -> y.at(0, 0));
        FlatBoxes z = new FlatBoxes(0);
        z.carton(1, 1, 1, 100000, 100000);
        for (int k = 0; k < 8; k++) {
            z.part(1, 1, 1, 50000, 0);
        }
        due("each in its own", 8, z::run);
        due("the dearest", 800000, z::cost);
        dueAt(z, 7, 7, 0, 0, 0);
    }

    /** Promise 6: the least cents, then the fewest boxes, then the least numbers; and a box's carton. */
    private static void runOfSeveral() {
        FlatBoxes x = new FlatBoxes(0);
        x.carton(20, 10, 1, 10, 100);
        x.carton(10, 10, 1, 4, 100);
        x.part(10, 10, 1, 1, 0);
        x.part(10, 10, 1, 1, 0);
        due("two small ones are cheaper", 2, x::run);
        due("at 8", 8, x::cost);
        x.carton(20, 10, 1, 8, 100);
        due("one for as much", 1, x::run);
        dueBox(x, 0, 2, 2, 2, 1, 1);
        x.carton(20, 10, 1, 8, 100);
        x.run();
        dueBox(x, 0, 2);
        FlatBoxes y = new FlatBoxes(0);
        y.carton(10, 10, 2, 5, 100);
        for (int k = 0; k < 5; k++) {
            y.part(10, 10, 1, 1, 0);
        }
        due("two by two", 3, y::run);
        for (int k = 0; k < 5; k++) {
            dueAt(y, k, k / 2);
        }
        // Part 3 has room in both boxes: of several the least number.
        FlatBoxes z = new FlatBoxes(0);
        z.carton(10, 10, 10, 5, 10);
        z.part(10, 10, 1, 9, 0);
        z.part(10, 10, 1, 4, 0);
        z.part(10, 10, 1, 4, 0);
        z.part(10, 10, 1, 1, 0);
        due("two boxes", 2, z::run);
        dueAt(z, 0, 0);
        dueAt(z, 1, 1);
        dueAt(z, 2, 1);
        dueAt(z, 3, 0);
        // One of the parts of 1 gram goes with each box: part 3 comes first, so it gets the lesser number.
        z.part(10, 10, 1, 1, 0);
        due("still two", 2, z::run);
        dueAt(z, 3, 0);
        dueAt(z, 4, 1);
    }

    /** Promise 7. */
    private static void at() {
        FlatBoxes x = new FlatBoxes(2);
        x.carton(12, 10, 10, 5, 100);
        x.part(4, 10, 2, 10, 1);
        x.part(6, 10, 3, 10, 2);
        x.part(10, 10, 10, 91, 0);
        due("two boxes", 2, x::run);
        dueAt(x, 0, 0, 0, 8, 0);
        dueAt(x, 1, 0, 0, 0, 0);
        dueAt(x, 2, 1, 0, 0, 0);
        for (int wrongNumber : new int[] {-1, LEAST, MOST}) {
            due("at part " + wrongNumber, INDEX, () -> x.at(wrongNumber, 0));
            due("at what " + wrongNumber, INDEX, () -> x.at(0, wrongNumber));
        }
        due("at(3, 0)", INDEX, () -> x.at(3, 0));
        due("at(0, 4)", INDEX, () -> x.at(0, 4));
        x.fragile(0, true);
        due("first the state", STATE, () -> x.at(-1, -1));
    }

    /** Promise 7: the order of layers from below, each rule against those behind it. */
    private static void atFromBelow() {
        FlatBoxes x = new FlatBoxes(0);
        x.carton(10, 10, 100, 5, 1001);
        x.part(10, 10, 9, 50, 3);
        x.part(10, 10, 8, 10, 5);
        x.part(10, 10, 7, 20, 5);
        x.part(10, 10, 6, 20, 5);
        x.part(5, 10, 5, 900, 9);
        x.part(5, 10, 5, 1, 0);
        due("one box", 1, x::run);
        dueBox(x, 0, 0, 6, 1001, 5, 35);
        dueAt(x, 2, 0, 0, 0, 0);
        dueAt(x, 3, 0, 1, 0, 7);
        dueAt(x, 1, 0, 2, 0, 13);
        dueAt(x, 0, 0, 3, 0, 21);
        dueAt(x, 4, 0, 4, 0, 30);
        dueAt(x, 5, 0, 4, 5, 30);
        x.fragile(2, true);
        due("one box with fragile parts", 1, x::run);
        dueAt(x, 3, 0, 0, 0, 0);
        dueAt(x, 1, 0, 1, 0, 6);
        dueAt(x, 0, 0, 2, 0, 14);
        dueAt(x, 4, 0, 3, 0, 23);
        dueAt(x, 5, 0, 3, 5, 23);
        dueAt(x, 2, 0, 4, 0, 28);
        x.fragile(2, false);
        x.fragile(5, true);
        due("one of two in a layer is fragile", 1, x::run);
        dueAt(x, 2, 0, 0, 0, 0);
        dueAt(x, 4, 0, 4, 0, 30);
    }

    /** Promise 8. */
    private static void box() {
        FlatBoxes x = new FlatBoxes(1);
        x.carton(9, 10, 10, 7, 1000);
        x.carton(30, 10, 10, 20, 100000);
        x.part(4, 10, 2, 100, 0);
        x.part(4, 10, 3, 200, 0);
        x.part(4, 10, 1, 400, 0);
        x.part(30, 10, 10, 50000, 0);
        due("two boxes", 2, x::run);
        dueBox(x, 0, 0, 3, 700, 2, 4);
        dueBox(x, 1, 1, 1, 50000, 1, 10);
        due("box(2, 0)", INDEX, () -> x.box(2, 0));
        due("box(0, 5)", INDEX, () -> x.box(0, 5));
        for (int wrongNumber : new int[] {-1, LEAST, MOST}) {
            due("box " + wrongNumber, INDEX, () -> x.box(wrongNumber, 0));
            due("box what " + wrongNumber, INDEX, () -> x.box(0, wrongNumber));
        }
        x.part(1, 1, 1, 1, 1);
        due("first the state", STATE, () -> x.box(-1, -1));
        FlatBoxes y = new FlatBoxes(0);
        y.run();
        due("shares without boxes", INDEX, () -> y.box(0, 0));
    }

    /** Promise 9. */
    private static void cost() {
        FlatBoxes x = new FlatBoxes(0);
        due("before a run", STATE, x::cost);
        x.carton(10, 10, 10, 3, 10);
        x.carton(10, 10, 10, 11, 30);
        x.part(1, 1, 1, 10, 0);
        x.part(1, 1, 1, 10, 0);
        x.part(1, 1, 1, 10, 0);
        due("before a run with parts", STATE, x::cost);
        due("three of 3 cents", 3, x::run);
        due("9 cents", 9, x::cost);
        x.part(1, 1, 1, 11, 0);
        due("before the next run", STATE, x::cost);
        due("the heavy one takes one more along", 3, x::run);
        due("3 and 3 and 11", 17, x::cost);
    }

    /** Promise 10. */
    private static void manual() {
        FlatBoxes x = new FlatBoxes(0);
        due("no parts", INDEX, () -> x.manual(0));
        int[] steps = {7, 50, 0, 7, 3, 0, 50, 7};
        int[] places = {2, 5, 4, 0, 3, 7, 1, 6};
        for (int step : steps) {
            x.part(1, 1, 1, 1, step);
        }
        for (int k = 0; k < 8; k++) {
            int place = k;
            due("manual(" + k + ")", places[k], () -> x.manual(place));
        }
        for (int k : new int[] {-1, 8, LEAST, MOST}) {
            due("manual(" + k + ")", INDEX, () -> x.manual(k));
        }
        FlatBoxes y = new FlatBoxes(0);
        y.part(1, 1, 1, 1, 9);
        due("place 0 of one part", 0, () -> y.manual(0));
        due("place 1 of one part", INDEX, () -> y.manual(1));
        y.part(1, 1, 1, 1, 8);
        due("the later part of the lesser step", 1, () -> y.manual(0));
    }

    /** Promise 11. */
    private static void bag() {
        FlatBoxes x = new FlatBoxes(0);
        for (int k = 0; k < 4; k++) {
            due("bag " + k, k, x::bag);
        }
        due("bag 4", STATE, x::bag);
        due("a new one is empty", 1, () -> x.counted(3, 0));
        due("an empty one weighs nothing", 0, () -> x.counted(3, 1));
        due("bag 4 is not there", INDEX, () -> x.counted(4, 0));
    }

    /** Promise 12. */
    private static void into() {
        FlatBoxes x = new FlatBoxes(0);
        x.bag();
        x.bag();
        int[][] bad = {{-1, 1, 0}, {1001, 1, 0}, {0, 0, 0}, {0, 1001, 0}, {0, 1, -1}, {0, 1, 2}, {0, 1000, 1001},
            {LEAST, 1, 0}, {MOST, 1, 0}, {0, LEAST, 0}, {0, MOST, 0}, {0, 1, LEAST}, {0, 1, MOST}};
        dueBadKinds(x, bad);
        due("least", 1, () -> x.into(0, 0, 1, 0));
        due("most", 2, () -> x.into(0, 1000, 1000, 1000));
        for (int k = 3; k <= 6; k++) {
            due("kind " + k, k, () -> x.into(0, 1000, 1000, 1000));
        }
        due("kind 7", STATE, () -> x.into(0, 1, 1, 0));
        dueBadKinds(x, bad);
        due("another bag", 1, () -> x.into(1, 2, 3, 1));
        for (int bag : new int[] {-1, 2, LEAST, MOST}) {
            due("bag " + bag, INDEX, () -> x.into(bag, 1, 1, 0));
            due("bag and kind " + bag, INDEX, () -> x.into(bag, -1, 0, 0));
        }
    }

    private static void dueBadKinds(FlatBoxes x, int[][] bad) {
        for (int[] b : bad) {
            due("into" + java.util.Arrays.toString(b), ARGUMENT, () -> x.into(0, b[0], b[1], b[2]));
        }
    }

    private static void dueCounted(FlatBoxes x, int bag, int[][] gramsAndAnswers) {
        for (int[] c : gramsAndAnswers) {
            due("counted(" + bag + ", " + c[0] + ")", c[1], () -> x.counted(bag, c[0]));
        }
    }

    /** Promise 13. */
    private static void counted() {
        FlatBoxes x = new FlatBoxes(0);
        x.bag();
        // 11 pieces are 209 .. 231, 10 are 190 .. 210, 12 are 228 .. 252.
        x.into(0, 11, 20, 1);
        dueCounted(x, 0, new int[][] {{208, 0}, {209, 2}, {210, 2}, {211, 1}, {220, 1}, {227, 1}, {228, 2}, {231, 2}, {232, 0}});
        // One kind without pieces can have one more, but not one less.
        x.bag();
        x.into(1, 0, 5, 5);
        dueCounted(x, 1, new int[][] {{0, 2}, {1, 0}});
        x.bag();
        x.into(2, 0, 5, 4);
        dueCounted(x, 2, new int[][] {{0, 1}, {1, 0}});
        // Two kinds: the second alone makes it unsure. 4 of 100 and 2 of 3 with 2: 402 .. 410.
        x.bag();
        x.into(3, 4, 100, 0);
        x.into(3, 2, 3, 2);
        dueCounted(x, 3, new int[][] {{401, 0}, {402, 2}, {403, 2}, {405, 2}, {406, 2}, {409, 2}, {410, 2}, {411, 0}});
        for (int bag : new int[] {-1, 4, LEAST, MOST}) {
            due("counted bag " + bag, INDEX, () -> x.counted(bag, 1));
            due("counted bag and grams " + bag, INDEX, () -> x.counted(bag, -1));
        }
        due("counted(0, -1)", ARGUMENT, () -> x.counted(0, -1));
        due("counted(0, LEAST)", ARGUMENT, () -> x.counted(0, LEAST));
        due("counted(0, MOST)", 0, () -> x.counted(0, MOST));
        FlatBoxes y = new FlatBoxes(0);
        y.bag();
        for (int k = 0; k < 6; k++) {
            y.into(0, 1000, 1000, 1000);
        }
        dueCounted(y, 0, new int[][] {{0, 2}, {12000000, 2}, {12000001, 0}, {MOST, 0}});
    }

    /** Promise 13: one piece less only of a kind that has one. */
    private static void countedWithOneLess() {
        FlatBoxes x = new FlatBoxes(0);
        x.bag();
        x.into(0, 1, 1000, 10);
        x.into(0, 0, 15, 0);
        dueCounted(x, 0, new int[][] {{989, 0}, {990, 1}, {1004, 1}, {1005, 2}, {1010, 2}, {1011, 0}});
        x.bag();
        x.into(1, 1, 1000, 10);
        x.into(1, 1, 15, 0);
        dueCounted(x, 1, new int[][] {{1004, 0}, {1005, 2}, {1010, 2}, {1011, 1}, {1019, 1}, {1020, 2}, {1025, 2}, {1026, 0}});
    }

    /** Promise 14. */
    private static void raised() {
        FlatBoxes x = new FlatBoxes(0);
        x.carton(99, 30, 40, 1, 100);
        x.part(99, 1, 1, 1, 0);
        due("before a run", STATE, () -> x.raised(-1, 0));
        x.run();
        due("50", true, () -> x.raised(0, 50));
        due("49", false, () -> x.raised(0, 49));
        due("1", false, () -> x.raised(0, 1));
        due("1000", true, () -> x.raised(0, 1000));
        for (int room : new int[] {0, -1, -50, 1001, LEAST, MOST}) {
            due("room " + room, ARGUMENT, () -> x.raised(0, room));
        }
        for (int box : new int[] {-1, 1, LEAST, MOST}) {
            due("raised box " + box, INDEX, () -> x.raised(box, 50));
            due("raised box and room " + box, INDEX, () -> x.raised(box, 0));
        }
        x.carton(1, 1, 1, 1, 1);
        due("told since", STATE, () -> x.raised(0, 50));
        FlatBoxes y = new FlatBoxes(0);
        y.carton(1, 100, 100, 1, 100);
        y.carton(2, 3, 4, 1, 100);
        y.part(2, 3, 4, 1, 0);
        y.run();
        due("by the box's own carton", true, () -> y.raised(0, 5));
        due("4 is too low for it", false, () -> y.raised(0, 4));
    }

    /** Promise 15. */
    private static void pallets() {
        FlatBoxes x = new FlatBoxes(0);
        due("before a run", STATE, () -> x.pallets(0));
        x.run();
        due("no boxes", 0, () -> x.pallets(1));
        x.carton(1, 1, 1, 1, 1000);
        for (int grams : new int[] {30, 20, 50, 10, 90, 5}) {
            x.part(1, 1, 1, grams, 0);
        }
        due("told since", STATE, () -> x.pallets(100));
        x.run();
        due("30 20 50, 10 90, 5", 3, () -> x.pallets(100));
        due("30 20, 50 10, 90 5", 3, () -> x.pallets(99));
        due("30 20, 50 10, 90, 5", 4, () -> x.pallets(94));
        due("all", 1, () -> x.pallets(205));
        due("all but the last", 2, () -> x.pallets(204));
        due("each by itself", 6, () -> x.pallets(1));
        due("one that is too heavy has its own", 6, () -> x.pallets(49));
        due("most", 1, () -> x.pallets(1000000));
        for (int limit : new int[] {0, -1, 1000001, LEAST, MOST}) {
            due("limit " + limit, ARGUMENT, () -> x.pallets(limit));
        }
    }

    private static FlatBoxes withShares() {
        FlatBoxes x = new FlatBoxes(0);
        x.carton(10, 10, 10, 6, 100);
        x.part(10, 10, 5, 1, 0);
        x.part(10, 10, 5, 1, 0);
        x.run();
        return x;
    }

    /** Terms: what ends the shares, and what tells nothing of them. */
    private static void toldAndForgotten() {
        FlatBoxes x = withShares();
        x.bag();
        x.into(0, 1, 1, 1);
        x.counted(0, 1);
        x.fits(0, 3);
        x.manual(0);
        x.fragile(0, false);
        due("these tell nothing", 6, x::cost);
        dueAt(x, 1, 0, 1, 0, 5);
        x.fragile(0, true);
        due("fragile ends them", STATE, x::cost);
        x.fragile(0, false);
        due("and is not undone", STATE, x::cost);
        FlatBoxes y = withShares();
        y.carton(1, 1, 1, 1, 1);
        due("a carton ends them", STATE, y::cost);
        FlatBoxes z = withShares();
        z.part(1, 1, 1, 1, 1);
        due("a part ends them", STATE, z::cost);
        due("a run finds them", 2, z::run);
        due("the third alone", 12, z::cost);
    }

    /** Terms: a call that throws changes nothing. */
    private static void throwingChangesNothing() {
        FlatBoxes x = withShares();
        due("carton", ARGUMENT, () -> x.carton(0, 1, 1, 1, 1));
        due("part", ARGUMENT, () -> x.part(1, 1, 1, 1, 51));
        due("fragile", INDEX, () -> x.fragile(2, true));
        due("fits", ARGUMENT, () -> x.fits(0, 4));
        due("shares stand", 6, x::cost);
        due("no part more", INDEX, () -> x.manual(2));
        for (int k = 1; k < 4; k++) {
            x.carton(1, 1, 1, 1, 1);
        }
        for (int k = 2; k < 8; k++) {
            x.part(10, 10, 5, 1, 0);
        }
        due("four boxes", 4, x::run);
        due("a carton too many", STATE, () -> x.carton(100, 100, 100, 1, 100000));
        due("a part too many", STATE, () -> x.part(10, 10, 5, 1, 0));
        due("the shares still stand", 24, x::cost);
        x.bag();
        for (int k = 0; k < 6; k++) {
            x.into(0, 1, 10, 0);
        }
        due("a kind too many", STATE, () -> x.into(0, 1, 10, 10));
        due("the bag is as it was", 1, () -> x.counted(0, 60));
    }

    /** The calls of README.md, in their order, with what it says of each. */
    private static void exampleOfReadme() {
        FlatBoxes x = new FlatBoxes(2);
        due("README: carton", 0, () -> x.carton(50, 40, 10, 300, 3000));
        due("README: part 0", 0, () -> x.part(50, 40, 4, 800, 2));
        due("README: part 1", 1, () -> x.part(24, 40, 3, 300, 1));
        due("README: part 2", 2, () -> x.part(24, 20, 3, 200, 3));
        due("README: fragile", true, () -> x.fragile(1, true));
        due("README: fits", true, () -> x.fits(0, 0b111));
        due("README: run", 1, x::run);
        due("README: z", 4, () -> x.at(1, 3));
        due("README: x", 26, () -> x.at(2, 2));
        due("README: height", 7, () -> x.box(0, 4));
        due("README: cost", 300, x::cost);
        due("README: raised", true, () -> x.raised(0, 42));
        due("README: pallets", 1, () -> x.pallets(1000000));
        due("README: manual", 1, () -> x.manual(0));
        due("README: bag", 0, x::bag);
        due("README: into", 1, () -> x.into(0, 11, 20, 1));
        due("README: right", 1, () -> x.counted(0, 220));
        due("README: unsure", 2, () -> x.counted(0, 230));
        due("README: not right", 0, () -> x.counted(0, 240));
    }
}
