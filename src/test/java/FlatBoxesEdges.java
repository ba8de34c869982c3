import java.util.ArrayList;
import java.util.Arrays;
import java.util.List;

/**
 * The document's boundary cases: each sentence that names one stands above a test of its own.
 * A call that is refused, or only asks, is made in several states, and what is seen after it and further on
 * is held against an object that never met that call.
 */
public final class FlatBoxesEdges {
    private static final String STATE = "throws.IllegalStateException";
    private static final String ARGUMENT = "throws.IllegalArgumentException";
    private static final String INDEX = "throws.IndexOutOfBoundsException";
    private static final int LEAST = Integer.MIN_VALUE;
    private static final int MOST = Integer.MAX_VALUE;
    private static final int NONE = FlatBoxes.NONE;
    private static final int MOST_CALLS = 512;
    private static int wrong = 0;

    public static void main(String[] args) {
        new Terms().all();
        new Telling().all();
        new Shares().all();
        new Hardware().all();
        System.out.println(wrong == 0 ? "all edges hold" : wrong + " answers at the edges are not as due");
        if (wrong != 0) {
            System.exit(1);
        }
    }

    private interface Call {
        Object on(FlatBoxes x);
    }

    private interface CallWith {
        Object on(FlatBoxes x, int[] with);
    }

    /** States that a call may meet; make() makes the same one each time. */
    private enum State {
        NEW(0, 0, NONE, 0),
        NO_PARTS(2, 0, 0, 1),
        TOLD(2, 4, NONE, 2),
        SHARED(2, 4, 2, 2),
        UNSHARED(2, 5, NONE, 2),
        FULL(4, 8, 3, 4),
        FULL_TOLD(4, 8, NONE, 4);

        final int cartons;
        final int parts;
        final int boxes;
        final int bags;

        State(int cartons, int parts, int boxes, int bags) {
            this.cartons = cartons;
            this.parts = parts;
            this.boxes = boxes;
            this.bags = bags;
        }

        FlatBoxes make() {
            FlatBoxes x = new FlatBoxes(1);
            tellCartons(x);
            tellParts(x);
            tellBags(x);
            if (this != NEW && this != TOLD) {
                x.run();
            }
            if (this == FULL_TOLD) {
                x.fragile(0, true);
            }
            return x;
        }

        private void tellCartons(FlatBoxes x) {
            int[][] all = {{20, 20, 10, 50, 1000}, {40, 30, 20, 120, 5000}, {20, 20, 10, 50, 1000}, {100, 100, 100, 900, 100000}};
            for (int k = 0; k < cartons; k++) {
                x.carton(all[k][0], all[k][1], all[k][2], all[k][3], all[k][4]);
            }
        }

        private void tellParts(FlatBoxes x) {
            int[][] all = {{20, 20, 5, 100, 3}, {9, 10, 4, 200, 1}, {10, 20, 4, 300, 2}, {40, 30, 15, 900, 0},
                {20, 20, 5, 150, 3}, {5, 5, 5, 700, 50}, {15, 6, 3, 10, 10}, {7, 7, 3, 20, 0}};
            if (this == UNSHARED) {
                all[4] = new int[] {41, 1, 1, 1, 1};
            }
            for (int k = 0; k < parts; k++) {
                x.part(all[k][0], all[k][1], all[k][2], all[k][3], all[k][4]);
            }
            if (parts > 1) {
                x.fragile(1, true);
            }
        }

        /** Each bag weighs 1502 .. 1522; less its last kind 1495 .. 1505, with one more of that 1509 .. 1539. */
        private void tellBags(FlatBoxes x) {
            int[][] two = {{5, 300, 1}, {1, 12, 5}};
            int[][] six = {{1, 1000, 2}, {0, 900, 0}, {0, 800, 0}, {1, 500, 3}, {0, 600, 0}, {1, 12, 5}};
            for (int bag = 0; bag < bags; bag++) {
                x.bag();
                for (int[] kind : bags == 4 ? six : two) {
                    x.into(bag, kind[0], kind[1], kind[2]);
                }
            }
        }
    }

    private static void due(String what, Object want, Object got) {
        if (!String.valueOf(want).equals(String.valueOf(got))) {
            wrong++;
            System.out.println(what + " answered " + got + ", due is " + want);
        }
    }

    private static String answer(FlatBoxes x, Call call) {
        try {
            return String.valueOf(call.on(x));
        } catch (RuntimeException | StackOverflowError e) {
            return "throws." + e.getClass().getSimpleName();
        }
    }

    private static void ask(FlatBoxes x, Object want, String what, Call call) {
        due(what, want, answer(x, call));
    }

    /** The call answers so, or is refused so, each time, and leaves no trace. */
    private static void leavesAll(State state, Object want, String what, Call call) {
        FlatBoxes met = state.make();
        FlatBoxes other = state.make();
        for (int time = 0; time < 3; time++) {
            due(state + ": " + what, want, answer(met, call));
        }
        List<String> seen = allToCome(met);
        dueSame(state + " after " + what, allToCome(other), seen);
        // Making the state takes fewer than 50 calls.
        due("calls of one object are within 512", true, seen.size() + 50 <= MOST_CALLS);
    }

    private static List<String> allToCome(FlatBoxes x) {
        List<String> seen = seen(x);
        seen.addAll(runAnew(x));
        seen.addAll(goOn(x));
        seen.addAll(seen(x));
        return seen;
    }

    private static void dueSame(String when, List<String> wanted, List<String> seen) {
        for (int k = 0; k < wanted.size(); k++) {
            if (!wanted.get(k).equals(seen.get(k))) {
                wrong++;
                System.out.println(when + ": " + seen.get(k) + ", due is " + wanted.get(k));
                return;
            }
        }
    }

    private static void note(List<String> seen, FlatBoxes x, String what, Call call) {
        seen.add(what + " answered " + answer(x, call));
    }

    /** All that can be asked without a change. */
    private static List<String> seen(FlatBoxes x) {
        List<String> seen = new ArrayList<>();
        note(seen, x, "cost", y -> y.cost());
        for (int limit : new int[] {1, 700, 2000, 1000000}) {
            note(seen, x, "pallets " + limit, y -> y.pallets(limit));
        }
        for (int k = 0; k <= 8; k++) {
            int n = k;
            note(seen, x, "manual " + n, y -> y.manual(n));
            for (int what = 0; what < 4 && k < 8; what++) {
                int w = what;
                note(seen, x, "at " + n + " " + w, y -> y.at(n, w));
            }
            for (int what = 0; what < 5 && k < 7; what++) {
                int w = what;
                note(seen, x, "box " + n + " " + w, y -> y.box(n, w));
            }
        }
        for (int k = 0; k <= 4; k++) {
            int n = k;
            for (int set : new int[] {1, 2, 5, 7, 11, 15, 16, 96, 128, 255}) {
                note(seen, x, "fits " + n + " " + set, y -> y.fits(n, set));
            }
            for (int grams : new int[] {1501, 1502, 1505, 1506, 1508, 1509, 1522, 1523}) {
                note(seen, x, "counted " + n + " " + grams, y -> y.counted(n, grams));
            }
            for (int room : new int[] {22, 36}) {
                note(seen, x, "raised " + n + " " + room, y -> y.raised(n, room));
            }
        }
        return seen;
    }

    /** New shares by what is held now, before anything else is told. */
    private static List<String> runAnew(FlatBoxes x) {
        List<String> seen = new ArrayList<>();
        note(seen, x, "fragile off", y -> y.fragile(1, false));
        note(seen, x, "fragile on", y -> y.fragile(1, true));
        note(seen, x, "run anew", y -> y.run());
        note(seen, x, "cost anew", y -> y.cost());
        for (int k = 0; k < 8; k++) {
            int n = k;
            note(seen, x, "box anew " + n, y -> y.box(n, 0));
            for (int what = 0; what < 4; what++) {
                int w = what;
                note(seen, x, "at anew " + n + " " + w, y -> y.at(n, w));
            }
        }
        return seen;
    }

    /** Tells more until all is full, so that what was counted in secret comes out, and runs. */
    private static List<String> goOn(FlatBoxes x) {
        List<String> seen = new ArrayList<>();
        for (int k = 0; k <= 4; k++) {
            int n = k;
            note(seen, x, "carton more", y -> y.carton(50 + n, 50, 50, 200 + n, 3000));
            note(seen, x, "bag more", y -> y.bag());
        }
        for (int k = 0; k <= 8; k++) {
            int n = k;
            note(seen, x, "part more", y -> y.part(10 + n, 20, 5, 40 + n, 8 - n));
        }
        for (int bag = 0; bag < 4; bag++) {
            int b = bag;
            for (int k = 0; k <= 4; k++) {
                note(seen, x, "kind more in " + b, y -> y.into(b, 1, 5, 1));
            }
        }
        note(seen, x, "run", y -> y.run());
        return seen;
    }

    /** Numbers outside of a range: the nearest on each side, the ends of int, and some that look right in fewer bits. */
    private static int[] outside(int least, int most) {
        int[] near = {least - 1, most + 1, LEAST, MOST, LEAST + least, -most, 256 + least, 65536 + least, 65536 + most};
        return Arrays.stream(near).filter(n -> n < least || n > most).distinct().toArray();
    }

    /** Numbers of things that are not there. */
    private static int[] beyond(int count) {
        return outside(0, count - 1);
    }

    /** Each number by itself outside of its range, the others being right; then all of them. */
    private static void refusesOutside(State state, String name, CallWith call, int[] right, int[][] ranges) {
        for (int place = 0; place < ranges.length; place++) {
            for (int number : outside(ranges[place][0], ranges[place][1])) {
                int[] with = right.clone();
                with[place] = number;
                leavesAll(state, ARGUMENT, name + Arrays.toString(with), x -> call.on(x, with));
            }
        }
        int[] allWrong = new int[right.length];
        Arrays.fill(allWrong, -1);
        leavesAll(state, ARGUMENT, name + Arrays.toString(allWrong), x -> call.on(x, allWrong));
    }

    /** Each number by itself at both ends of its range, and all of them, are taken. */
    private static void takesEnds(State state, String name, CallWith call, int[] right, int[][] ranges, int answer) {
        for (int end = 0; end < 2; end++) {
            int[] all = right.clone();
            for (int place = 0; place < ranges.length; place++) {
                int[] with = right.clone();
                with[place] = ranges[place][end];
                all[place] = ranges[place][end];
                ask(state.make(), answer, state + ": " + name + Arrays.toString(with), x -> call.on(x, with));
            }
            ask(state.make(), answer, state + ": " + name + Arrays.toString(all), x -> call.on(x, all));
        }
    }

    /** What 'Terms' says of packing, shares, layers, bags, rooms and pallets. */
    private static final class Terms {
        void all() {
            statesAreAsSaid();
            mostCalls();
            objectsAreApart();
            roomInLayer();
            gapBetweenEachTwo();
            firstLayerWithRoom();
            thicknessFirst();
            sameThicknessByNumbers();
            layerAsHighAsFirst();
            notWiderNotDeeper();
            layersNotHigher();
            gramsNotMore();
            oneFragileLayer();
            moreMayFitWhereFewerDoNot();
            cartonOfLeastCents();
            leastCentsThenFewestBoxes();
            leastNumbersOfBoxes();
            fragileAbove();
            greaterFirstStepBelow();
            heavierBelow();
            madeFirstBelow();
            zByAllLayersBelow();
            whatEndsShares();
            whatTellsNothingOfShares();
        }

        /** The states of this test are what their numbers say. */
        private void statesAreAsSaid() {
            for (State state : State.values()) {
                FlatBoxes x = state.make();
                ask(x, state.boxes == NONE ? STATE : INDEX, state + ": box", y -> y.box(8, 0));
                if (state.boxes > 0) {
                    ask(x, state.boxes - 1, state + ": last box", y -> lastBox(y, state.parts));
                }
                for (int n : new int[] {state.parts, state.parts - 1}) {
                    ask(x, n < state.parts && n >= 0, state + ": part " + n, y -> isPart(y, n));
                }
                if (state.cartons > 0 && state.parts > 0) {
                    ask(x, true, state + ": last carton", y -> y.fits(state.cartons - 1, 2));
                }
                if (state.bags > 0) {
                    ask(x, 1, state + ": last bag", y -> y.counted(state.bags - 1, 1507));
                }
                int run = state == State.NEW ? 0 : state == State.TOLD ? 2 : state == State.FULL_TOLD ? 3 : state.boxes;
                ask(x, run, state + ": run", y -> y.run());
            }
        }

        private static int lastBox(FlatBoxes x, int parts) {
            int last = -1;
            for (int part = 0; part < parts; part++) {
                last = Math.max(last, x.at(part, 0));
            }
            return last;
        }

        private static boolean isPart(FlatBoxes x, int n) {
            return !INDEX.equals(answer(x, y -> y.manual(n)));
        }

        /** "An object is used for at most 512 calls": all of these are answered, the dearest run each time. */
        private void mostCalls() {
            FlatBoxes x = new FlatBoxes(10);
            int calls = 0;
            for (int k = 0; k < 4; k++, calls++) {
                ask(x, k, "carton", y -> y.carton(100, 100, 100, 100000, 100000));
            }
            for (int k = 0; k < 8; k++, calls++) {
                ask(x, k, "part", y -> y.part(1, 1, 1, 50000, 50));
            }
            for (int k = 0; calls < MOST_CALLS - 2; k++, calls += 2) {
                boolean on = k % 2 == 0;
                ask(x, true, "fragile", y -> y.fragile(7, on));
                ask(x, 4, "run", y -> y.run());
            }
            ask(x, 400000, "call 511", y -> y.cost());
            ask(x, 3, "call 512", y -> y.at(7, 0));
        }

        /** What one object is told is nothing to another. */
        private void objectsAreApart() {
            List<String> alone = allToCome(State.SHARED.make());
            FlatBoxes x = State.SHARED.make();
            FlatBoxes other = new FlatBoxes(9);
            for (int k = 0; k < 4; k++) {
                other.carton(90 + k, 91, 92, 93, 94);
                other.bag();
                for (int kind = 0; kind < 6; kind++) {
                    other.into(k, 0, 1, 0);
                }
            }
            for (int k = 0; k < 8; k++) {
                other.part(80, 81, 30 + k, 47, 50 - k);
                other.fragile(k, k != 1);
            }
            other.run();
            dueSame("with another object", alone, allToCome(x));
        }

        /** Cartons 1 deep, 1 high, and of 1 cent: what fits lies in one layer. */
        private static FlatBoxes oneLayer(int gap, int cartonWidth, int... widths) {
            FlatBoxes x = new FlatBoxes(gap);
            x.carton(cartonWidth, 1, 1, 1, 100);
            for (int width : widths) {
                x.part(width, 1, 1, 1, 0);
            }
            return x;
        }

        /** "there is room if it does not go beyond the CARTON's width" */
        private void roomInLayer() {
            ask(oneLayer(0, 20, 10, 10), true, "10 10 in 20", y -> y.fits(0, 3));
            ask(oneLayer(0, 19, 10, 10), false, "10 10 in 19", y -> y.fits(0, 3));
            ask(oneLayer(0, 2, 1, 1), true, "1 1 in 2", y -> y.fits(0, 3));
            ask(oneLayer(0, 1, 1, 1), false, "1 1 in 1", y -> y.fits(0, 3));
            ask(oneLayer(0, 100, 99, 1), true, "99 1 in 100", y -> y.fits(0, 3));
            ask(oneLayer(0, 99, 99, 1), false, "99 1 in 99", y -> y.fits(0, 3));
            ask(oneLayer(1, 100, 99, 1), false, "99 1 in 100 with a gap", y -> y.fits(0, 3));
            ask(oneLayer(0, 100, 100, 100), false, "100 100 in 100", y -> y.fits(0, 3));
        }

        /** "GAP between each two": none before the first, none behind the last. */
        private void gapBetweenEachTwo() {
            for (int gap = 0; gap <= 10; gap++) {
                int g = gap;
                ask(oneLayer(g, 7, 7), true, "one part needs no gap", y -> y.fits(0, 1));
                ask(oneLayer(g, 9 + 2 * g, 2, 3, 4), true, "two gaps of " + g, y -> y.fits(0, 7));
                ask(oneLayer(g, 8 + 2 * g, 2, 3, 4), false, "two gaps of " + g + " in less", y -> y.fits(0, 7));
                FlatBoxes x = oneLayer(g, 9 + 2 * g, 2, 3, 4);
                x.run();
                ask(x, 0, "x of the first", y -> y.at(0, 2));
                ask(x, 2 + g, "x of the second", y -> y.at(1, 2));
                ask(x, 5 + 2 * g, "x of the third", y -> y.at(2, 2));
            }
        }

        /** Of one box that all parts share: layers and x of each. */
        private static void dueLies(String what, FlatBoxes x, int[][] layersAndXs) {
            ask(x, 1, what + ": run", y -> y.run());
            for (int part = 0; part < layersAndXs.length; part++) {
                int p = part;
                ask(x, layersAndXs[p][0], what + ": layer of " + p, y -> y.at(p, 1));
                ask(x, layersAndXs[p][1], what + ": x of " + p, y -> y.at(p, 2));
            }
        }

        private static FlatBoxes oneBox(int gap, int width, int[][] parts) {
            FlatBoxes x = new FlatBoxes(gap);
            x.carton(width, 100, 100, 1, 100000);
            for (int[] p : parts) {
                x.part(p[0], 1, p[1], p[2], p[3]);
            }
            return x;
        }

        /** "each goes to the first LAYER in which it has room, else to a new one": widths 6, 7, 4, 3, 1 of 10. */
        private void firstLayerWithRoom() {
            // Layers as made: 6 4, 7 3, 1; the steps make those made later lie above.
            FlatBoxes x = oneBox(0, 10, new int[][] {{6, 2, 1, 9}, {7, 2, 1, 8}, {4, 2, 1, 9}, {3, 2, 1, 8}, {1, 2, 1, 7}});
            dueLies("first room", x, new int[][] {{0, 0}, {1, 0}, {0, 6}, {1, 7}, {2, 0}});
            // The last part has room in both layers, and the second would be filled by it.
            FlatBoxes z = oneBox(0, 10, new int[][] {{6, 2, 1, 9}, {8, 2, 1, 8}, {2, 2, 1, 9}});
            dueLies("not the best room", z, new int[][] {{0, 0}, {1, 0}, {0, 6}});
        }

        /** "one by one by thickness, the greatest first" */
        private void thicknessFirst() {
            // 1, 3, 2 thick: the second is laid first, then the third beside it; the first has no room there.
            FlatBoxes x = oneBox(0, 10, new int[][] {{5, 1, 1, 0}, {5, 3, 1, 0}, {5, 2, 1, 0}});
            dueLies("thickest first", x, new int[][] {{1, 0}, {0, 0}, {0, 5}});
            FlatBoxes z = oneBox(0, 10, new int[][] {{5, 99, 1, 0}, {5, 100, 1, 0}});
            dueLies("thicker by one", z, new int[][] {{0, 5}, {0, 0}});
        }

        /** "of the same by numbers" */
        private void sameThicknessByNumbers() {
            FlatBoxes x = oneBox(0, 8, new int[][] {{1, 2, 1, 0}, {1, 2, 1, 0}, {1, 2, 1, 0}, {1, 2, 1, 0},
                {1, 2, 1, 0}, {1, 2, 1, 0}, {1, 2, 1, 0}, {1, 2, 1, 0}});
            dueLies("by numbers", x, new int[][] {{0, 0}, {0, 1}, {0, 2}, {0, 3}, {0, 4}, {0, 5}, {0, 6}, {0, 7}});
        }

        /** "A LAYER is as high as its first part." */
        private void layerAsHighAsFirst() {
            FlatBoxes x = oneBox(0, 10, new int[][] {{5, 1, 1, 50}, {5, 7, 1, 50}, {10, 4, 1, 0}});
            dueLies("high as the first", x, new int[][] {{0, 5}, {0, 0}, {1, 0}});
            ask(x, 0, "z below", y -> y.at(0, 3));
            ask(x, 7, "z above", y -> y.at(2, 3));
            ask(x, 11, "7 and 4", y -> y.box(0, 4));
        }

        /** "each part is not wider and not deeper than the CARTON": the middle one of three is the one in question. */
        private void notWiderNotDeeper() {
            int[][] sides = {{50, 60, 1}, {51, 60, 0}, {50, 61, 0}, {51, 61, 0}, {1, 1, 1}, {60, 50, 0}, {100, 100, 0}, {49, 59, 1}};
            for (int[] s : sides) {
                FlatBoxes x = new FlatBoxes(0);
                x.carton(50, 60, 100, 1, 100);
                x.part(1, 1, 3, 1, 0);
                x.part(s[0], s[1], 2, 1, 0);
                x.part(1, 1, 1, 1, 0);
                ask(x, s[2] == 1, "alone " + Arrays.toString(s), y -> y.fits(0, 2));
                ask(x, s[2] == 1, "with others " + Arrays.toString(s), y -> y.fits(0, 7));
                ask(x, true, "the others", y -> y.fits(0, 5));
            }
        }

        /** "all LAYERS together are not higher" */
        private void layersNotHigher() {
            FlatBoxes x = new FlatBoxes(0);
            x.carton(10, 10, 100, 1, 100);
            x.carton(10, 10, 99, 1, 100);
            x.carton(10, 10, 1, 1, 100);
            x.part(10, 1, 60, 1, 0);
            x.part(10, 1, 40, 1, 0);
            x.part(10, 1, 1, 1, 0);
            ask(x, true, "60 and 40 in 100", y -> y.fits(0, 3));
            ask(x, false, "60 and 40 in 99", y -> y.fits(1, 3));
            ask(x, false, "60, 40 and 1 in 100", y -> y.fits(0, 7));
            ask(x, true, "1 in 1", y -> y.fits(2, 4));
            ask(x, false, "40 and 1 in 1", y -> y.fits(2, 6));
            FlatBoxes z = new FlatBoxes(0);
            z.carton(10, 10, 100, 1, 100);
            for (int k = 0; k < 8; k++) {
                z.part(10, 1, k < 4 ? 13 : 12, 1, 0);
            }
            ask(z, true, "eight layers in 100", y -> y.fits(0, 255));
        }

        /** "all GRAMS are not more than it bears" */
        private void gramsNotMore() {
            FlatBoxes x = new FlatBoxes(0);
            x.carton(10, 10, 100, 1, 100000);
            x.carton(10, 10, 100, 1, 99999);
            x.carton(10, 10, 100, 1, 1);
            x.part(1, 1, 1, 50000, 0);
            x.part(1, 1, 1, 50000, 0);
            x.part(1, 1, 1, 1, 0);
            x.part(1, 1, 1, 1, 0);
            ask(x, true, "100000 in 100000", y -> y.fits(0, 3));
            ask(x, false, "100001 in 100000", y -> y.fits(0, 7));
            ask(x, false, "100000 in 99999", y -> y.fits(1, 3));
            ask(x, true, "50002 in 99999", y -> y.fits(1, 13));
            ask(x, true, "1 in 1", y -> y.fits(2, 4));
            ask(x, false, "2 in 1", y -> y.fits(2, 12));
        }

        /** "if not more than one LAYER has FRAGILE parts" */
        private void oneFragileLayer() {
            FlatBoxes x = new FlatBoxes(0);
            x.carton(10, 10, 100, 1, 100);
            x.part(5, 1, 9, 1, 0);
            x.part(5, 1, 8, 1, 0);
            x.part(5, 1, 7, 1, 0);
            x.part(5, 1, 6, 1, 0);
            ask(x, true, "none is fragile", y -> y.fits(0, 15));
            x.fragile(1, true);
            ask(x, true, "one layer, its second part", y -> y.fits(0, 15));
            x.fragile(0, true);
            ask(x, true, "one layer, both parts", y -> y.fits(0, 15));
            x.fragile(3, true);
            ask(x, false, "two layers", y -> y.fits(0, 15));
            ask(x, true, "without that", y -> y.fits(0, 7));
            x.fragile(2, true);
            ask(x, false, "all parts", y -> y.fits(0, 15));
            ask(x, true, "two in one layer", y -> y.fits(0, 12));
            ask(x, 2, "two boxes then", y -> y.run());
            x.fragile(0, false);
            x.fragile(1, false);
            ask(x, 1, "the upper layer alone", y -> y.run());
        }

        /** Each set is PACKED by itself: one more part may bring the fragile ones into one LAYER. */
        private void moreMayFitWhereFewerDoNot() {
            FlatBoxes x = new FlatBoxes(0);
            x.carton(10, 10, 4, 5, 100);
            for (int width : new int[] {6, 4, 4, 6}) {
                x.part(width, 1, 2, 1, 0);
            }
            x.fragile(2, true);
            x.fragile(3, true);
            ask(x, false, "6 4, 6", y -> y.fits(0, 13));
            ask(x, true, "6 4, 4 6", y -> y.fits(0, 15));
            ask(x, 1, "all in one box", y -> y.run());
        }

        private static FlatBoxes priced(int... cents) {
            FlatBoxes x = new FlatBoxes(0);
            for (int c : cents) {
                x.carton(10, 10, 10, c, 100);
            }
            x.part(10, 10, 10, 100, 0);
            return x;
        }

        /** "the CARTON of the least CENTS that it FITS, of several the least" */
        private void cartonOfLeastCents() {
            int[][] cases = {{5, 5, 5, 5, 0}, {5, 4, 4, 4, 1}, {6, 5, 4, 3, 3}, {3, 4, 5, 6, 0}, {9, 9, 8, 8, 2},
                {100000, 100000, 99999, 100000, 2}, {2, 1, 2, 1, 1}};
            for (int[] c : cases) {
                FlatBoxes x = priced(c[0], c[1], c[2], c[3]);
                ask(x, 1, "run", y -> y.run());
                ask(x, c[4], "carton of " + Arrays.toString(c), y -> y.box(0, 0));
                ask(x, c[c[4]], "cost of " + Arrays.toString(c), y -> y.cost());
            }
            FlatBoxes x = new FlatBoxes(0);
            x.carton(10, 10, 9, 1, 100);
            x.carton(10, 10, 10, 1, 99);
            x.carton(10, 9, 10, 1, 100);
            x.carton(10, 10, 10, 2, 100);
            x.part(10, 10, 10, 100, 0);
            x.run();
            ask(x, 3, "the cheaper ones do not hold it", y -> y.box(0, 0));
        }

        /** "those with the least CENTS together, of these with the fewest BOXES" */
        private void leastCentsThenFewestBoxes() {
            int[][] cases = {{12500, 100000, 1, 100000}, {12499, 100000, 8, 99992}, {12500, 99999, 1, 99999},
                {1, 8, 1, 8}, {1, 9, 8, 8}, {100000, 100000, 1, 100000}, {1, 100000, 8, 8}, {100000, 1, 1, 1}};
            for (int[] c : cases) {
                FlatBoxes x = new FlatBoxes(0);
                x.carton(1, 1, 1, c[0], 100);
                x.carton(8, 1, 1, c[1], 100);
                for (int k = 0; k < 8; k++) {
                    x.part(1, 1, 1, 1, 0);
                }
                ask(x, c[2], "boxes of " + Arrays.toString(c), y -> y.run());
                ask(x, c[3], "cents of " + Arrays.toString(c), y -> y.cost());
            }
            // For 8 cents 5 and 1, 9, 5 in three boxes would have lesser numbers than 5 and 5, 1 and 9 in two.
            FlatBoxes z = new FlatBoxes(0);
            z.carton(10, 10, 10, 2, 5);
            z.carton(10, 10, 10, 3, 9);
            z.carton(10, 10, 10, 4, 10);
            for (int grams : new int[] {5, 1, 9, 5}) {
                z.part(1, 1, 1, grams, 0);
            }
            ask(z, 2, "fewer boxes for as many cents", y -> y.run());
            ask(z, 8, "as many cents", y -> y.cost());
            dueBoxes("fewer boxes", z, 0, 1, 1, 0);
        }

        private static void dueBoxes(String what, FlatBoxes x, int... boxes) {
            for (int part = 0; part < boxes.length; part++) {
                int p = part;
                ask(x, boxes[p], what + ": box of " + p, y -> y.at(p, 0));
            }
        }

        private static FlatBoxes heavy(int bears, int... grams) {
            FlatBoxes x = new FlatBoxes(0);
            x.carton(100, 100, 100, 7, bears);
            for (int g : grams) {
                x.part(1, 1, 1, g, 0);
            }
            x.run();
            return x;
        }

        /** "of several by the numbers of the BOXES of PARTS 0, 1, .., the least first" */
        private void leastNumbersOfBoxes() {
            dueBoxes("two by two", heavy(2, 1, 1, 1, 1, 1, 1, 1, 1), 0, 0, 1, 1, 2, 2, 3, 3);
            dueBoxes("three by three", heavy(3, 1, 1, 1, 1, 1, 1, 1, 1), 0, 0, 0, 1, 1, 1, 2, 2);
            dueBoxes("the early parts together", heavy(5, 1, 4, 1, 4), 0, 0, 1, 1);
            dueBoxes("the last has the choice", heavy(10, 9, 4, 4, 1), 0, 1, 1, 0);
            dueBoxes("the second has the choice", heavy(10, 5, 1, 9, 4), 0, 0, 1, 0);
            dueBoxes("fewer boxes go before lesser numbers", heavy(10, 5, 1, 9, 5), 0, 1, 1, 0);
            dueBoxes("by the first part, not by the fullest", heavy(10, 1, 10, 9), 0, 1, 0);
            dueBoxes("each in its own", heavy(9, 9, 8, 7, 6, 5, 9, 9, 9), 0, 1, 2, 3, 4, 5, 6, 7);
        }

        private static void dueFromBelow(String what, FlatBoxes x, int[] layers) {
            ask(x, 1, what + ": run", y -> y.run());
            for (int part = 0; part < layers.length; part++) {
                int p = part;
                ask(x, layers[p], what + ": layer of " + p, y -> y.at(p, 1));
            }
        }

        /** "those without FRAGILE parts first", whatever the steps and grams; z goes by what lies below. */
        private void fragileAbove() {
            FlatBoxes x = oneBox(0, 10, new int[][] {{10, 9, 50000, 50}, {10, 8, 1, 0}});
            dueFromBelow("none is fragile", x, new int[] {0, 1});
            x.fragile(0, true);
            dueFromBelow("the first is fragile", x, new int[] {1, 0});
            ask(x, 8, "z of the fragile one", y -> y.at(0, 3));
            ask(x, 0, "z of the other", y -> y.at(1, 3));
            x.fragile(0, false);
            x.fragile(1, true);
            dueFromBelow("the second is fragile", x, new int[] {0, 1});
            ask(x, 9, "z of the second", y -> y.at(1, 3));
        }

        /** "the one with the greater FIRST STEP (the least STEP of its parts) first" */
        private void greaterFirstStepBelow() {
            dueFromBelow("by one step", oneBox(0, 10, new int[][] {{10, 9, 50000, 49}, {10, 8, 1, 50}}), new int[] {1, 0});
            dueFromBelow("0 and 1", oneBox(0, 10, new int[][] {{10, 9, 50000, 0}, {10, 8, 1, 1}}), new int[] {1, 0});
            dueFromBelow("the least of a layer, its second",
                oneBox(0, 10, new int[][] {{5, 9, 1, 50}, {5, 9, 1, 0}, {10, 8, 1, 1}}), new int[] {1, 1, 0});
            dueFromBelow("the least of a layer, its first",
                oneBox(0, 10, new int[][] {{5, 9, 1, 0}, {5, 9, 1, 50}, {10, 8, 1, 1}}), new int[] {1, 1, 0});
            dueFromBelow("not the greatest, not the sum",
                oneBox(0, 10, new int[][] {{5, 9, 1, 20}, {5, 9, 1, 20}, {10, 8, 1, 21}}), new int[] {1, 1, 0});
        }

        /** "then the heavier one": all its parts count. */
        private void heavierBelow() {
            dueFromBelow("by one gram", oneBox(0, 10, new int[][] {{10, 9, 49999, 7}, {10, 8, 50000, 7}}), new int[] {1, 0});
            dueFromBelow("by two parts", oneBox(0, 10, new int[][] {{10, 9, 10, 7}, {5, 8, 5, 7}, {5, 8, 6, 7}}), new int[] {1, 0, 0});
            dueFromBelow("not by the heaviest part",
                oneBox(0, 10, new int[][] {{10, 9, 10, 7}, {5, 8, 9, 7}, {5, 8, 2, 8}}), new int[] {1, 0, 0});
        }

        /** "then that which was made first": by thickness, then by numbers. */
        private void madeFirstBelow() {
            dueFromBelow("thicker", oneBox(0, 10, new int[][] {{10, 8, 5, 7}, {10, 9, 5, 7}}), new int[] {1, 0});
            dueFromBelow("lesser number", oneBox(0, 10, new int[][] {{10, 8, 5, 7}, {10, 8, 5, 7}}), new int[] {0, 1});
            dueFromBelow("eight alike", oneBox(0, 10, new int[][] {{10, 5, 5, 7}, {10, 5, 5, 7}, {10, 5, 5, 7}, {10, 5, 5, 7},
                {10, 5, 5, 7}, {10, 5, 5, 7}, {10, 5, 5, 7}, {10, 5, 5, 7}}), new int[] {0, 1, 2, 3, 4, 5, 6, 7});
        }

        /** "z where it begins in the BOX": as high as all layers below together, 0 for the lowest. */
        private void zByAllLayersBelow() {
            FlatBoxes x = oneBox(0, 10, new int[][] {{10, 40, 1, 4}, {10, 30, 1, 5}, {10, 20, 1, 6}, {10, 10, 1, 3}});
            dueFromBelow("four layers", x, new int[] {2, 1, 0, 3});
            int[] z = {50, 20, 0, 90};
            for (int part = 0; part < z.length; part++) {
                int p = part;
                ask(x, z[p], "z of " + p, y -> y.at(p, 3));
            }
            ask(x, 100, "all four", y -> y.box(0, 4));
        }

        /** "there are no SHARES since something was told" */
        private void whatEndsShares() {
            for (State state : new State[] {State.NO_PARTS, State.SHARED}) {
                endsShares(state, "carton", y -> y.carton(1, 1, 1, 100000, 1));
                endsShares(state, "part", y -> y.part(1, 1, 1, 1, 0));
            }
            for (State state : new State[] {State.SHARED, State.FULL}) {
                endsShares(state, "fragile on", y -> y.fragile(0, true));
                endsShares(state, "fragile off", y -> y.fragile(1, false));
                endsShares(state, "fragile on and off", y -> y.fragile(0, true) && y.fragile(0, false));
            }
        }

        private static void endsShares(State state, String what, Call telling) {
            FlatBoxes x = state.make();
            telling.on(x);
            ask(x, STATE, state + ", " + what + ": cost", y -> y.cost());
            ask(x, STATE, state + ", " + what + ": at", y -> y.at(0, 0));
            ask(x, STATE, state + ", " + what + ": box", y -> y.box(0, 0));
            ask(x, STATE, state + ", " + what + ": raised", y -> y.raised(0, 50));
            ask(x, STATE, state + ", " + what + ": pallets", y -> y.pallets(50));
            x.run();
            ask(x, false, state + ", " + what + ": no shares after a run", y -> STATE.equals(answer(y, z -> z.cost())));
        }

        /** "a bag, and fragile() that answers false, tell nothing of them" */
        private void whatTellsNothingOfShares() {
            for (State state : new State[] {State.NO_PARTS, State.SHARED}) {
                FlatBoxes x = state.make();
                List<String> before = seen(x);
                for (int bag = state.bags; bag < 4; bag++) {
                    x.bag();
                }
                x.into(0, 0, 1000, 0);
                for (int part = 0; part < state.parts; part++) {
                    int p = part;
                    ask(x, false, "fragile as it was", y -> y.fragile(p, p == 1));
                }
                List<String> after = seen(x);
                before.removeIf(s -> s.startsWith("counted"));
                after.removeIf(s -> s.startsWith("counted"));
                dueSame(state + " after bags and fragile() that answers false", before, after);
            }
            for (State state : State.values()) {
                for (int part = 0; part < state.parts; part++) {
                    int p = part;
                    leavesAll(state, false, "fragile(" + p + ") as it is",
                        y -> y.fragile(p, p == 1 || p == 0 && state == State.FULL_TOLD));
                }
            }
        }
    }

    /** Promises 1 to 5 and 10: what is told, and what is asked without shares. */
    private static final class Telling {
        private static final int[][] CARTON_RANGES = {{1, 100}, {1, 100}, {1, 100}, {1, 100000}, {1, 100000}};
        private static final int[][] PART_RANGES = {{1, 100}, {1, 100}, {1, 100}, {1, 50000}, {0, 50}};
        private static final CallWith CARTON = (x, n) -> x.carton(n[0], n[1], n[2], n[3], n[4]);
        private static final CallWith PART = (x, n) -> x.part(n[0], n[1], n[2], n[3], n[4]);

        void all() {
            nearestGap();
            cartonNumbers();
            cartonIsKeptAtTheEnds();
            fourCartons();
            partNumbers();
            partIsKeptAtTheEnds();
            eightParts();
            fragileParts();
            fragileIsNewOrNot();
            fitsCartons();
            fitsNoneOrOneThatIsNotThere();
            fitsOnlyAsks();
            manualPlaces();
            manualOrder();
        }

        /** "GAP the nearest of 0 .. 10." */
        private void nearestGap() {
            int[][] cases = {{LEAST, 0}, {LEAST + 1, 0}, {-11, 0}, {-10, 0}, {-2, 0}, {-1, 0}, {0, 0}, {1, 1}, {5, 5}, {9, 9},
                {10, 10}, {11, 10}, {12, 10}, {21, 10}, {256, 10}, {65536, 10}, {MOST - 1, 10}, {MOST, 10}};
            for (int[] c : cases) {
                FlatBoxes x = new FlatBoxes(c[0]);
                x.carton(20 + c[1], 1, 1, 1, 100);
                x.carton(19 + c[1], 1, 1, 1, 100);
                x.part(10, 1, 1, 1, 0);
                x.part(10, 1, 1, 1, 0);
                ask(x, true, "gap " + c[0] + ": fits", y -> y.fits(0, 3));
                ask(x, false, "gap " + c[0] + ": fits in less", y -> y.fits(1, 3));
                ask(x, 1, "gap " + c[0] + ": run", y -> y.run());
                ask(x, 10 + c[1], "gap " + c[0] + ": x of the second", y -> y.at(1, 2));
            }
        }

        /** "a side is not 1 .. 100, cents not 1 .. 100000, or grams not 1 .. 100000"; that goes before "there are 4". */
        private void cartonNumbers() {
            int[] right = {30, 30, 30, 30, 3000};
            for (State state : State.values()) {
                refusesOutside(state, "carton", CARTON, right, CARTON_RANGES);
                if (state.cartons < 4) {
                    takesEnds(state, "carton", CARTON, right, CARTON_RANGES, state.cartons);
                }
            }
        }

        /** The least and the greatest numbers of a CARTON are those it has from then on. */
        private void cartonIsKeptAtTheEnds() {
            FlatBoxes x = new FlatBoxes(0);
            x.carton(1, 1, 1, 1, 1);
            x.carton(100, 100, 100, 100000, 100000);
            int[][] parts = {{1, 1, 1, 1}, {2, 1, 1, 1}, {1, 2, 1, 1}, {1, 1, 2, 1}, {1, 1, 1, 2}, {100, 100, 100, 50000}};
            for (int[] p : parts) {
                x.part(p[0], p[1], p[2], p[3], 0);
            }
            ask(x, true, "the least part in the least carton", y -> y.fits(0, 1));
            for (int part = 1; part < parts.length; part++) {
                int set = 1 << part;
                ask(x, false, "part " + part + " in the least carton", y -> y.fits(0, set));
                ask(x, true, "part " + part + " in the greatest carton", y -> y.fits(1, set));
            }
            FlatBoxes z = new FlatBoxes(0);
            z.carton(1, 1, 1, 1, 1);
            z.part(1, 1, 1, 1, 0);
            z.run();
            ask(z, 1, "the least cents", y -> y.cost());
            FlatBoxes w = new FlatBoxes(0);
            w.carton(1, 1, 1, 100000, 100000);
            w.part(1, 1, 1, 1, 0);
            w.run();
            ask(w, 100000, "the greatest cents", y -> y.cost());
        }

        /** "IllegalStateException: there are 4." */
        private void fourCartons() {
            FlatBoxes x = new FlatBoxes(0);
            for (int k = 0; k < 4; k++) {
                int n = k;
                ask(x, n, "carton " + n, y -> y.carton(10 + n, 10, 10, 10, 100));
            }
            ask(x, STATE, "a fifth carton", y -> y.carton(10, 10, 10, 10, 100));
            for (State state : new State[] {State.FULL, State.FULL_TOLD}) {
                leavesAll(state, STATE, "the least carton too many", y -> y.carton(1, 1, 1, 1, 1));
                leavesAll(state, STATE, "the greatest carton too many", y -> y.carton(100, 100, 100, 100000, 100000));
                leavesAll(state, STATE, "the best carton too many", y -> y.carton(100, 100, 100, 1, 100000));
            }
        }

        /** "a side is not 1 .. 100, grams not 1 .. 50000, or step not 0 .. 50"; that goes before "there are 8". */
        private void partNumbers() {
            int[] right = {10, 10, 2, 30, 4};
            for (State state : State.values()) {
                refusesOutside(state, "part", PART, right, PART_RANGES);
                if (state.parts < 8) {
                    takesEnds(state, "part", PART, right, PART_RANGES, state.parts);
                }
            }
        }

        /** The least and the greatest numbers of a PART are those it has from then on. */
        private void partIsKeptAtTheEnds() {
            FlatBoxes x = new FlatBoxes(0);
            x.part(100, 100, 100, 50000, 50);
            x.part(1, 1, 1, 1, 0);
            int[][] cartons = {{100, 100, 100, 50000}, {99, 100, 100, 50000}, {100, 99, 100, 50000}, {100, 100, 99, 49999}};
            for (int[] c : cartons) {
                x.carton(c[0], c[1], c[2], 1, c[3]);
            }
            for (int carton = 0; carton < 4; carton++) {
                int c = carton;
                ask(x, c == 0, "the greatest part in carton " + c, y -> y.fits(c, 1));
                ask(x, true, "the least part in carton " + c, y -> y.fits(c, 2));
            }
            ask(x, 2, "both", y -> y.run());
            ask(x, 50000, "the greatest grams", y -> y.box(0, 2));
            ask(x, 100, "the greatest thickness", y -> y.box(0, 4));
            ask(x, 1, "the least grams", y -> y.box(1, 2));
            ask(x, 1, "the least thickness", y -> y.box(1, 4));
            ask(x, 1, "the least step", y -> y.manual(0));
            ask(x, 0, "the greatest step", y -> y.manual(1));
            FlatBoxes z = new FlatBoxes(0);
            z.carton(1, 1, 1, 1, 49999);
            z.part(1, 1, 1, 50000, 0);
            ask(z, false, "by one gram too heavy", y -> y.fits(0, 1));
        }

        /** "IllegalStateException: there are 8." */
        private void eightParts() {
            FlatBoxes x = new FlatBoxes(0);
            for (int k = 0; k < 8; k++) {
                int n = k;
                ask(x, n, "part " + n, y -> y.part(10, 10, 10, 10, n));
            }
            ask(x, STATE, "a ninth part", y -> y.part(10, 10, 10, 10, 8));
            for (State state : new State[] {State.FULL, State.FULL_TOLD}) {
                leavesAll(state, STATE, "the least part too many", y -> y.part(1, 1, 1, 1, 0));
                leavesAll(state, STATE, "the greatest part too many", y -> y.part(100, 100, 100, 50000, 50));
            }
        }

        /** fragile: "IndexOutOfBoundsException": there is no such part. */
        private void fragileParts() {
            for (State state : State.values()) {
                for (int part : beyond(state.parts)) {
                    leavesAll(state, INDEX, "fragile(" + part + ", true)", y -> y.fragile(part, true));
                    leavesAll(state, INDEX, "fragile(" + part + ", false)", y -> y.fragile(part, false));
                }
                leavesAll(state, INDEX, "fragile(8, true)", y -> y.fragile(8, true));
            }
        }

        /** "whether that is new": a new PART is not FRAGILE; the first and the last one. */
        private void fragileIsNewOrNot() {
            for (int part : new int[] {0, 7}) {
                FlatBoxes x = new FlatBoxes(0);
                for (int k = 0; k < 8; k++) {
                    x.part(1, 1, 1, 1, 0);
                }
                ask(x, false, "off at first", y -> y.fragile(part, false));
                ask(x, true, "on", y -> y.fragile(part, true));
                ask(x, false, "on again", y -> y.fragile(part, true));
                ask(x, false, "another is off", y -> y.fragile(7 - part, false));
                ask(x, true, "off", y -> y.fragile(part, false));
                ask(x, false, "off again", y -> y.fragile(part, false));
                ask(x, true, "on once more", y -> y.fragile(part, true));
            }
        }

        /** fits: "IndexOutOfBoundsException" goes before "IllegalArgumentException". */
        private void fitsCartons() {
            for (State state : State.values()) {
                for (int carton : beyond(state.cartons)) {
                    for (int set : new int[] {1, 0, -1, 256, LEAST, MOST}) {
                        leavesAll(state, INDEX, "fits(" + carton + ", " + set + ")", y -> y.fits(carton, set));
                    }
                }
            }
        }

        /** "IllegalArgumentException: it tells none, or one that is not there." */
        private void fitsNoneOrOneThatIsNotThere() {
            for (State state : State.values()) {
                for (int carton = 0; carton < state.cartons; carton++) {
                    int c = carton;
                    int next = 1 << state.parts;
                    for (int set : new int[] {0, next, next + 1, 2 * next - 1, 256, 257, 512, 65536, 65537, 1 << 30,
                        LEAST, LEAST + 1, LEAST + next - 1, -1, -2, -next, MOST}) {
                        leavesAll(state, ARGUMENT, "fits(" + c + ", " + set + ")", y -> y.fits(c, set));
                    }
                }
            }
            FlatBoxes x = new FlatBoxes(0);
            x.carton(100, 100, 100, 1, 100000);
            for (int part = 0; part < 8; part++) {
                int one = 1 << part;
                ask(x, ARGUMENT, "part " + part + " before it is there", y -> y.fits(0, one));
                x.part(1, 1, 1, 1, 0);
                ask(x, true, "part " + part, y -> y.fits(0, one));
                ask(x, true, "all up to part " + part, y -> y.fits(0, 2 * one - 1));
            }
        }

        /** fits needs no SHARES, and leaves them alone. */
        private void fitsOnlyAsks() {
            leavesAll(State.TOLD, true, "fits(0, 7)", y -> y.fits(0, 7));
            leavesAll(State.SHARED, true, "fits(0, 7)", y -> y.fits(0, 7));
            leavesAll(State.SHARED, false, "fits(1, 15)", y -> y.fits(1, 15));
            leavesAll(State.UNSHARED, false, "fits(1, 16)", y -> y.fits(1, 16));
            leavesAll(State.FULL, true, "fits(3, 255)", y -> y.fits(3, 255));
            leavesAll(State.FULL, false, "fits(2, 255)", y -> y.fits(2, 255));
        }

        /** manual: "IndexOutOfBoundsException": there is no such place. It needs no SHARES. */
        private void manualPlaces() {
            for (State state : State.values()) {
                for (int k : beyond(state.parts)) {
                    leavesAll(state, INDEX, "manual(" + k + ")", y -> y.manual(k));
                }
            }
            leavesAll(State.TOLD, 3, "manual(0)", y -> y.manual(0));
            leavesAll(State.TOLD, 0, "manual(3)", y -> y.manual(3));
            leavesAll(State.UNSHARED, 0, "manual(4)", y -> y.manual(4));
            leavesAll(State.FULL, 3, "manual(0)", y -> y.manual(0));
            leavesAll(State.FULL, 5, "manual(7)", y -> y.manual(7));
        }

        /** "all PARTS by STEP, of the same by numbers" */
        private void manualOrder() {
            dueManual(new int[] {0, 0, 0, 0, 0, 0, 0, 0}, 0, 1, 2, 3, 4, 5, 6, 7);
            dueManual(new int[] {50, 50, 50, 50, 50, 50, 50, 50}, 0, 1, 2, 3, 4, 5, 6, 7);
            dueManual(new int[] {50, 49, 40, 30, 20, 10, 1, 0}, 7, 6, 5, 4, 3, 2, 1, 0);
            dueManual(new int[] {0, 50, 0, 50, 0, 50, 0, 50}, 0, 2, 4, 6, 1, 3, 5, 7);
            dueManual(new int[] {50, 0, 50, 0, 50, 0, 50, 0}, 1, 3, 5, 7, 0, 2, 4, 6);
            dueManual(new int[] {9}, 0);
        }

        private static void dueManual(int[] steps, int... parts) {
            FlatBoxes x = new FlatBoxes(0);
            for (int step : steps) {
                x.part(1, 1, 1, 1, step);
            }
            for (int k = 0; k < parts.length; k++) {
                int place = k;
                ask(x, parts[place], "manual(" + place + ") of " + Arrays.toString(steps), y -> y.manual(place));
            }
            ask(x, INDEX, "manual behind the last", y -> y.manual(parts.length));
        }
    }

    /** Promises 6 to 9, 14 and 15: run, and what is asked of the shares. */
    private static final class Shares {
        void all() {
            runWithoutParts();
            runFindsNone();
            runAgain();
            runFull();
            atNeedsShares();
            atPartsAndWhats();
            boxNeedsShares();
            boxBoxesAndWhats();
            boxAtTheEnds();
            costNeedsShares();
            raisedNeedsShares();
            raisedBoxesAndRooms();
            raisedBySquares();
            palletsNeedShares();
            palletLimits();
            palletsUpToTheLimit();
        }

        private static State[] without() {
            return new State[] {State.NEW, State.TOLD, State.UNSHARED, State.FULL_TOLD};
        }

        private static State[] with() {
            return new State[] {State.NO_PARTS, State.SHARED, State.FULL};
        }

        /** "(0 without PARTS.)": these are SHARES, of no BOXES. */
        private void runWithoutParts() {
            FlatBoxes x = new FlatBoxes(0);
            for (int cartons = 0; cartons <= 4; cartons++) {
                ask(x, 0, "run without parts", y -> y.run());
                ask(x, 0, "cost without parts", y -> y.cost());
                ask(x, 0, "pallets without parts", y -> y.pallets(1));
                ask(x, INDEX, "at without parts", y -> y.at(0, 0));
                ask(x, INDEX, "box without parts", y -> y.box(0, 0));
                ask(x, INDEX, "raised without parts", y -> y.raised(0, 1));
                if (cartons < 4) {
                    x.carton(1, 1, 1, 1, 1);
                }
            }
        }

        /** "NONE (and no SHARES) if there are none such." */
        private void runFindsNone() {
            FlatBoxes x = new FlatBoxes(0);
            x.part(10, 10, 10, 10, 0);
            dueNone("no carton", x);
            x.carton(9, 10, 10, 1, 10);
            dueNone("too narrow", x);
            x.carton(10, 9, 10, 1, 10);
            dueNone("not deep enough", x);
            x.carton(10, 10, 9, 1, 10);
            dueNone("too low", x);
            x.carton(10, 10, 10, 1, 9);
            dueNone("bears too little", x);
            FlatBoxes z = new FlatBoxes(0);
            z.carton(10, 10, 10, 1, 10);
            z.part(10, 10, 10, 10, 0);
            ask(z, 1, "one part", y -> y.run());
            z.part(10, 10, 10, 11, 0);
            dueNone("one that fits, one that does not", z);
            z.carton(10, 10, 10, 5, 11);
            ask(z, 2, "with a carton for it", y -> y.run());
            ask(z, 6, "its cost", y -> y.cost());
        }

        private static void dueNone(String what, FlatBoxes x) {
            for (int time = 0; time < 2; time++) {
                ask(x, NONE, what + ": run", y -> y.run());
                ask(x, STATE, what + ": at", y -> y.at(0, 0));
                ask(x, STATE, what + ": box", y -> y.box(0, 0));
                ask(x, STATE, what + ": cost", y -> y.cost());
                ask(x, STATE, what + ": raised", y -> y.raised(0, 1000));
                ask(x, STATE, what + ": pallets", y -> y.pallets(1000000));
            }
        }

        /** A RUN with nothing told since the last one finds the same. */
        private void runAgain() {
            for (State state : State.values()) {
                FlatBoxes x = state.make();
                String first = answer(x, y -> y.run());
                List<String> seen = seen(x);
                ask(x, first, state + ": run again", y -> y.run());
                dueSame(state + " after another run", seen, seen(x));
            }
            leavesAll(State.SHARED, 2, "run", y -> y.run());
            leavesAll(State.UNSHARED, NONE, "run", y -> y.run());
            leavesAll(State.NO_PARTS, 0, "run", y -> y.run());
            leavesAll(State.FULL, 3, "run", y -> y.run());
        }

        /** The most PARTS in one BOX, and in as many BOXES. */
        private void runFull() {
            FlatBoxes one = alike(100, 100, 100000);
            ask(one, 1, "eight in one", y -> y.run());
            ask(one, 8, "its parts", y -> y.box(0, 1));
            ask(one, 100000, "cost of one", y -> y.cost());
            FlatBoxes eight = alike(10, 1, 100000);
            ask(eight, 8, "each in its own", y -> y.run());
            ask(eight, 1, "parts of the last", y -> y.box(7, 1));
            ask(eight, 800000, "the greatest cost", y -> y.cost());
            ask(eight, INDEX, "box 8", y -> y.box(8, 0));
            ask(eight, true, "the last is raised", y -> y.raised(7, 1000));
            ask(eight, 8, "each on its own pallet", y -> y.pallets(1));
        }

        private static FlatBoxes alike(int height, int grams, int cents) {
            FlatBoxes x = new FlatBoxes(0);
            x.carton(10, 10, height, cents, grams);
            for (int k = 0; k < 8; k++) {
                x.part(10, 10, 10, 1, 0);
            }
            return x;
        }

        /** at: "IllegalStateException (first)" */
        private void atNeedsShares() {
            for (State state : without()) {
                for (int[] with : new int[][] {{0, 0}, {-1, 0}, {0, -1}, {0, 4}, {8, 0}, {LEAST, LEAST}, {MOST, MOST}, {8, 4}}) {
                    leavesAll(state, STATE, "at" + Arrays.toString(with), y -> y.at(with[0], with[1]));
                }
            }
        }

        /** at: there is no such part, or what. */
        private void atPartsAndWhats() {
            for (State state : with()) {
                for (int part : beyond(state.parts)) {
                    leavesAll(state, INDEX, "at(" + part + ", 0)", y -> y.at(part, 0));
                    leavesAll(state, INDEX, "at(" + part + ", 4)", y -> y.at(part, 4));
                    leavesAll(state, INDEX, "at(" + part + ", -1)", y -> y.at(part, -1));
                }
                for (int what : outside(0, 3)) {
                    leavesAll(state, INDEX, "at(0, " + what + ")", y -> y.at(0, what));
                    leavesAll(state, INDEX, "at(last, " + what + ")", y -> y.at(state.parts - 1, what));
                }
            }
            leavesAll(State.SHARED, 1, "at(3, 0)", y -> y.at(3, 0));
            leavesAll(State.SHARED, 0, "at(3, 3)", y -> y.at(3, 3));
            leavesAll(State.SHARED, 0, "at(0, 1)", y -> y.at(0, 1));
            leavesAll(State.SHARED, 5, "at(2, 3)", y -> y.at(2, 3));
            leavesAll(State.SHARED, 10, "at(2, 2)", y -> y.at(2, 2));
        }

        /** box: "As at().": IllegalStateException first. */
        private void boxNeedsShares() {
            for (State state : without()) {
                for (int[] with : new int[][] {{0, 0}, {-1, 0}, {0, -1}, {0, 5}, {8, 0}, {LEAST, LEAST}, {MOST, MOST}, {8, 5}}) {
                    leavesAll(state, STATE, "box" + Arrays.toString(with), y -> y.box(with[0], with[1]));
                }
            }
        }

        /** box: "As at().": there is no such box, or what. */
        private void boxBoxesAndWhats() {
            for (State state : with()) {
                for (int box : beyond(state.boxes)) {
                    leavesAll(state, INDEX, "box(" + box + ", 0)", y -> y.box(box, 0));
                    leavesAll(state, INDEX, "box(" + box + ", 5)", y -> y.box(box, 5));
                    leavesAll(state, INDEX, "box(" + box + ", -1)", y -> y.box(box, -1));
                }
                for (int what : outside(0, 4)) {
                    leavesAll(state, INDEX, "box(0, " + what + ")", y -> y.box(0, what));
                    leavesAll(state, INDEX, "box(last, " + what + ")", y -> y.box(state.boxes - 1, what));
                }
            }
            leavesAll(State.SHARED, 0, "box(0, 0)", y -> y.box(0, 0));
            leavesAll(State.SHARED, 9, "box(0, 4)", y -> y.box(0, 4));
            leavesAll(State.SHARED, 1, "box(1, 0)", y -> y.box(1, 0));
            leavesAll(State.SHARED, 15, "box(1, 4)", y -> y.box(1, 4));
        }

        /** The least and the greatest that box() can tell; a run with fewer boxes leaves none behind. */
        private void boxAtTheEnds() {
            FlatBoxes x = new FlatBoxes(0);
            x.carton(1, 1, 1, 1, 1);
            x.part(1, 1, 1, 1, 0);
            x.run();
            for (int[] whatAndWant : new int[][] {{0, 0}, {1, 1}, {2, 1}, {3, 1}, {4, 1}}) {
                ask(x, whatAndWant[1], "the least box, what " + whatAndWant[0], y -> y.box(0, whatAndWant[0]));
            }
            FlatBoxes z = new FlatBoxes(0);
            z.carton(10, 10, 96, 5, 100000);
            for (int k = 0; k < 8; k++) {
                z.part(10, 10, 12, 12500, 0);
            }
            z.run();
            for (int[] whatAndWant : new int[][] {{0, 0}, {1, 8}, {2, 100000}, {3, 8}, {4, 96}}) {
                ask(z, whatAndWant[1], "the fullest box, what " + whatAndWant[0], y -> y.box(0, whatAndWant[0]));
            }
            FlatBoxes w = new FlatBoxes(0);
            w.carton(10, 10, 10, 9, 10);
            w.part(1, 1, 1, 10, 0);
            w.part(1, 1, 1, 10, 0);
            ask(w, 2, "two boxes", y -> y.run());
            w.carton(10, 10, 10, 9, 20);
            ask(w, 1, "then one", y -> y.run());
            ask(w, INDEX, "the second is gone", y -> y.box(1, 0));
            ask(w, INDEX, "the second cannot be raised", y -> y.raised(1, 50));
            ask(w, 1, "one pallet", y -> y.pallets(1));
        }

        /** cost: "IllegalStateException." */
        private void costNeedsShares() {
            for (State state : without()) {
                leavesAll(state, STATE, "cost", y -> y.cost());
            }
            leavesAll(State.NO_PARTS, 0, "cost", y -> y.cost());
            leavesAll(State.SHARED, 170, "cost", y -> y.cost());
        }

        /** raised: "IllegalStateException (first)" */
        private void raisedNeedsShares() {
            for (State state : without()) {
                for (int[] with : new int[][] {{0, 50}, {-1, 50}, {0, 0}, {0, 1001}, {8, 50}, {-1, -1}, {LEAST, LEAST}, {MOST, MOST}}) {
                    leavesAll(state, STATE, "raised" + Arrays.toString(with), y -> y.raised(with[0], with[1]));
                }
            }
        }

        /** raised: "IndexOutOfBoundsException; IllegalArgumentException: room is not 1 .. 1000." */
        private void raisedBoxesAndRooms() {
            for (State state : with()) {
                for (int box : beyond(state.boxes)) {
                    for (int room : new int[] {1, 1000, 0, 1001, -1, LEAST, MOST}) {
                        leavesAll(state, INDEX, "raised(" + box + ", " + room + ")", y -> y.raised(box, room));
                    }
                }
                for (int box = 0; box < state.boxes; box++) {
                    int b = box;
                    // 46341 and 65536 have squares that wrap around.
                    for (int room : outside(1, 1000)) {
                        leavesAll(state, ARGUMENT, "raised(" + b + ", " + room + ")", y -> y.raised(b, room));
                    }
                    leavesAll(state, ARGUMENT, "raised(" + b + ", 46341)", y -> y.raised(b, 46341));
                    leavesAll(state, false, "raised(" + b + ", 1)", y -> y.raised(b, 1));
                    leavesAll(state, true, "raised(" + b + ", 1000)", y -> y.raised(b, 1000));
                }
            }
        }

        /** "the square of its CARTON's depth and that of its height are together not more than that of the room" */
        private void raisedBySquares() {
            // Depth, height, the least room. Of the last ones the square is one more than that of the room below.
            int[][] cases = {{3, 4, 5}, {4, 3, 5}, {5, 12, 13}, {60, 80, 100}, {1, 1, 2}, {100, 100, 142}, {1, 100, 101},
                {100, 1, 101}, {7, 1, 8}, {7, 4, 9}, {4, 7, 9}, {8, 9, 13}};
            for (int[] c : cases) {
                FlatBoxes x = new FlatBoxes(0);
                x.carton(100, c[0], c[1], 1, 100);
                x.part(1, 1, 1, 1, 0);
                x.run();
                ask(x, true, "raised, room just enough " + Arrays.toString(c), y -> y.raised(0, c[2]));
                ask(x, false, "raised, room one less " + Arrays.toString(c), y -> y.raised(0, c[2] - 1));
            }
        }

        /** pallets: "IllegalStateException (first)" */
        private void palletsNeedShares() {
            for (State state : without()) {
                for (int limit : new int[] {1, 1000000, 0, -1, 1000001, LEAST, MOST}) {
                    leavesAll(state, STATE, "pallets(" + limit + ")", y -> y.pallets(limit));
                }
            }
        }

        /** "IllegalArgumentException: limit is not 1 .. 1000000." */
        private void palletLimits() {
            for (State state : with()) {
                for (int limit : outside(1, 1000000)) {
                    leavesAll(state, ARGUMENT, "pallets(" + limit + ")", y -> y.pallets(limit));
                }
                leavesAll(state, state.boxes, "pallets(1)", y -> y.pallets(1));
                leavesAll(state, Math.min(state.boxes, 1), "pallets(1000000)", y -> y.pallets(1000000));
            }
        }

        private static FlatBoxes oneByOne(int... grams) {
            FlatBoxes x = new FlatBoxes(0);
            x.carton(1, 1, 1, 1, 100000);
            for (int g : grams) {
                x.part(1, 1, 1, g, 0);
            }
            x.run();
            return x;
        }

        /** "onto the latest PALLET if all GRAMS there are not more than a limit then, else onto a new one" */
        private void palletsUpToTheLimit() {
            FlatBoxes x = oneByOne(50000, 50000, 50000, 50000, 50000, 50000, 50000, 50000);
            int[][] cases = {{400000, 1}, {399999, 2}, {350000, 2}, {200000, 2}, {199999, 3}, {100000, 4}, {99999, 8},
                {50000, 8}, {49999, 8}, {1, 8}};
            for (int[] c : cases) {
                ask(x, c[1], "eight of 50000 with " + c[0], y -> y.pallets(c[0]));
            }
            FlatBoxes z = oneByOne(1, 1);
            ask(z, 2, "1 and 1 with 1", y -> y.pallets(1));
            ask(z, 1, "1 and 1 with 2", y -> y.pallets(2));
            // The latest pallet alone is looked at: the first would still bear the third box.
            ask(oneByOne(2, 9, 1), 2, "2, 9 1 with 10", y -> y.pallets(10));
            ask(oneByOne(2, 9, 2), 3, "2, 9, 2 with 10", y -> y.pallets(10));
            // By numbers, not by grams: in another order two would do.
            ask(oneByOne(6, 5, 4, 5), 3, "6, 5 4, 5 with 10", y -> y.pallets(10));
            ask(oneByOne(1, 20, 1), 3, "one that is too heavy stands alone", y -> y.pallets(10));
            ask(oneByOne(20, 1, 1), 2, "the first is too heavy", y -> y.pallets(10));
        }
    }

    /** Promises 11 to 13: bags. */
    private static final class Hardware {
        private static final int[][] KIND_RANGES = {{0, 1000}, {1, 1000}, {0, 1}};

        void all() {
            fourBags();
            newBagIsEmpty();
            intoBags();
            intoNumbers();
            spreadUpToEach();
            sixKinds();
            kindIsKeptAtTheEnds();
            countedBagsAndGrams();
            withinTheSpreads();
            unsureWithOneMore();
            unsureWithOneLess();
            noneLessOfNone();
            someKindOfSeveral();
        }

        /** "IllegalStateException: there are 4." */
        private void fourBags() {
            FlatBoxes x = new FlatBoxes(0);
            for (int k = 0; k < 4; k++) {
                int n = k;
                ask(x, INDEX, "bag " + n + " before it is there", y -> y.counted(n, 0));
                ask(x, n, "bag " + n, y -> y.bag());
            }
            ask(x, STATE, "a fifth bag", y -> y.bag());
            ask(x, INDEX, "the fifth bag is not there", y -> y.into(4, 1, 1, 0));
            leavesAll(State.FULL, STATE, "a bag too many", y -> y.bag());
            leavesAll(State.FULL_TOLD, STATE, "a bag too many", y -> y.bag());
        }

        /** A BAG without kinds weighs nothing, and has no kind with one piece more. */
        private void newBagIsEmpty() {
            FlatBoxes x = new FlatBoxes(0);
            for (int k = 0; k < 4; k++) {
                int n = k;
                x.bag();
                dueCounted(x, n, new int[][] {{0, 1}, {1, 0}, {MOST, 0}});
                ask(x, 1, "first kind in bag " + n, y -> y.into(n, 1, 5, 0));
                dueCounted(x, n, new int[][] {{0, 0}, {4, 0}, {5, 1}, {6, 0}});
            }
        }

        /** into: "IndexOutOfBoundsException" goes before the others. */
        private void intoBags() {
            int[][] kinds = {{1, 1, 0}, {-1, 1, 0}, {1001, 1, 0}, {1, 0, 0}, {1, 1001, 0}, {1, 1, 2}, {1, 1, -1}, {LEAST, MOST, LEAST}};
            for (State state : State.values()) {
                for (int bag : beyond(state.bags)) {
                    for (int[] k : kinds) {
                        leavesAll(state, INDEX, "into bag " + bag + Arrays.toString(k), y -> y.into(bag, k[0], k[1], k[2]));
                    }
                }
            }
        }

        /** "many is not 0 .. 1000, each not 1 .. 1000, or spread not 0 .. each"; that goes before "there are 6". */
        private void intoNumbers() {
            for (State state : State.values()) {
                for (int bag = 0; bag < state.bags; bag++) {
                    int b = bag;
                    CallWith into = (x, n) -> x.into(b, n[0], n[1], n[2]);
                    refusesOutside(state, "into bag " + b, into, new int[] {1, 1, 0}, KIND_RANGES);
                    if (state.bags < 4) {
                        takesEnds(state, "into bag " + b, into, new int[] {1, 1, 0}, new int[][] {{0, 1000}, {1, 1000}}, 3);
                    }
                }
            }
        }

        /** "spread not 0 .. each": each itself is the greatest. */
        private void spreadUpToEach() {
            for (int each : new int[] {1, 2, 500, 999, 1000}) {
                for (int spread : outside(0, each)) {
                    leavesAll(State.SHARED, ARGUMENT, "spread " + spread + " of " + each, y -> y.into(1, 1, each, spread));
                    leavesAll(State.FULL, ARGUMENT, "spread " + spread + " of " + each, y -> y.into(1, 0, each, spread));
                }
                for (int spread : new int[] {0, each - 1, each}) {
                    ask(State.SHARED.make(), 3, "spread " + spread + " of " + each, y -> y.into(1, 1, each, spread));
                    ask(State.SHARED.make(), 3, "spread " + spread + " of " + each + ", none", y -> y.into(1, 0, each, spread));
                }
            }
        }

        /** "IllegalStateException: there are 6." Each BAG has its own. */
        private void sixKinds() {
            FlatBoxes x = new FlatBoxes(0);
            for (int bag = 0; bag < 4; bag++) {
                int b = bag;
                x.bag();
                for (int kind = 1; kind <= 6; kind++) {
                    int k = kind;
                    ask(x, k, "kind " + k + " in bag " + b, y -> y.into(b, b, 10, 0));
                }
                ask(x, STATE, "a seventh kind in bag " + b, y -> y.into(b, 1, 10, 0));
                dueCounted(x, b, new int[][] {{60 * b, 1}, {60 * b + 10, 0}});
            }
            for (int bag = 0; bag < 4; bag++) {
                int b = bag;
                leavesAll(State.FULL, STATE, "the least kind too many", y -> y.into(b, 0, 1, 0));
                leavesAll(State.FULL, STATE, "the greatest kind too many", y -> y.into(b, 1000, 1000, 1000));
                leavesAll(State.FULL_TOLD, STATE, "a kind too many", y -> y.into(b, 1, 5, 1));
            }
        }

        private static FlatBoxes bagOf(int[]... kinds) {
            FlatBoxes x = new FlatBoxes(0);
            x.bag();
            for (int[] k : kinds) {
                x.into(0, k[0], k[1], k[2]);
            }
            return x;
        }

        private static void dueCounted(FlatBoxes x, int bag, int[][] gramsAndAnswers) {
            for (int[] c : gramsAndAnswers) {
                ask(x, c[1], "counted(" + bag + ", " + c[0] + ")", y -> y.counted(bag, c[0]));
            }
        }

        /** The least and the greatest numbers of a kind are those it has from then on. */
        private void kindIsKeptAtTheEnds() {
            dueCounted(bagOf(new int[] {0, 1, 0}), 0, new int[][] {{0, 1}, {1, 0}});
            dueCounted(bagOf(new int[] {0, 1, 1}), 0, new int[][] {{0, 2}, {1, 0}});
            dueCounted(bagOf(new int[] {1, 1, 0}), 0, new int[][] {{0, 0}, {1, 1}, {2, 0}});
            dueCounted(bagOf(new int[] {0, 1000, 0}), 0, new int[][] {{0, 1}, {1, 0}, {1000, 0}});
            dueCounted(bagOf(new int[] {1000, 1, 0}), 0, new int[][] {{999, 0}, {1000, 1}, {1001, 0}});
            dueCounted(bagOf(new int[] {1000, 1000, 0}), 0, new int[][] {{999999, 0}, {1000000, 1}, {1000001, 0}});
            dueCounted(bagOf(new int[] {1000, 1000, 1000}), 0, new int[][] {{0, 2}, {1000000, 2}, {2000000, 2}, {2000001, 0}, {MOST, 0}});
            int[] most = {1000, 1000, 1000};
            dueCounted(bagOf(most, most, most, most, most, most), 0, new int[][] {{0, 2}, {12000000, 2}, {12000001, 0}, {MOST, 0}});
            int[] sure = {1000, 1000, 0};
            dueCounted(bagOf(sure, sure, sure, sure, sure, sure), 0, new int[][] {{5999999, 0}, {6000000, 1}, {6000001, 0}, {MOST, 0}});
        }

        /** counted: "IndexOutOfBoundsException; IllegalArgumentException: grams are below 0." */
        private void countedBagsAndGrams() {
            for (State state : State.values()) {
                for (int bag : beyond(state.bags)) {
                    for (int grams : new int[] {0, 1507, -1, LEAST, MOST}) {
                        leavesAll(state, INDEX, "counted(" + bag + ", " + grams + ")", y -> y.counted(bag, grams));
                    }
                }
                for (int bag = 0; bag < state.bags; bag++) {
                    int b = bag;
                    for (int grams : new int[] {-1, -2, -1507, -65536, LEAST + 1507, LEAST + 1, LEAST}) {
                        leavesAll(state, ARGUMENT, "counted(" + b + ", " + grams + ")", y -> y.counted(b, grams));
                    }
                    leavesAll(state, 0, "counted(" + b + ", 0)", y -> y.counted(b, 0));
                    leavesAll(state, 0, "counted(" + b + ", MOST)", y -> y.counted(b, MOST));
                }
            }
        }

        /** "it lies within the sum less all SPREADS and the sum and all SPREADS: then RIGHT (1) .. else not (0)" */
        private void withinTheSpreads() {
            dueCounted(bagOf(new int[] {3, 100, 2}), 0, new int[][] {{293, 0}, {294, 1}, {300, 1}, {306, 1}, {307, 0}});
            dueCounted(bagOf(new int[] {1, 100, 2}, new int[] {2, 200, 3}), 0, new int[][] {{491, 0}, {492, 1}, {508, 1}, {509, 0}});
            dueCounted(bagOf(new int[] {5, 100, 0}), 0, new int[][] {{499, 0}, {500, 1}, {501, 0}, {400, 0}, {600, 0}});
            // The sum less all spreads is 0.
            dueCounted(bagOf(new int[] {1, 10, 10}, new int[] {0, 10, 0}), 0, new int[][] {{0, 2}, {20, 2}, {21, 0}});
        }

        /** "UNSURE (2) if that with one piece .. more, it would lie within, too": 4 of 20 with 2 are 72 .. 88, 5 are 90 .. 110. */
        private void unsureWithOneMore() {
            dueCounted(bagOf(new int[] {4, 20, 2}), 0, new int[][] {{71, 0}, {72, 1}, {88, 1}, {89, 0}, {90, 0}});
            // 5 of 20 with 2 are 90 .. 110, 4 are 72 .. 88, 6 are 108 .. 132.
            dueCounted(bagOf(new int[] {5, 20, 2}), 0, new int[][] {{89, 0}, {90, 1}, {107, 1}, {108, 2}, {110, 2}, {111, 0}});
            // A kind of which the bag has none may have one more, too.
            dueCounted(bagOf(new int[] {1, 500, 9}, new int[] {0, 10, 0}), 0,
                new int[][] {{490, 0}, {491, 1}, {500, 1}, {501, 2}, {509, 2}, {510, 0}});
        }

        /** "UNSURE (2) if that with one piece less of some kind": 6 of 20 with 2 are 108 .. 132, 5 are 90 .. 110, 7 are 126 .. 154. */
        private void unsureWithOneLess() {
            dueCounted(bagOf(new int[] {6, 20, 2}), 0,
                new int[][] {{107, 0}, {108, 2}, {110, 2}, {111, 1}, {125, 1}, {126, 2}, {132, 2}, {133, 0}});
            // 1 of 500 with 9 and 1 of 10: 501 .. 519; without the 10 491 .. 509, with one more of it 511 .. 529.
            dueCounted(bagOf(new int[] {1, 500, 9}, new int[] {1, 10, 0}), 0,
                new int[][] {{500, 0}, {501, 2}, {509, 2}, {510, 1}, {511, 2}, {519, 2}, {520, 0}});
        }

        /** "(that has one)": of a kind without pieces there is none less. 1 of 500 with 9 is 491 .. 509; less 12 it would be 481 .. 495. */
        private void noneLessOfNone() {
            dueCounted(bagOf(new int[] {1, 500, 9}, new int[] {0, 12, 2}), 0,
                new int[][] {{490, 0}, {491, 1}, {497, 1}, {500, 1}, {501, 2}, {509, 2}, {510, 0}});
        }

        /** "of some kind": the first, one in the middle, or the last of six. */
        private void someKindOfSeveral() {
            for (int place = 0; place < 6; place++) {
                int[][] kinds = {{0, 1000, 0}, {0, 1000, 0}, {0, 1000, 0}, {0, 1000, 0}, {0, 1000, 0}, {0, 1000, 0}};
                kinds[place] = new int[] {6, 20, 2};
                dueCounted(bagOf(kinds), 0,
                    new int[][] {{107, 0}, {108, 2}, {110, 2}, {111, 1}, {125, 1}, {126, 2}, {132, 2}, {133, 0}});
            }
        }
    }
}
