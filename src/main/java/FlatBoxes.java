/**
 * Flat packing: boards in layers, layers in cartons, the cheapest way to share all parts among
 * cartons, what lies below what, where each lies, steps of a manual, bags of hardware counted by
 * their weight, boxes raised in a room, pallets.
 */
public final class FlatBoxes {
    public static final int NONE = -1;

    private static final int MOST_GAP = 10;
    private static final int MOST_CARTONS = 4;
    private static final int MOST_PARTS = 8;
    private static final int MOST_BAGS = 4;
    private static final int MOST_KINDS = 6;
    private static final int MOST_SIDE = 100;
    private static final int MOST_CENTS = 100000;
    private static final int MOST_CARTON_GRAMS = 100000;
    private static final int MOST_PART_GRAMS = 50000;
    private static final int MOST_STEP = 50;
    private static final int MOST_PIECES = 1000;
    private static final int MOST_PIECE_GRAMS = 1000;
    private static final int MOST_ROOM = 1000;
    private static final int MOST_LIMIT = 1000000;

    private static final int PLACE_BOX = 0;
    private static final int PLACE_LAYER = 1;
    private static final int PLACE_X = 2;
    private static final int PLACE_Z = 3;
    private static final int PLACE_WHATS = 4;

    private static final int BOX_CARTON = 0;
    private static final int BOX_PARTS = 1;
    private static final int BOX_GRAMS = 2;
    private static final int BOX_LAYERS = 3;
    private static final int BOX_HEIGHT = 4;
    private static final int BOX_WHATS = 5;

    private static final int NOT_COUNTED = 0;
    private static final int RIGHT = 1;
    private static final int UNSURE = 2;

    /**
     * A price is cents times this, and one for the box: prices add up, and of two sums of at most
     * MOST_PARTS boxes the lesser has the fewer cents, or as many cents and fewer boxes.
     */
    private static final int PRICE_OF_CENT = MOST_PARTS + 1;

    /** Above every sum of prices, so that shares with a set that fits no carton are never best. */
    private static final int NO_PRICE = MOST_PARTS * (MOST_CENTS * PRICE_OF_CENT + 1) + 1;

    private final Cartons cartonRows;
    private final Parts partRows;
    private final Packing packing;
    private final Search search;
    private final Shares shares;
    private final Bags bagRows;

    public FlatBoxes(int gap) {
        cartonRows = new Cartons();
        partRows = new Parts();
        packing = new Packing(Math.min(Math.max(gap, 0), MOST_GAP));
        search = new Search();
        shares = new Shares();
        bagRows = new Bags();
    }

    public int carton(int width, int depth, int height, int cents, int grams)
            throws IllegalArgumentException, IllegalStateException {
        if (!areSides(width, depth, height)) {
            throw new IllegalArgumentException("a side is not 1 .. 100");
        }
        if (!isWithin(cents, 1, MOST_CENTS) || !isWithin(grams, 1, MOST_CARTON_GRAMS)) {
            throw new IllegalArgumentException("cents or grams are not 1 .. 100000");
        }
        if (cartonRows.count >= MOST_CARTONS) {
            throw new IllegalStateException("there are 4 cartons");
        }
        shares.forget();
        return cartonRows.add(width, depth, height, cents, grams);
    }

    public int part(int width, int depth, int thick, int grams, int step)
            throws IllegalArgumentException, IllegalStateException {
        if (!areSides(width, depth, thick)) {
            throw new IllegalArgumentException("a side is not 1 .. 100");
        }
        if (!isWithin(grams, 1, MOST_PART_GRAMS) || !isWithin(step, 0, MOST_STEP)) {
            throw new IllegalArgumentException("grams are not 1 .. 50000, or step is not 0 .. 50");
        }
        if (partRows.count >= MOST_PARTS) {
            throw new IllegalStateException("there are 8 parts");
        }
        shares.forget();
        return partRows.add(width, depth, thick, grams, step);
    }

    public boolean fragile(int part, boolean on) throws IndexOutOfBoundsException {
        if (!isPlace(part, partRows.count)) {
            throw new IndexOutOfBoundsException("no such part");
        }
        if (partRows.fragile[part] == on) {
            return false;
        }
        shares.forget();
        partRows.fragile[part] = on;
        return true;
    }

    public boolean fits(int carton, int parts) throws IndexOutOfBoundsException, IllegalArgumentException {
        if (!isPlace(carton, cartonRows.count)) {
            throw new IndexOutOfBoundsException("no such carton");
        }
        if (!isWithin(parts, 1, partRows.everyPart())) {
            throw new IllegalArgumentException("no parts, or one that is not there");
        }
        return packing.isHeldBy(cartonRows, carton, partRows, parts);
    }

    public int run() {
        if (!shares.areSought) {
            search.find(cartonRows, partRows, packing);
            shares.take(search, cartonRows, partRows, packing);
        }
        return shares.boxes;
    }

    public int at(int part, int what) throws IllegalStateException, IndexOutOfBoundsException {
        needShares();
        if (!isPlace(part, partRows.count) || !isPlace(what, PLACE_WHATS)) {
            throw new IndexOutOfBoundsException("no such part or what");
        }
        return shares.ofPart[part][what];
    }

    public int box(int box, int what) throws IllegalStateException, IndexOutOfBoundsException {
        needShares();
        if (!isPlace(box, shares.boxes) || !isPlace(what, BOX_WHATS)) {
            throw new IndexOutOfBoundsException("no such box or what");
        }
        return shares.ofBox[box][what];
    }

    public int cost() throws IllegalStateException {
        needShares();
        return shares.cents;
    }

    public int manual(int k) throws IndexOutOfBoundsException {
        if (!isPlace(k, partRows.count)) {
            throw new IndexOutOfBoundsException("no such place");
        }
        return partRows.byStep[k];
    }

    public int bag() throws IllegalStateException {
        if (bagRows.count >= MOST_BAGS) {
            throw new IllegalStateException("there are 4 bags");
        }
        return bagRows.add();
    }

    public int into(int bag, int many, int each, int spread)
            throws IndexOutOfBoundsException, IllegalArgumentException, IllegalStateException {
        if (!isPlace(bag, bagRows.count)) {
            throw new IndexOutOfBoundsException("no such bag");
        }
        if (!isWithin(many, 0, MOST_PIECES) || !isWithin(each, 1, MOST_PIECE_GRAMS)) {
            throw new IllegalArgumentException("many is not 0 .. 1000, or each is not 1 .. 1000");
        }
        if (!isWithin(spread, 0, each)) {
            throw new IllegalArgumentException("spread is not 0 .. each");
        }
        if (bagRows.kinds[bag] >= MOST_KINDS) {
            throw new IllegalStateException("there are 6 kinds");
        }
        return bagRows.addKind(bag, many, each, spread);
    }

    public int counted(int bag, int grams) throws IndexOutOfBoundsException, IllegalArgumentException {
        if (!isPlace(bag, bagRows.count)) {
            throw new IndexOutOfBoundsException("no such bag");
        }
        if (grams < 0) {
            throw new IllegalArgumentException("grams are below 0");
        }
        return bagRows.judge(bag, grams);
    }

    public boolean raised(int box, int room)
            throws IllegalStateException, IndexOutOfBoundsException, IllegalArgumentException {
        needShares();
        if (!isPlace(box, shares.boxes)) {
            throw new IndexOutOfBoundsException("no such box");
        }
        if (!isWithin(room, 1, MOST_ROOM)) {
            throw new IllegalArgumentException("room is not 1 .. 1000");
        }
        int carton = shares.ofBox[box][BOX_CARTON];
        int depth = cartonRows.depth[carton];
        int height = cartonRows.height[carton];
        return depth * depth + height * height <= room * room;
    }

    public int pallets(int limit) throws IllegalStateException, IllegalArgumentException {
        needShares();
        if (!isWithin(limit, 1, MOST_LIMIT)) {
            throw new IllegalArgumentException("limit is not 1 .. 1000000");
        }
        return shares.stackOnPallets(limit);
    }

    private void needShares() {
        if (shares.boxes == NONE) {
            throw new IllegalStateException("no shares since something was told");
        }
    }

    private static boolean isWithin(int number, int least, int most) {
        return number >= least && number <= most;
    }

    private static boolean isPlace(int number, int count) {
        return number >= 0 && number < count;
    }

    private static boolean areSides(int a, int b, int c) {
        return isWithin(a, 1, MOST_SIDE) && isWithin(b, 1, MOST_SIDE) && isWithin(c, 1, MOST_SIDE);
    }

    private static boolean isIn(int set, int part) {
        return (set >> part & 1) != 0;
    }

    private static final class Cartons {
        final int[] width = new int[MOST_CARTONS];
        final int[] depth = new int[MOST_CARTONS];
        final int[] height = new int[MOST_CARTONS];
        final int[] cents = new int[MOST_CARTONS];
        final int[] grams = new int[MOST_CARTONS];
        int count;

        int add(int itsWidth, int itsDepth, int itsHeight, int itsCents, int itsGrams) {
            int carton = count;
            width[carton] = itsWidth;
            depth[carton] = itsDepth;
            height[carton] = itsHeight;
            cents[carton] = itsCents;
            grams[carton] = itsGrams;
            count = carton + 1;
            return carton;
        }
    }

    private static final class Parts {
        final int[] width = new int[MOST_PARTS];
        final int[] depth = new int[MOST_PARTS];
        final int[] thick = new int[MOST_PARTS];
        final int[] grams = new int[MOST_PARTS];
        final int[] step = new int[MOST_PARTS];
        final boolean[] fragile = new boolean[MOST_PARTS];
        final int[] byThickness = new int[MOST_PARTS];
        final int[] byStep = new int[MOST_PARTS];
        int count;

        int add(int itsWidth, int itsDepth, int itsThick, int itsGrams, int itsStep) {
            int part = count;
            width[part] = itsWidth;
            depth[part] = itsDepth;
            thick[part] = itsThick;
            grams[part] = itsGrams;
            step[part] = itsStep;
            sortInByThickness(part);
            sortInByStep(part);
            count = part + 1;
            return part;
        }

        // A new part has the greatest number, so it goes behind all that are its equals.
        private void sortInByThickness(int part) {
            int place = part;
            while (place > 0 && thick[byThickness[place - 1]] < thick[part]) {
                byThickness[place] = byThickness[place - 1];
                place--;
            }
            byThickness[place] = part;
        }

        private void sortInByStep(int part) {
            int place = part;
            while (place > 0 && step[byStep[place - 1]] > step[part]) {
                byStep[place] = byStep[place - 1];
                place--;
            }
            byStep[place] = part;
        }

        int everyPart() {
            return (1 << count) - 1;
        }

        int gramsOf(int set) {
            int sum = 0;
            for (int part = 0; part < count; part++) {
                if (isIn(set, part)) {
                    sum += grams[part];
                }
            }
            return sum;
        }

        boolean areWithin(int set, int mostWidth, int mostDepth) {
            for (int part = 0; part < count; part++) {
                if (isIn(set, part) && (width[part] > mostWidth || depth[part] > mostDepth)) {
                    return false;
                }
            }
            return true;
        }
    }

    /** The layers of the set that was packed last; its rows are used again for the next one. */
    private static final class Packing {
        private final int gap;
        private final int[] end = new int[MOST_PARTS];
        private final int[] thick = new int[MOST_PARTS];
        private final int[] grams = new int[MOST_PARTS];
        private final int[] firstStep = new int[MOST_PARTS];
        private final boolean[] fragile = new boolean[MOST_PARTS];
        final int[] layerOf = new int[MOST_PARTS];
        final int[] xOf = new int[MOST_PARTS];
        int layers;

        Packing(int gap) {
            this.gap = gap;
        }

        boolean isHeldBy(Cartons cartons, int carton, Parts parts, int set) {
            if (parts.gramsOf(set) > cartons.grams[carton]
                    || !parts.areWithin(set, cartons.width[carton], cartons.depth[carton])) {
                return false;
            }
            pack(parts, set, cartons.width[carton]);
            return height() <= cartons.height[carton] && fragileLayers() <= 1;
        }

        void pack(Parts parts, int set, int width) {
            layers = 0;
            for (int k = 0; k < parts.count; k++) {
                int part = parts.byThickness[k];
                if (isIn(set, part)) {
                    lay(parts, part, firstWithRoom(parts.width[part], width));
                }
            }
        }

        private int firstWithRoom(int partWidth, int width) {
            int layer = 0;
            while (layer < layers && end[layer] + gap + partWidth > width) {
                layer++;
            }
            return layer;
        }

        private void lay(Parts parts, int part, int layer) {
            int x = 0;
            if (layer == layers) {
                open(layer, parts.thick[part]);
            } else {
                x = end[layer] + gap;
            }
            layerOf[part] = layer;
            xOf[part] = x;
            end[layer] = x + parts.width[part];
            grams[layer] += parts.grams[part];
            firstStep[layer] = Math.min(firstStep[layer], parts.step[part]);
            fragile[layer] = fragile[layer] || parts.fragile[part];
        }

        private void open(int layer, int itsThick) {
            thick[layer] = itsThick;
            grams[layer] = 0;
            firstStep[layer] = MOST_STEP;
            fragile[layer] = false;
            layers = layer + 1;
        }

        int height() {
            int sum = 0;
            for (int layer = 0; layer < layers; layer++) {
                sum += thick[layer];
            }
            return sum;
        }

        private int fragileLayers() {
            int sum = 0;
            for (int layer = 0; layer < layers; layer++) {
                if (fragile[layer]) {
                    sum++;
                }
            }
            return sum;
        }

        int layersBelow(int layer) {
            int sum = 0;
            for (int other = 0; other < layers; other++) {
                if (isBelow(other, layer)) {
                    sum++;
                }
            }
            return sum;
        }

        int heightBelow(int layer) {
            int sum = 0;
            for (int other = 0; other < layers; other++) {
                if (isBelow(other, layer)) {
                    sum += thick[other];
                }
            }
            return sum;
        }

        private boolean isBelow(int one, int other) {
            if (fragile[one] != fragile[other]) {
                return fragile[other];
            }
            if (firstStep[one] != firstStep[other]) {
                return firstStep[one] > firstStep[other];
            }
            if (grams[one] != grams[other]) {
                return grams[one] > grams[other];
            }
            return one < other;
        }
    }

    /** Tries all ways to share the parts, the least numbers of boxes first. */
    private static final class Search {
        private final int[] cartonOf = new int[1 << MOST_PARTS];
        private final int[] priceOf = new int[1 << MOST_PARTS];
        private final int[] sets = new int[MOST_PARTS];
        private final int[] bestSets = new int[MOST_PARTS];
        private int parts;
        private int leastPrice;
        private int bestPrice;
        private int bestBoxes;

        void find(Cartons cartons, Parts partRows, Packing packing) {
            parts = partRows.count;
            leastPrice = NO_PRICE;
            for (int set = 1; set <= partRows.everyPart(); set++) {
                chooseCarton(cartons, partRows, packing, set);
                leastPrice = Math.min(leastPrice, priceOf[set]);
            }
            bestPrice = NO_PRICE;
            bestBoxes = NONE;
            share(0, 0);
        }

        // A set that fits may hold one that does not (first room is not best room), so each is tried.
        private void chooseCarton(Cartons cartons, Parts partRows, Packing packing, int set) {
            cartonOf[set] = NONE;
            priceOf[set] = NO_PRICE;
            for (int carton = 0; carton < cartons.count; carton++) {
                int price = cartons.cents[carton] * PRICE_OF_CENT + 1;
                if (price < priceOf[set] && packing.isHeldBy(cartons, carton, partRows, set)) {
                    cartonOf[set] = carton;
                    priceOf[set] = price;
                }
            }
        }

        private void share(int part, int boxes) {
            // What is as good as the best comes later than it, so only a lesser price is of use.
            if (boxes * leastPrice >= bestPrice) {
                return;
            }
            if (part >= parts) {
                compareWithBest(boxes);
                return;
            }
            for (int box = 0; box <= boxes; box++) {
                sets[box] |= 1 << part;
                share(part + 1, Math.max(boxes, box + 1));
                sets[box] ^= 1 << part;
            }
        }

        private void compareWithBest(int boxes) {
            int price = 0;
            for (int box = 0; box < boxes; box++) {
                price += priceOf[sets[box]];
            }
            if (price < bestPrice) {
                bestPrice = price;
                bestBoxes = boxes;
                System.arraycopy(sets, 0, bestSets, 0, boxes);
            }
        }

        int boxes() {
            return bestBoxes;
        }

        int setOf(int box) {
            return bestSets[box];
        }

        // A set that fits no carton has NO_PRICE and is never among the best, so this is a carton.
        int cartonFor(int box) {
            return cartonOf[bestSets[box]];
        }
    }

    /** What the search found, told as at() and box() ask for it. */
    private static final class Shares {
        final int[][] ofPart = new int[MOST_PARTS][PLACE_WHATS];
        final int[][] ofBox = new int[MOST_PARTS][BOX_WHATS];
        boolean areSought;
        int boxes = NONE;
        int cents;

        void forget() {
            areSought = false;
            boxes = NONE;
        }

        void take(Search search, Cartons cartons, Parts parts, Packing packing) {
            areSought = true;
            boxes = search.boxes();
            cents = 0;
            for (int box = 0; box < boxes; box++) {
                int set = search.setOf(box);
                int carton = search.cartonFor(box);
                packing.pack(parts, set, cartons.width[carton]);
                cents += cartons.cents[carton];
                ofBox[box][BOX_CARTON] = carton;
                tellBox(box, set, parts, packing);
                tellParts(box, set, parts, packing);
            }
        }

        private void tellBox(int box, int set, Parts parts, Packing packing) {
            ofBox[box][BOX_PARTS] = Integer.bitCount(set);
            ofBox[box][BOX_GRAMS] = parts.gramsOf(set);
            ofBox[box][BOX_LAYERS] = packing.layers;
            ofBox[box][BOX_HEIGHT] = packing.height();
        }

        private void tellParts(int box, int set, Parts parts, Packing packing) {
            for (int part = 0; part < parts.count; part++) {
                if (isIn(set, part)) {
                    int layer = packing.layerOf[part];
                    ofPart[part][PLACE_BOX] = box;
                    ofPart[part][PLACE_LAYER] = packing.layersBelow(layer);
                    ofPart[part][PLACE_X] = packing.xOf[part];
                    ofPart[part][PLACE_Z] = packing.heightBelow(layer);
                }
            }
        }

        int stackOnPallets(int limit) {
            int pallets = 0;
            int load = 0;
            for (int box = 0; box < boxes; box++) {
                int grams = ofBox[box][BOX_GRAMS];
                if (pallets == 0 || load + grams > limit) {
                    pallets++;
                    load = 0;
                }
                load += grams;
            }
            return pallets;
        }
    }

    private static final class Bags {
        private final int[][] many = new int[MOST_BAGS][MOST_KINDS];
        private final int[][] each = new int[MOST_BAGS][MOST_KINDS];
        private final int[][] spread = new int[MOST_BAGS][MOST_KINDS];
        private final int[] sum = new int[MOST_BAGS];
        private final int[] spreads = new int[MOST_BAGS];
        final int[] kinds = new int[MOST_BAGS];
        int count;

        int add() {
            int bag = count;
            count = bag + 1;
            return bag;
        }

        int addKind(int bag, int itsMany, int itsEach, int itsSpread) {
            int kind = kinds[bag];
            many[bag][kind] = itsMany;
            each[bag][kind] = itsEach;
            spread[bag][kind] = itsSpread;
            sum[bag] += itsMany * itsEach;
            spreads[bag] += itsMany * itsSpread;
            kinds[bag] = kind + 1;
            return kinds[bag];
        }

        int judge(int bag, int grams) {
            if (!isNear(grams, sum[bag], spreads[bag])) {
                return NOT_COUNTED;
            }
            for (int kind = 0; kind < kinds[bag]; kind++) {
                if (couldHaveOneMore(bag, kind, grams) || couldHaveOneLess(bag, kind, grams)) {
                    return UNSURE;
                }
            }
            return RIGHT;
        }

        private boolean couldHaveOneMore(int bag, int kind, int grams) {
            return isNear(grams, sum[bag] + each[bag][kind], spreads[bag] + spread[bag][kind]);
        }

        private boolean couldHaveOneLess(int bag, int kind, int grams) {
            return many[bag][kind] > 0
                    && isNear(grams, sum[bag] - each[bag][kind], spreads[bag] - spread[bag][kind]);
        }

        private static boolean isNear(int grams, int middle, int spread) {
            return grams >= middle - spread && grams <= middle + spread;
        }
    }
}
