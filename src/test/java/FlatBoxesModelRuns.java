import java.util.ArrayList;
import java.util.Comparator;
import java.util.HashMap;
import java.util.List;
import java.util.Map;
import java.util.Random;
import java.util.function.Supplier;

/** Long runs of calls, right and wrong ones, each held against a slow model written from the document alone. */
public final class FlatBoxesModelRuns {
    private static final int RUNS = 120;
    private static final int CALLS = 512;
    private static int wrong = 0;
    private static final Map<String, Integer> seen = new HashMap<>();

    public static void main(String[] args) {
        for (int seed = 0; seed < RUNS; seed++) {
            oneRun(seed);
        }
        // A run that never reaches an answer proves nothing about it.
        for (String answer : List.of("run -1", "run 0", "run 1", "run 2", "run 3", "run 4", "fits true", "fits false",
                "counted 0", "counted 1", "counted 2", "raised true", "raised false", "pallets 1", "pallets 2",
                "pallets 3", "fragile true", "fragile false", "part throws.IllegalStateException",
                "carton throws.IllegalStateException", "into throws.IllegalStateException",
                "at throws.IllegalStateException", "at throws.IndexOutOfBoundsException")) {
            if (!seen.containsKey(answer)) {
                wrong++;
                System.out.println("no run came to: " + answer);
            }
        }
        System.out.println(wrong == 0 ? "all answers are as the model's" : wrong + " answers are not as the model's");
        if (wrong != 0) {
            System.exit(1);
        }
    }

    private static void oneRun(int seed) {
        Random random = new Random(seed);
        int gap = random.nextInt(5) == 0 ? random.nextInt(40) - 15 : random.nextInt(4);
        FlatBoxes real = new FlatBoxes(gap);
        Model model = new Model(gap);
        // Narrow ranges bring ties and contested room, wide ones the edges.
        int side = 3 + random.nextInt(seed % 7 == 0 ? 98 : 12);
        int wait = random.nextInt(6);
        int bare = seed % 8 == 0 ? 20 : 0;
        for (int call = 0; call < CALLS && wrong < 20; call++) {
            Call next = anyCall(random, side, call - bare, wait);
            String due = next.on(model);
            String got = next.on(real);
            seen.merge(next.name + " " + due, 1, Integer::sum);
            if (!due.equals(got)) {
                wrong++;
                System.out.println("seed " + seed + ", call " + call + ": " + next + " answered " + got + ", due is " + due);
            }
        }
    }

    private static Call anyCall(Random r, int side, int call, int wait) {
        int kind = r.nextInt(100);
        int cheap = 1 + r.nextInt(4);
        int size = 1 + r.nextInt(side);
        if (call >= 0 && call < 12 && kind < 70 || kind < 2) {
            if (r.nextInt(3) == 0) {
                return new Call("carton", near(r, side), near(r, side), near(r, side), cheap * (r.nextBoolean() ? 1 : 7), 1 + r.nextInt(60));
            }
            return new Call("part", r.nextInt(side + 1), size, 1 + r.nextInt(4), 1 + r.nextInt(12), r.nextInt(5));
        }
        if (kind < 4 && call > 60 * wait) {
            return new Call("part", size, near(r, side), 1 + r.nextInt(side), 1 + r.nextInt(20), r.nextInt(52) - 1);
        }
        if (kind < 6) {
            return new Call("carton", 100 - r.nextInt(20), 101 - r.nextInt(5), 102 - r.nextInt(60), r.nextInt(9), r.nextInt(150));
        }
        if (kind < 14) {
            return new Call("fragile", r.nextInt(10) - 1, r.nextInt(3) == 0 ? 1 : 0);
        }
        if (kind < 26) {
            return new Call("fits", r.nextInt(6) - 1, r.nextInt(6) == 0 ? r.nextInt() : r.nextInt(256));
        }
        if (kind < 40) {
            return new Call("run");
        }
        if (kind < 56) {
            return new Call("at", r.nextInt(10) - 1, r.nextInt(6) - 1);
        }
        if (kind < 68) {
            return new Call("box", r.nextInt(6) - 1, r.nextInt(7) - 1);
        }
        if (kind < 72) {
            return new Call("cost");
        }
        if (kind < 76) {
            return new Call("manual", r.nextInt(10) - 1);
        }
        if (kind < 78) {
            return new Call("bag");
        }
        if (kind < 83) {
            return new Call("into", r.nextInt(6) - 1, r.nextInt(5) - (r.nextInt(9) == 0 ? 1 : 0), r.nextInt(12), r.nextInt(4) - (r.nextInt(9) == 0 ? 1 : 0));
        }
        if (kind < 91) {
            return new Call("counted", r.nextInt(6) - 1, r.nextInt(70) - 1);
        }
        if (kind < 96) {
            return new Call("raised", r.nextInt(6) - 1, r.nextInt(9) == 0 ? r.nextInt(1100) - 40 : r.nextInt(2 * side));
        }
        return new Call("pallets", r.nextInt(9) == 0 ? r.nextInt(1100000) - 40000 : r.nextInt(40));
    }

    private static int near(Random r, int side) {
        return side - r.nextInt(Math.min(side, 5)) + r.nextInt(4);
    }

    private static final class Call {
        private final String name;
        private final int[] with;

        Call(String name, int... with) {
            this.name = name;
            this.with = with;
        }

        String on(FlatBoxes x) {
            return answer(() -> switch (name) {
                case "carton" -> x.carton(with[0], with[1], with[2], with[3], with[4]);
                case "part" -> x.part(with[0], with[1], with[2], with[3], with[4]);
                case "fragile" -> x.fragile(with[0], with[1] == 1);
                case "fits" -> x.fits(with[0], with[1]);
                case "run" -> x.run();
                case "at" -> x.at(with[0], with[1]);
                case "box" -> x.box(with[0], with[1]);
                case "cost" -> x.cost();
                case "manual" -> x.manual(with[0]);
                case "bag" -> x.bag();
                case "into" -> x.into(with[0], with[1], with[2], with[3]);
                case "counted" -> x.counted(with[0], with[1]);
                case "raised" -> x.raised(with[0], with[1]);
                default -> x.pallets(with[0]);
            });
        }

        String on(Model x) {
            return answer(() -> switch (name) {
                case "carton" -> x.carton(with);
                case "part" -> x.part(with);
                case "fragile" -> x.fragile(with[0], with[1] == 1);
                case "fits" -> x.fits(with[0], with[1]);
                case "run" -> x.run();
                case "at" -> x.at(with[0], with[1]);
                case "box" -> x.box(with[0], with[1]);
                case "cost" -> x.cost();
                case "manual" -> x.manual(with[0]);
                case "bag" -> x.bag();
                case "into" -> x.into(with[0], with[1], with[2], with[3]);
                case "counted" -> x.counted(with[0], with[1]);
                case "raised" -> x.raised(with[0], with[1]);
                default -> x.pallets(with[0]);
            });
        }

        private static String answer(Supplier<Object> call) {
            try {
                return String.valueOf(call.get());
            } catch (RuntimeException e) {
                return "throws." + e.getClass().getSimpleName();
            }
        }

        @Override
        public String toString() {
            return name + java.util.Arrays.toString(with);
        }
    }

    private record Carton(int number, int width, int depth, int height, int cents, int grams) {}

    private static final class Part {
        int number, width, depth, thick, grams, step;
        boolean fragile;
    }

    private record Layer(int made, List<Part> parts) {
        int high() {
            return parts.get(0).thick;
        }

        int wide(int gap) {
            return parts.stream().mapToInt(p -> p.width).sum() + gap * (parts.size() - 1);
        }

        boolean isFragile() {
            return parts.stream().anyMatch(p -> p.fragile);
        }

        int firstStep() {
            return parts.stream().mapToInt(p -> p.step).min().getAsInt();
        }

        int grams() {
            return parts.stream().mapToInt(p -> p.grams).sum();
        }
    }

    private record Kind(int many, int each, int spread) {}

    private record Box(Carton carton, List<Part> parts) {}

    private static final class Model {
        private final int gap;
        private final List<Carton> cartons = new ArrayList<>();
        private final List<Part> parts = new ArrayList<>();
        private final List<List<Kind>> bags = new ArrayList<>();
        private List<Box> shares = null;

        Model(int gap) {
            this.gap = gap < 0 ? 0 : gap > 10 ? 10 : gap;
        }

        private static void argument(boolean right) {
            if (!right) {
                throw new IllegalArgumentException();
            }
        }

        private static void index(int k, int size) {
            if (k < 0 || k >= size) {
                throw new IndexOutOfBoundsException();
            }
        }

        private static void state(boolean right) {
            if (!right) {
                throw new IllegalStateException();
            }
        }

        int carton(int[] w) {
            for (int k = 0; k < 3; k++) {
                argument(w[k] >= 1 && w[k] <= 100);
            }
            argument(w[3] >= 1 && w[3] <= 100000 && w[4] >= 1 && w[4] <= 100000);
            state(cartons.size() < 4);
            cartons.add(new Carton(cartons.size(), w[0], w[1], w[2], w[3], w[4]));
            shares = null;
            return cartons.size() - 1;
        }

        int part(int[] w) {
            for (int k = 0; k < 3; k++) {
                argument(w[k] >= 1 && w[k] <= 100);
            }
            argument(w[3] >= 1 && w[3] <= 50000 && w[4] >= 0 && w[4] <= 50);
            state(parts.size() < 8);
            Part p = new Part();
            p.number = parts.size();
            p.width = w[0];
            p.depth = w[1];
            p.thick = w[2];
            p.grams = w[3];
            p.step = w[4];
            parts.add(p);
            shares = null;
            return p.number;
        }

        boolean fragile(int part, boolean on) {
            index(part, parts.size());
            boolean isNew = parts.get(part).fragile != on;
            if (isNew) {
                parts.get(part).fragile = on;
                shares = null;
            }
            return isNew;
        }

        private List<Layer> layers(Carton carton, List<Part> set) {
            List<Part> sorted = new ArrayList<>(set);
            sorted.sort(Comparator.<Part>comparingInt(p -> -p.thick).thenComparingInt(p -> p.number));
            List<Layer> layers = new ArrayList<>();
            for (Part p : sorted) {
                Layer home = null;
                for (Layer layer : layers) {
                    if (home == null && layer.wide(gap) + gap + p.width <= carton.width) {
                        home = layer;
                    }
                }
                if (home == null) {
                    home = new Layer(layers.size(), new ArrayList<>());
                    layers.add(home);
                }
                home.parts.add(p);
            }
            return layers;
        }

        private List<Layer> fromBelow(Box box) {
            List<Layer> layers = layers(box.carton, box.parts);
            layers.sort(Comparator.comparing(Layer::isFragile)
                    .thenComparing(Comparator.comparingInt(Layer::firstStep).reversed())
                    .thenComparing(Comparator.comparingInt(Layer::grams).reversed())
                    .thenComparingInt(Layer::made));
            return layers;
        }

        private boolean holds(Carton carton, List<Part> set) {
            List<Layer> layers = layers(carton, set);
            return set.stream().allMatch(p -> p.width <= carton.width && p.depth <= carton.depth)
                    && layers.stream().mapToInt(Layer::high).sum() <= carton.height
                    && set.stream().mapToInt(p -> p.grams).sum() <= carton.grams
                    && layers.stream().filter(Layer::isFragile).count() <= 1;
        }

        private List<Part> some(int bits) {
            List<Part> set = new ArrayList<>();
            for (Part p : parts) {
                if ((bits & 1 << p.number) != 0) {
                    set.add(p);
                }
            }
            return set;
        }

        boolean fits(int carton, int bits) {
            index(carton, cartons.size());
            argument(bits > 0 && bits < Math.pow(2, parts.size()));
            return holds(cartons.get(carton), some(bits));
        }

        private Carton cheapest(List<Part> set) {
            return cartons.stream().filter(c -> holds(c, set))
                    .min(Comparator.comparingInt(Carton::cents).thenComparingInt(Carton::number)).orElse(null);
        }

        int run() {
            // Nothing was told since the last search, and a search is dear here.
            if (shares != null) {
                return shares.size();
            }
            Map<Integer, Carton> cheapest = new HashMap<>();
            for (int bits = 1; bits < 1 << parts.size(); bits++) {
                Carton c = cheapest(some(bits));
                if (c != null) {
                    cheapest.put(bits, c);
                }
            }
            List<int[]> all = new ArrayList<>();
            numberings(new int[parts.size()], 0, 0, all);
            int[] best = null;
            for (int[] one : all) {
                if (bitsOf(one).stream().allMatch(cheapest::containsKey)) {
                    best = best == null ? one : better(one, best, cheapest);
                }
            }
            if (best == null) {
                return -1;
            }
            shares = new ArrayList<>();
            for (int bits : bitsOf(best)) {
                shares.add(new Box(cheapest.get(bits), some(bits)));
            }
            return shares.size();
        }

        private static void numberings(int[] boxOf, int part, int boxes, List<int[]> all) {
            if (part == boxOf.length) {
                all.add(boxOf.clone());
                return;
            }
            // The greatest first, so that the model never leans on the order of the search.
            for (int box = boxes; box >= 0; box--) {
                boxOf[part] = box;
                numberings(boxOf, part + 1, Math.max(boxes, box + 1), all);
            }
        }

        private static List<Integer> bitsOf(int[] boxOf) {
            List<Integer> bits = new ArrayList<>();
            for (int part = 0; part < boxOf.length; part++) {
                if (boxOf[part] == bits.size()) {
                    bits.add(0);
                }
                bits.set(boxOf[part], bits.get(boxOf[part]) | 1 << part);
            }
            return bits;
        }

        private static int[] better(int[] one, int[] other, Map<Integer, Carton> cheapest) {
            return Comparator.<int[]>comparingInt(x -> bitsOf(x).stream().mapToInt(b -> cheapest.get(b).cents).sum())
                    .thenComparingInt(x -> bitsOf(x).size())
                    .thenComparing(java.util.Arrays::compare)
                    .compare(one, other) < 0 ? one : other;
        }

        int at(int part, int what) {
            state(shares != null);
            index(part, parts.size());
            index(what, 4);
            for (int b = 0; b < shares.size(); b++) {
                int z = 0;
                List<Layer> layers = fromBelow(shares.get(b));
                for (int k = 0; k < layers.size(); k++) {
                    int x = 0;
                    for (Part p : layers.get(k).parts) {
                        if (p.number == part) {
                            return new int[] {b, k, x, z}[what];
                        }
                        x += p.width + gap;
                    }
                    z += layers.get(k).high();
                }
            }
            throw new AssertionError("a part in no box");
        }

        private int gramsOf(Box box) {
            return box.parts.stream().mapToInt(p -> p.grams).sum();
        }

        int box(int box, int what) {
            state(shares != null);
            index(box, shares.size());
            index(what, 5);
            Box b = shares.get(box);
            List<Layer> layers = layers(b.carton, b.parts);
            return switch (what) {
                case 0 -> b.carton.number;
                case 1 -> b.parts.size();
                case 2 -> gramsOf(b);
                case 3 -> layers.size();
                default -> layers.stream().mapToInt(Layer::high).sum();
            };
        }

        int cost() {
            state(shares != null);
            return shares.stream().mapToInt(b -> b.carton.cents).sum();
        }

        int manual(int k) {
            index(k, parts.size());
            List<Part> sorted = new ArrayList<>(parts);
            sorted.sort(Comparator.comparingInt(p -> p.step));
            return sorted.get(k).number;
        }

        int bag() {
            state(bags.size() < 4);
            bags.add(new ArrayList<>());
            return bags.size() - 1;
        }

        int into(int bag, int many, int each, int spread) {
            index(bag, bags.size());
            argument(many >= 0 && many <= 1000);
            argument(each >= 1 && each <= 1000);
            argument(spread >= 0 && spread <= each);
            state(bags.get(bag).size() < 6);
            bags.get(bag).add(new Kind(many, each, spread));
            return bags.get(bag).size();
        }

        private static boolean lies(List<Kind> kinds, int grams) {
            long least = 0;
            long most = 0;
            for (Kind k : kinds) {
                least += (long) k.many * (k.each - k.spread);
                most += (long) k.many * (k.each + k.spread);
            }
            return least <= grams && grams <= most;
        }

        int counted(int bag, int grams) {
            index(bag, bags.size());
            argument(grams >= 0);
            List<Kind> kinds = bags.get(bag);
            if (!lies(kinds, grams)) {
                return 0;
            }
            for (int k = 0; k < kinds.size(); k++) {
                Kind kind = kinds.get(k);
                for (int change = -1; change <= 1; change += 2) {
                    List<Kind> other = new ArrayList<>(kinds);
                    other.set(k, new Kind(kind.many + change, kind.each, kind.spread));
                    if (kind.many + change >= 0 && lies(other, grams)) {
                        return 2;
                    }
                }
            }
            return 1;
        }

        boolean raised(int box, int room) {
            state(shares != null);
            index(box, shares.size());
            argument(room >= 1 && room <= 1000);
            Carton c = shares.get(box).carton;
            return c.depth * c.depth + c.height * c.height <= room * room;
        }

        int pallets(int limit) {
            state(shares != null);
            argument(limit >= 1 && limit <= 1000000);
            List<Integer> pallets = new ArrayList<>();
            for (Box box : shares) {
                int last = pallets.size() - 1;
                if (last >= 0 && pallets.get(last) + gramsOf(box) <= limit) {
                    pallets.set(last, pallets.get(last) + gramsOf(box));
                } else {
                    pallets.add(gramsOf(box));
                }
            }
            return pallets.size();
        }
    }
}
