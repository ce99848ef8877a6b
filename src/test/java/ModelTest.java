import java.util.NoSuchElementException;
import java.util.Random;

/** Runs of up to 512 calls by chance (always the same ones) on the program and on the model, all answers compared. */
public final class ModelTest {
    private static final int CALLS = 512;
    private static final Check t = new Check("ModelTest");

    private final Random random;
    private final KitRows rows = new KitRows();
    private final Model model = new Model();
    private final boolean wild;
    private final boolean busy;
    private final StringBuilder run = new StringBuilder();
    private int calls;
    private String pending = "";

    private ModelTest(long seed) {
        random = new Random(seed);
        wild = seed % 4 == 0;
        busy = seed % 4 >= 2;
        if (busy) {
            pending = layeredKits() + (char) 1;
        }
    }

    public static void main(String[] args) {
        int runs = args.length > 0 ? Integer.parseInt(args[0]) : 2000;
        int[] seen = new int[6];
        for (int seed = 1; seed <= runs; seed++) {
            ModelTest test = new ModelTest(seed);
            if (!test.goOn(seed)) {
                break;
            }
            for (int making = 1; making <= test.model.count(1); making++) {
                seen[test.model.making(making, 0)]++;
            }
            for (int unit = 1; unit <= test.model.count(2); unit++) {
                seen[test.model.unit(unit, 0) == 3 ? 3 : test.model.unit(unit, 0) == 2 ? 4 : 5]++;
            }
        }
        System.out.println("makings open " + seen[0] + ", done " + seen[1] + ", dropped " + seen[2]
                + "; units broken " + seen[3] + ", bound " + seen[4] + ", loose or held " + seen[5]);
        for (int kind = 0; kind < seen.length; kind++) {
            if (seen[kind] == 0) {
                t.fail("the runs never came to kind " + kind);
            }
        }
        t.end();
    }

    private boolean goOn(int seed) {
        int portion = seed % 3;
        // One call adds a making or a unit at most, so that there are calls enough left to look at it.
        while (calls + callsToLookAt(portion) + 8 <= CALLS) {
            if (!same(nextCall())) {
                t.fail("run of seed " + seed + ":" + run);
                return false;
            }
        }
        if (!sameState(portion)) {
            t.fail("the end of the run of seed " + seed + ":" + run);
            return false;
        }
        return true;
    }

    private int callsToLookAt(int portion) {
        return portion == 0 ? 67 : portion == 1 ? 7 * (model.count(1) + 2) : 4 * (model.count(2) + 2);
    }

    /** A third of all that can be asked: more would take an object beyond its last call. */
    private boolean sameState(int portion) {
        boolean same = true;
        for (int what = -1; portion == 0 && what <= 5; what++) {
            same &= same(new int[] {21, what});
        }
        for (int good = 0; portion == 0 && good < 20; good++) {
            same &= same(new int[] {20, good, 0}) & same(new int[] {20, good, 1}) & same(new int[] {5, good});
        }
        for (int making = 0; portion == 1 && making <= model.count(1) + 1; making++) {
            for (int what = 0; what <= 6; what++) {
                same &= same(new int[] {18, making, what});
            }
        }
        for (int unit = 0; portion == 2 && unit <= model.count(2) + 1; unit++) {
            for (int what = 0; what <= 3; what++) {
                same &= same(new int[] {19, unit, what});
            }
        }
        return same;
    }

    private boolean same(int[] call) {
        calls++;
        String got = answer(call, true);
        String want = answer(call, false);
        run.append("\n  ").append(java.util.Arrays.toString(call)).append(" -> ").append(got);
        t.due("equal", got.equals(want) ? 1 : 0, 1);
        if (!got.equals(want)) {
            run.append(" (due is ").append(want).append(')');
            return false;
        }
        return true;
    }

    private String answer(int[] c, boolean ofProgram) {
        try {
            return String.valueOf(ofProgram ? ofRows(c) : ofModel(c));
        } catch (IllegalStateException | IllegalArgumentException | UnsupportedOperationException
                | NoSuchElementException e) {
            return e.getClass().getSimpleName();
        } catch (RuntimeException e) {
            return "a fault of " + (ofProgram ? "the program: " : "the model: ") + e;
        }
    }

    private int ofRows(int[] c) {
        switch (c[0]) {
            case 1: rows.sign(c[1]); return 0;
            case 2: return rows.read();
            case 3: return rows.kit(c[1]);
            case 4: return rows.part(c[1], c[2], c[3], c[4] == 1);
            case 5: return rows.ring(c[1]);
            case 6: return rows.changed(c[1], c[2]);
            case 7: rows.day(c[1]); return 0;
            case 8: rows.price(c[1], c[2]); return 0;
            case 9: return rows.cost(c[1]);
            case 10: return rows.stock(c[1], c[2]);
            case 11: return rows.make(c[1], c[2]);
            case 12: rows.substitute(c[1], c[2]); return 0;
            case 13: return rows.step(c[1], c[2], c[3] == 1);
            case 14: return rows.done(c[1]);
            case 15: rows.drop(c[1]); return 0;
            case 16: return rows.broken(c[1]);
            case 17: return rows.row(c[1], c[2]);
            case 18: return rows.making(c[1], c[2]);
            case 19: return rows.unit(c[1], c[2]);
            case 20: return rows.good(c[1], c[2]);
            default: return rows.count(c[1]);
        }
    }

    private int ofModel(int[] c) {
        switch (c[0]) {
            case 1: model.sign(c[1]); return 0;
            case 2: return model.read();
            case 3: return model.kit(c[1]);
            case 4: return model.part(c[1], c[2], c[3], c[4] == 1);
            case 5: return model.ring(c[1]);
            case 6: return model.changed(c[1], c[2]);
            case 7: model.day(c[1]); return 0;
            case 8: model.price(c[1], c[2]); return 0;
            case 9: return model.cost(c[1]);
            case 10: return model.stock(c[1], c[2]);
            case 11: return model.make(c[1], c[2]);
            case 12: model.substitute(c[1], c[2]); return 0;
            case 13: return model.step(c[1], c[2], c[3] == 1);
            case 14: return model.done(c[1]);
            case 15: model.drop(c[1]); return 0;
            case 16: return model.broken(c[1]);
            case 17: return model.row(c[1], c[2]);
            case 18: return model.making(c[1], c[2]);
            case 19: return model.unit(c[1], c[2]);
            case 20: return model.good(c[1], c[2]);
            default: return model.count(c[1]);
        }
    }

    private int[] nextCall() {
        if (!pending.isEmpty()) {
            int c = pending.charAt(0);
            pending = pending.substring(1);
            return c == 1 ? new int[] {2} : new int[] {1, c};
        }
        if (busy && random.nextInt(4) > 0) {
            return work();
        }
        int kind = random.nextInt(100);
        if (kind < 3) {
            // Sign 1 stands for read() here: it can't be a sign of a text.
            pending = text() + (char) 1;
            return new int[] {21, 4};
        }
        if (kind < 10) {
            return new int[] {3, good()};
        }
        if (kind < 25) {
            int pieces = odd() ? random.nextInt(14) - 2 : 1 + random.nextInt(random.nextInt(9) + 1);
            return new int[] {4, kit(), good(), pieces, random.nextInt(4) == 0 ? 1 : 0};
        }
        if (kind < 26) {
            return new int[] {6, kit(), model.today + random.nextInt(7) - 1};
        }
        if (kind < 28) {
            return odd() ? new int[] {7, random.nextInt(1100) - 50} : new int[] {7, model.today + random.nextInt(3)};
        }
        if (kind < 31) {
            return new int[] {8, good(), odd() ? random.nextInt(1200) - 100 : random.nextInt(1001)};
        }
        if (kind < 34) {
            return new int[] {9, kit()};
        }
        if (kind < 46) {
            return new int[] {10, good(), odd() ? random.nextInt(1200) - 100 : 1 + random.nextInt(6)};
        }
        if (kind < 52) {
            return new int[] {11, kit(), odd() ? random.nextInt(8) - 1 : random.nextInt(5)};
        }
        if (kind < 55) {
            return new int[] {12, making(), random.nextInt(7) - (odd() ? 1 : 0)};
        }
        if (kind < 75) {
            return stepCall();
        }
        if (kind < 82) {
            return new int[] {14, making()};
        }
        if (kind < 83) {
            return new int[] {15, making()};
        }
        if (kind < 85) {
            return new int[] {16, unit()};
        }
        return question(kind - 85);
    }

    /** Kits of few pieces, each made of goods below its own, so that units get into units. */
    private String layeredKits() {
        StringBuilder all = new StringBuilder();
        for (int good = 2; good < 7; good++) {
            all.append("K ").append(good);
            for (int part = 1 + random.nextInt(2); part > 0; part--) {
                int of = Math.max(0, good - 1 - random.nextInt(3));
                all.append(' ').append(1 + random.nextInt(2)).append('*').append(of);
                if (random.nextInt(3) == 0) {
                    all.append('/').append(of == 0 ? 1 : of - 1);
                }
            }
            all.append('\n');
        }
        return all.toString();
    }

    /** What a warehouse would do next: the first open making of a station goes on, or another is begun. */
    private int[] work() {
        int what = random.nextInt(20);
        if (what == 0) {
            return new int[] {10, random.nextInt(7), 1 + random.nextInt(3)};
        }
        if (what == 1) {
            return new int[] {16, unit()};
        }
        if (what == 2) {
            return new int[] {12, making(), 1 + random.nextInt(2)};
        }
        if (what < 6 && model.count(0) > 0) {
            return new int[] {11, random.nextInt(model.count(0)), random.nextInt(5)};
        }
        for (int making = 1 + random.nextInt(3); making <= model.count(1); making++) {
            if (model.making(making, 0) == 0) {
                return goOnWith(making);
            }
        }
        return new int[] {10, random.nextInt(2), 1 + random.nextInt(6)};
    }

    private int[] goOnWith(int making) {
        if (random.nextInt(30) == 0) {
            return new int[] {15, making};
        }
        return random.nextInt(3) == 0 ? new int[] {14, making}
                : new int[] {13, making, model.making(making, 3) + 1, random.nextInt(5) == 0 ? 0 : 1};
    }

    private int[] stepCall() {
        int making = making();
        int next = making >= 1 && making <= model.count(1) ? model.making(making, 3) + 1 : 1;
        return new int[] {13, making, odd() ? random.nextInt(8) - 1 : next, random.nextInt(5) == 0 ? 0 : 1};
    }

    private int[] question(int kind) {
        if (kind < 3) {
            return new int[] {5, random.nextInt(8) - 1};
        }
        if (kind < 5) {
            return new int[] {17, random.nextInt(7) - 1, random.nextInt(odd() ? 4 : 2)};
        }
        if (kind < 9) {
            return new int[] {18, making(), random.nextInt(odd() ? 9 : 7)};
        }
        if (kind < 12) {
            return new int[] {19, unit(), random.nextInt(odd() ? 6 : 4)};
        }
        if (kind < 14) {
            return new int[] {20, good(), random.nextInt(odd() ? 4 : 2)};
        }
        return new int[] {21, random.nextInt(7) - 1};
    }

    private boolean odd() {
        return random.nextInt(wild ? 6 : 60) == 0;
    }

    private int extreme() {
        int[] all = {Integer.MIN_VALUE, Integer.MAX_VALUE, -1, 20, 21, 12, 40, 41, 60, 61, 1000, 1001};
        return all[random.nextInt(all.length)];
    }

    private int good() {
        return odd() ? extreme() : random.nextInt(wild ? 20 : 12);
    }

    private int kit() {
        return odd() ? extreme() : random.nextInt(Math.max(1, model.count(0)));
    }

    private int making() {
        return odd() ? extreme() : model.count(1) - random.nextInt(Math.max(1, model.count(1)));
    }

    private int unit() {
        return odd() ? extreme() : model.count(2) - random.nextInt(Math.max(1, model.count(2)));
    }

    /** A text that is right but for the meaning of its goods, spoilt at a sign or two now and then. */
    private String text() {
        StringBuilder all = new StringBuilder();
        for (int line = random.nextInt(4); line > 0; line--) {
            all.append("K ").append(textGood());
            for (int part = 1 + random.nextInt(random.nextInt(5) + 1); part > 0; part--) {
                all.append(' ').append(odd() ? random.nextInt(12) : 1 + random.nextInt(3));
                all.append('*').append(textGood());
                if (random.nextInt(3) == 0) {
                    all.append('/').append(textGood());
                }
            }
            all.append('\n');
        }
        for (int faults = random.nextInt(3) - 1; faults > 0 && all.length() > 0; faults--) {
            int at = random.nextInt(all.length());
            char c = "K 0123456789*/\n~".charAt(random.nextInt(16));
            if (random.nextInt(3) == 0) {
                all.deleteCharAt(at);
            } else if (random.nextBoolean()) {
                all.setCharAt(at, c);
            } else {
                all.insert(at, c);
            }
        }
        return all.toString();
    }

    private int textGood() {
        return odd() ? random.nextInt(130) : random.nextInt(20);
    }
}
