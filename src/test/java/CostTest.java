/** Promises 9 and 10: price, cost. */
public final class CostTest {
    private static final Check t = new Check("CostTest");

    public static void main(String[] args) {
        prices();
        costs();
        costsByToday();
        limit();
        manyWays();
        t.end();
    }

    private static void prices() {
        KitRows x = new KitRows();
        Check.read(x, "K 5 1*0 1*19\n");
        t.due("0 at first", x.cost(0), 0);
        x.price(0, 1000);
        x.price(19, 1);
        t.due("two prices", x.cost(0), 1001);
        x.price(0, 0);
        t.due("a new price", x.cost(0), 1);
        t.refused(Check.ARGUMENT, "price(-1, 1)", () -> x.price(-1, 1));
        t.refused(Check.ARGUMENT, "price(20, 1)", () -> x.price(20, 1));
        t.refused(Check.ARGUMENT, "price(19, -1)", () -> x.price(19, -1));
        t.refused(Check.ARGUMENT, "price(19, 1001)", () -> x.price(19, 1001));
        t.due("as before", x.cost(0), 1);
    }

    private static void costs() {
        KitRows x = new KitRows();
        t.refused(Check.MISSING, "cost(0)", () -> x.cost(0));
        Check.read(x, "K 6 2*5 1*3\nK 5 3*1/2 4*2\n");
        x.price(1, 10);
        x.price(2, 100);
        x.price(3, 7);
        x.price(5, 999);
        x.price(6, 999);
        t.due("goods instead don't count", x.cost(1), 430);
        t.due("a part's own kit counts, not its price", x.cost(0), 867);
        x.kit(3);
        t.due("a kit without parts costs 0, not its price", x.cost(0), 860);
        t.due("cost(2)", x.cost(2), 0);
        t.refused(Check.MISSING, "cost(3)", () -> x.cost(3));
        t.refused(Check.MISSING, "cost(-1)", () -> x.cost(-1));
        x.stock(1, 9);
        x.make(1, 0);
        x.substitute(1, 1);
        t.due("a substitution changes no cost", x.cost(1), 430);
    }

    private static void costsByToday() {
        KitRows x = new KitRows();
        Check.read(x, "K 6 1*5\nK 5 1*1\n");
        x.price(1, 1);
        x.changed(1, 4);
        x.changed(0, 8);
        x.part(0, 5, 2, false);
        t.due("day 0", x.cost(0), 1);
        x.day(4);
        t.due("day 4, the part's kit has no parts", x.cost(0), 0);
        x.part(1, 1, 9, false);
        t.due("day 4", x.cost(0), 9);
        x.day(8);
        t.due("day 8", x.cost(0), 18);
    }

    /** 1000 is 10 * 10 * 10, made of parts of 5 and 5 pieces, so that the limit is hit to the piece. */
    private static void limit() {
        KitRows x = new KitRows();
        x.price(0, 1000);
        for (int good = 1; good <= 6; good++) {
            int kit = x.kit(good);
            x.part(kit, good - 1, 5, false);
            x.part(kit, good - 1, 5, false);
        }
        t.due("the limit itself", x.cost(5), 1000000000);
        x.part(5, 19, 1, false);
        t.due("a part that costs nothing", x.cost(5), 1000000000);
        x.price(19, 1);
        t.due("one above it", x.cost(5), -1);
        int kit = x.kit(7);
        x.part(kit, 19, 1, false);
        t.due("without it", x.cost(kit), 1);
        x.part(kit, 6, 1, false);
        t.due("with it as a part", x.cost(kit), -1);
        x.price(19, 0);
        t.due("at the limit again", x.cost(kit), 1000000000);
    }

    /** 5 ways at each of 12 kits: the sum passes every int and long, and going all ways would take hours. */
    private static void manyWays() {
        KitRows x = new KitRows();
        x.price(12, 1000);
        for (int good = 0; good < 12; good++) {
            int kit = x.kit(good);
            for (int p = 0; p < 5; p++) {
                x.part(kit, good + 1, 9, false);
            }
        }
        for (int kit = 0; kit < 12; kit++) {
            long cost = 1000;
            for (int i = kit; i < 12; i++) {
                cost = Math.min(cost * 45, 1000000001L);
            }
            t.due("cost(" + kit + ")", x.cost(kit), cost > 1000000000L ? -1 : cost);
        }
        x.price(12, 0);
        t.due("of nothing", x.cost(0), 0);
    }
}
