/** The last of each thing for which there is room, and the ends of each number's range, where they are allowed. */
public final class LimitTest {
    private static final Check t = new Check("LimitTest");

    public static void main(String[] args) {
        everySign();
        everyGoodHasAPlaceForAKit();
        twelveKits();
        twelveKitsOfOneText();
        twelveKitsOfTextsAndCalls();
        everyGoodAsAPart();
        everyNumberOfPieces();
        everyNumberOfPiecesOfAText();
        anyNumberForAnInstead();
        fiveParts();
        fivePartsOfEachRecipe();
        fourRecipes();
        fourRecipesOfEachKit();
        firstAndLastDays();
        leastAndHighestPrices();
        costsAtTheLimit();
        costsFarAboveTheLimit();
        longestChainOfKits();
        ringsOfEveryLength();
        piecesThatCome();
        stations();
        fortyMakings();
        fortyUnits();
        unitsInUnits();
        largestMaking();
        rows();
        counts();
        t.end();
    }

    private static void everySign() {
        KitRows x = new KitRows();
        x.sign(10);
        for (int c = 32; c <= 126; c++) {
            x.sign(c);
        }
        t.due("signs", x.count(4), 96);
        t.due("read()", x.read(), -1);
        t.due("no signs then", x.count(4), 0);
    }

    private static void everyGoodHasAPlaceForAKit() {
        for (int good = 0; good < 20; good++) {
            KitRows x = new KitRows();
            t.due("kit(" + good + ")", x.kit(good), 0);
            t.due("its good", x.good(good, 1), 0);
            KitRows y = new KitRows();
            t.due("a text's kit for " + good, Check.read(y, "K " + good + " 1*" + (good + 1) % 20 + "\n"), 1);
            t.due("its good", y.good(good, 1), 0);
        }
    }

    private static void twelveKits() {
        KitRows x = new KitRows();
        for (int kit = 0; kit < 12; kit++) {
            t.due("the next kit", x.kit(19 - kit), kit);
            t.due("kits", x.count(0), kit + 1);
        }
        t.refused(Check.ROOM, "kit 13", () -> x.kit(0));
        t.due("a part of the last kit", x.part(11, 0, 1, false), 1);
        t.due("a making of the last kit", x.make(11, 0), 1);
        t.due("which kit it is of", x.making(1, 1), 11);
        t.due("what the last kit costs", x.cost(11), 0);
        t.due("a recipe of the last kit", x.changed(11, 1), 2);
    }

    private static void twelveKitsOfOneText() {
        StringBuilder twelve = new StringBuilder();
        for (int good = 0; good < 12; good++) {
            twelve.append("K ").append(good).append(" 9*19\n");
        }
        KitRows x = new KitRows();
        t.due("12 kits of a text", Check.read(x, twelve.toString()), 12);
        t.due("the last one's good", x.good(11, 1), 11);
        KitRows y = new KitRows();
        Check.signAll(y, twelve + "K 12 9*19\n");
        t.refused(Check.ROOM, "13 kits of a text", () -> y.read());
        t.due("none is kept", y.count(0), 0);
        t.due("no sign either", y.count(4), 0);
        t.due("the same again without the last line", Check.read(y, twelve.toString()), 12);
    }

    private static void twelveKitsOfTextsAndCalls() {
        for (int told = 0; told <= 12; told++) {
            KitRows x = new KitRows();
            for (int good = 0; good < told; good++) {
                x.kit(good);
            }
            for (int good = told; good < 12; good++) {
                Check.signAll(x, "K " + good + " 1*19\n");
            }
            t.due("12 kits, " + told + " of them told", x.read(), 12);
            t.refused(Check.ROOM, "kit 13 told", () -> x.kit(12));
            Check.signAll(x, "K 12 1*19\n");
            t.refused(Check.ROOM, "kit 13 of a text", () -> x.read());
        }
    }

    private static void everyGoodAsAPart() {
        KitRows x = new KitRows();
        x.kit(0);
        x.kit(19);
        for (int good = 1; good < 19; good++) {
            KitRows y = new KitRows();
            y.kit(0);
            t.due("part " + good, y.part(0, good, 1, false), 1);
            t.due("instead", y.part(0, good % 18 + 1, 1, true), 0);
            t.due("a making takes it", y.make(0, 0), 1);
            y.stock(good, 1);
            t.due("a piece of it", y.making(1, 4), 1);
            y.substitute(1, 1);
            t.due("no longer", y.making(1, 4), 0);
            y.stock(good % 18 + 1, 1);
            t.due("a piece of the other", y.making(1, 4), 1);
        }
        t.due("part 19", x.part(0, 19, 1, false), 1);
        x.changed(0, 1);
        t.due("part 18", x.part(0, 18, 1, false), 1);
        t.due("instead 19", x.part(0, 19, 1, true), 0);
        t.due("part 0 of 19 is a ring", x.part(1, 0, 1, false), -2);
        KitRows z = new KitRows();
        z.kit(19);
        t.due("part 0 of 19", z.part(0, 0, 1, false), 1);
        z.changed(0, 1);
        z.part(0, 1, 1, false);
        t.due("instead 0", z.part(0, 0, 1, true), 0);
    }

    private static void everyNumberOfPieces() {
        for (int n = 1; n <= 9; n++) {
            KitRows x = new KitRows();
            x.kit(5);
            t.due(n + " pieces", x.part(0, 1, n, false), 1);
            x.price(1, 7);
            t.due("cost", x.cost(0), 7 * n);
            x.make(0, 0);
            t.due("needed", x.making(1, 5), n);
            t.due("no loose ones but the tenth", x.stock(1, 10), 10 - n);
            t.due("held", x.making(1, 4), n);
        }
    }

    private static void everyNumberOfPiecesOfAText() {
        for (int n = 0; n <= 12; n++) {
            KitRows x = new KitRows();
            boolean right = n >= 1 && n <= 9;
            t.due("a text with " + n + " pieces", Check.read(x, "K 5 " + n + "*1\n"), right ? 1 : -1 - 4);
            if (right) {
                x.make(0, 0);
                t.due("needed", x.making(1, 5), n);
            }
        }
    }

    private static void anyNumberForAnInstead() {
        int[] all = {Integer.MIN_VALUE, -1, 0, 1, 9, 10, Integer.MAX_VALUE};
        for (int n : all) {
            KitRows x = new KitRows();
            x.kit(5);
            x.part(0, 1, 3, false);
            t.due("instead with n = " + n, x.part(0, 2, n, true), 0);
            x.make(0, 0);
            t.due("as many pieces as before", x.making(1, 5), 3);
            x.substitute(1, 1);
            t.due("as many of the other", x.making(1, 5), 3);
        }
    }

    private static void fiveParts() {
        KitRows x = new KitRows();
        x.kit(5);
        for (int part = 1; part <= 5; part++) {
            t.due("part " + part, x.part(0, part - 1, 1, false), part);
            t.due("its instead", x.part(0, 10 + part, 1, true), 0);
        }
        t.refused(Check.ROOM, "part 6", () -> x.part(0, 6, 1, false));
        x.make(0, 0);
        t.due("pieces of five parts", x.making(1, 5), 5);
        for (int part = 5; part >= 1; part--) {
            x.substitute(1, part);
            x.stock(10 + part, 1);
        }
        t.due("five goods instead", x.making(1, 4), 5);
        for (int step = 1; step <= 5; step++) {
            t.due("left", x.done(1), -6 + step);
            t.due("step " + step, x.step(1, step, true), 1);
        }
        t.due("done", x.done(1), 1);
    }

    private static void fivePartsOfEachRecipe() {
        KitRows x = new KitRows();
        x.kit(5);
        x.price(1, 1);
        for (int recipe = 1; recipe <= 4; recipe++) {
            for (int part = 1; part <= 5; part++) {
                t.due("part " + part, x.part(0, 1, recipe, false), part);
            }
            t.refused(Check.ROOM, "part 6", () -> x.part(0, 1, 1, false));
            if (recipe < 4) {
                t.due("recipe", x.changed(0, recipe), recipe + 1);
            }
        }
        for (int day = 0; day < 4; day++) {
            x.day(day);
            t.due("cost on day " + day, x.cost(0), 5 * (day + 1));
        }
    }

    private static void fourRecipes() {
        KitRows x = new KitRows();
        x.kit(5);
        t.due("the first day that it can be", x.changed(0, 1), 2);
        t.due("recipe 3", x.changed(0, 2), 3);
        t.due("the last day that there is", x.changed(0, 1000), 4);
        KitRows y = new KitRows();
        y.kit(5);
        t.due("the last day at once", y.changed(0, 1000), 2);
        t.refused(Check.STATE, "no day is behind it", () -> y.changed(0, 1000));
        KitRows z = new KitRows();
        z.day(1000);
        z.kit(5);
        t.due("today, the last day", z.changed(0, 1000), 2);
    }

    private static void fourRecipesOfEachKit() {
        KitRows x = new KitRows();
        for (int kit = 0; kit < 12; kit++) {
            x.kit(kit);
        }
        for (int kit = 0; kit < 12; kit++) {
            for (int recipe = 2; recipe <= 4; recipe++) {
                t.due("recipe of kit " + kit, x.changed(kit, recipe), recipe);
            }
        }
        for (int i = 0; i < 12; i++) {
            final int kit = i;
            t.refused(Check.ROOM, "recipe 5 of kit " + kit, () -> x.changed(kit, 5));
        }
    }

    private static void firstAndLastDays() {
        KitRows x = new KitRows();
        x.day(0);
        t.due("day 0", x.count(3), 0);
        x.day(1);
        t.due("day 1", x.count(3), 1);
        x.day(1000);
        t.due("day 1000", x.count(3), 1000);
        x.day(1000);
        t.due("the same day", x.count(3), 1000);
    }

    private static void leastAndHighestPrices() {
        KitRows x = new KitRows();
        x.kit(5);
        x.part(0, 0, 1, false);
        x.part(0, 19, 1, false);
        t.due("0 at first", x.cost(0), 0);
        x.price(0, 1);
        x.price(19, 1000);
        t.due("prices of the first and the last good", x.cost(0), 1001);
        x.price(19, 999);
        t.due("a lesser one", x.cost(0), 1000);
        x.price(19, 0);
        x.price(0, 0);
        t.due("0 again", x.cost(0), 0);
    }

    /** 1000 pieces at 1000 are a million; 1000 of these are the limit. */
    private static void costsAtTheLimit() {
        KitRows x = new KitRows();
        x.price(0, 1000);
        x.price(18, 1);
        for (int good = 1; good <= 3; good++) {
            x.kit(good);
            x.part(good - 1, good - 1, 5, false);
            x.part(good - 1, good - 1, 5, false);
        }
        for (int good = 4; good <= 6; good++) {
            x.kit(good);
            for (int part = 1; part <= 5; part++) {
                x.part(good - 1, good - 1, 2, false);
            }
        }
        t.due("1000 million", x.cost(5), 1000000000);
        x.kit(7);
        x.part(6, 6, 1, false);
        t.due("as a part", x.cost(6), 1000000000);
        x.part(6, 18, 1, false);
        t.due("1000 million and 1", x.cost(6), -1);
        x.price(18, 0);
        t.due("and 0", x.cost(6), 1000000000);
        x.price(0, 999);
        t.due("999 million", x.cost(6), 999000000);
    }

    /** Sums that an int (2 ^ 31 and 2 ^ 32 among them) or a long would take for small ones. */
    private static void costsFarAboveTheLimit() {
        for (int kits = 7; kits <= 12; kits++) {
            KitRows x = new KitRows();
            x.price(19, 1000);
            for (int kit = 0; kit < kits; kit++) {
                x.kit(kit);
                for (int part = 0; part < 5; part++) {
                    x.part(kit, kit == 0 ? 19 : kit - 1, 9, false);
                }
            }
            t.due("45 to the power of " + kits, x.cost(kits - 1), -1);
        }
        KitRows y = new KitRows();
        y.price(19, 512);
        for (int kit = 0; kit < 12; kit++) {
            y.kit(kit);
            y.part(kit, kit == 0 ? 19 : kit - 1, 8, false);
        }
        t.due("2 to the power of 27", y.cost(5), 1 << 27);
        for (int kit = 7; kit < 12; kit++) {
            t.due("2 to the power of " + (12 + 3 * kit), y.cost(kit), -1);
        }
    }

    private static void longestChainOfKits() {
        KitRows x = new KitRows();
        for (int kit = 0; kit < 12; kit++) {
            x.kit(kit);
            x.part(kit, kit + 1, 1, false);
        }
        x.price(12, 1000);
        x.price(0, 1);
        for (int kit = 0; kit < 12; kit++) {
            t.due("cost(" + kit + ") through " + (12 - kit) + " kits", x.cost(kit), 1000);
        }
    }

    private static void ringsOfEveryLength() {
        for (int length = 1; length <= 12; length++) {
            KitRows x = new KitRows();
            for (int kit = 0; kit < length; kit++) {
                x.kit(19 - kit);
            }
            for (int kit = 0; kit + 1 < length; kit++) {
                x.part(kit, 19 - kit - 1, 1, false);
            }
            t.due("a ring of " + length, x.part(length - 1, 19, 1, false), -length);
            t.due("ring(0) is the kit's good", x.ring(0), 19 - (length - 1));
            for (int i = 1; i < length; i++) {
                t.due("ring(" + i + ")", x.ring(i), 19 - (i - 1));
            }
            t.due("ring(-1)", x.ring(-1), -1);
            t.due("ring behind its end", x.ring(length), -1);
            t.due("ring(20)", x.ring(20), -1);
        }
    }

    private static void piecesThatCome() {
        for (int good = 0; good < 20; good++) {
            KitRows x = new KitRows();
            t.due("stock(" + good + ", 1)", x.stock(good, 1), 1);
            t.due("stock(" + good + ", 1000)", x.stock(good, 1000), 1001);
            t.due("loose", x.good(good, 0), 1001);
            t.due("loose ones of another", x.good((good + 1) % 20, 0), 0);
        }
        KitRows y = new KitRows();
        for (int call = 1; call <= 511; call++) {
            y.stock(7, 1000);
        }
        t.due("as many as 511 calls can bring", y.good(7, 0), 511000);
    }

    private static void stations() {
        KitRows x = new KitRows();
        x.kit(5);
        x.part(0, 1, 1, false);
        x.stock(1, 10);
        for (int station = 0; station <= 4; station++) {
            t.due("make(0, " + station + ")", x.make(0, station), station + 1);
            t.due("its station", x.making(station + 1, 2), station);
        }
        for (int station = 0; station <= 4; station++) {
            x.make(0, station);
        }
        for (int m = 6; m <= 10; m++) {
            final int making = m;
            t.refused(Check.STATE, "the second waits", () -> x.step(making, 1, true));
        }
        for (int making = 1; making <= 5; making++) {
            t.due("the first at its station", x.step(making, 1, true), 1);
        }
    }

    private static void fortyMakings() {
        KitRows x = new KitRows();
        Check.read(x, "K 5 1*1 1*2\n");
        for (int making = 1; making <= 40; making++) {
            t.due("the next making", x.make(0, 0), making);
            t.due("makings", x.count(1), making);
        }
        t.refused(Check.ROOM, "making 41", () -> x.make(0, 0));
        t.due("all but the last take these", x.stock(1, 39), 0);
        t.due("the last but one", x.making(39, 4), 1);
        t.due("the last", x.making(40, 4), 0);
        t.due("the last takes one of these", x.stock(1, 2), 1);
        t.due("the last then", x.making(40, 4), 1);
        for (int making = 1; making <= 39; making++) {
            x.drop(making);
        }
        t.due("the last has its turn", x.step(40, 1, true), 1);
        t.refused(Check.ROOM, "making 41 behind all that were dropped", () -> x.make(0, 0));
    }

    private static void fortyUnits() {
        KitRows x = new KitRows();
        Check.read(x, "K 5 1*1\n");
        x.stock(1, 40);
        for (int unit = 1; unit <= 40; unit++) {
            x.make(0, unit % 5);
            x.step(unit, 1, true);
            t.due("the next unit", x.done(unit), unit);
            t.due("units", x.count(2), unit);
        }
        t.due("all are loose", x.good(5, 0), 40);
        t.due("with a piece", x.stock(5, 1), 41);
        t.due("the last one is broken", x.broken(40), 1);
        t.due("units then", x.count(2), 40);
        t.due("loose then", x.good(5, 0), 40);
    }

    /** Each unit is bound in the next, as deep as 12 kits go; then all of them fail at once, or come out one by one. */
    private static void unitsInUnits() {
        KitRows x = new KitRows();
        chainOfUnits(x);
        for (int unit = 1; unit <= 10; unit++) {
            t.due("bound", x.unit(unit, 0), 2);
            t.due("in the next", x.unit(unit, 3), unit + 1);
        }
        x.make(11, 0);
        t.due("held", x.unit(11, 3), 12);
        t.due("it fails", x.step(12, 1, false), 1);
        for (int unit = 1; unit <= 11; unit++) {
            t.due("broken with it", x.unit(unit, 0), 3);
            t.due("in nothing", x.unit(unit, 3), 0);
        }
        t.due("no piece comes back", x.good(19, 0), 0);
        KitRows y = new KitRows();
        chainOfUnits(y);
        for (int unit = 11; unit >= 1; unit--) {
            t.due("broken", y.broken(unit), 1);
            t.due("what was in it is a loose piece", y.good(unit == 1 ? 19 : unit - 2, 0), 1);
            t.due("and it is none", y.good(unit - 1, 0), 0);
        }
    }

    private static void chainOfUnits(KitRows x) {
        for (int kit = 0; kit < 12; kit++) {
            x.kit(kit);
            x.part(kit, kit == 0 ? 19 : kit - 1, 1, false);
        }
        x.stock(19, 1);
        for (int kit = 0; kit < 11; kit++) {
            Check.finish(x, x.make(kit, 0));
        }
    }

    private static void largestMaking() {
        KitRows x = new KitRows();
        Check.read(x, "K 5 9*1 9*1 9*1 9*1 9*1\n");
        x.make(0, 0);
        t.due("needed", x.making(1, 5), 45);
        t.due("one too few", x.stock(1, 44), 0);
        t.due("held", x.making(1, 4), 44);
        for (int step = 1; step <= 4; step++) {
            t.due("step " + step, x.step(1, step, true), 1);
        }
        t.due("step 5 lacks one", x.step(1, 5, true), 0);
        t.due("the last one", x.stock(1, 1), 0);
        t.due("held then", x.making(1, 4), 45);
        t.due("needed then", x.making(1, 5), 0);
        t.due("no more is taken", x.stock(1, 1), 1);
        t.due("step 5", x.step(1, 5, true), 1);
        t.due("unit 1", x.done(1), 1);
        t.due("rows", x.broken(1), 5);
        t.due("all are loose", x.good(1, 0), 46);
    }

    private static void rows() {
        for (int parts = 1; parts <= 5; parts++) {
            KitRows x = new KitRows();
            x.kit(19);
            for (int part = 0; part < parts; part++) {
                x.part(0, part, 9 - part, false);
                x.stock(part, 9);
            }
            Check.finish(x, x.make(0, 4));
            t.due("rows", x.broken(1), parts);
            for (int i = 0; i < parts; i++) {
                t.due("row(" + i + ", 0)", x.row(i, 0), i);
                t.due("row(" + i + ", 1)", x.row(i, 1), 9 - i);
            }
            final int behind = parts;
            t.refused(Check.MISSING, "row(" + parts + ", 0)", () -> x.row(behind, 0));
            t.refused(Check.MISSING, "row(-1, 0)", () -> x.row(-1, 0));
        }
    }

    private static void counts() {
        KitRows x = new KitRows();
        Pasts.work(x);
        int[] due = {5, 11, 4, 3, 9};
        for (int what = -3; what <= 8; what++) {
            t.due("count(" + what + ")", x.count(what), what >= 0 && what < 5 ? due[what] : -1);
        }
        t.due("count(least)", x.count(Integer.MIN_VALUE), -1);
        t.due("count(greatest)", x.count(Integer.MAX_VALUE), -1);
    }
}
