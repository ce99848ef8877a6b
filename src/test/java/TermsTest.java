/** The sentences of 'Terms', one by one: above each test stands the one that it is of. */
public final class TermsTest {
    private static final Check t = new Check("TermsTest");

    public static void main(String[] args) {
        oneKitForAGood();
        firstRecipeFromDay0();
        greatestDayNotLater();
        leadsByParts();
        leadsByInsteads();
        leadsByAllRecipes();
        leadsNotByOthers();
        unitsOfAllKits();
        recipeOfTheDayItWasBegun();
        asManyAsAreNeeded();
        partsInTheirOrder();
        looseByStock();
        looseByDrop();
        looseByDone();
        looseByBroken();
        looseBySubstitute();
        onlyOpenOnesTake();
        takenAsItBegins();
        takenWhenOneFails();
        piecesAheadOfUnits();
        lesserUnitsFirst();
        stepsInTheirOrder();
        leastNumberAtItsStation();
        waitingOnesHold();
        t.end();
    }

    /** "A KIT makes one good, which has no other kit." */
    private static void oneKitForAGood() {
        KitRows x = new KitRows();
        x.kit(5);
        t.refused(Check.STATE, "told twice", () -> x.kit(5));
        t.due("told and read", Check.read(x, "K 5 1*1\n"), -1 - 2);
        t.due("read", Check.read(x, "K 6 1*1\n"), 2);
        t.refused(Check.STATE, "read and told", () -> x.kit(6));
        t.due("read twice", Check.read(x, "K 6 1*1\n"), -1 - 2);
        t.due("twice in a text", Check.read(x, "K 7 1*1\nK 8 1*1\nK 7 1*1\n"), -1 - 18);
        t.due("not kept, so it may be told", x.kit(7), 2);
    }

    /** "A kit has RECIPES, each from a day on; the first one from day 0." */
    private static void firstRecipeFromDay0() {
        KitRows x = new KitRows();
        x.day(500);
        x.kit(5);
        x.part(0, 1, 2, false);
        t.due("a making on the day of the kit", x.make(0, 0), 1);
        t.due("by its first recipe", x.making(1, 5), 2);
        t.due("the next from the same day on", x.changed(0, 500), 2);
        KitRows y = new KitRows();
        y.kit(5);
        t.refused(Check.STATE, "another from day 0 on", () -> y.changed(0, 0));
        KitRows z = new KitRows();
        Check.read(z, "K 5 1*1\n");
        t.refused(Check.STATE, "another from day 0 on, of a text's kit", () -> z.changed(0, 0));
        t.due("from day 1 on", z.changed(0, 1), 2);
    }

    /** "TODAY's recipe is the one with the greatest day that is not later than today." */
    private static void greatestDayNotLater() {
        int[] days = {0, 9, 10, 11, 19, 20, 21, 999, 1000};
        int[] due = {1, 1, 2, 2, 2, 3, 3, 3, 4};
        for (int i = 0; i < days.length; i++) {
            KitRows x = new KitRows();
            x.kit(5);
            x.price(1, 100);
            x.part(0, 1, 1, false);
            int[] from = {10, 20, 1000};
            for (int recipe = 0; recipe < 3; recipe++) {
                x.changed(0, from[recipe]);
                x.part(0, 1, recipe + 2, false);
            }
            x.day(days[i]);
            t.due("cost on day " + days[i], x.cost(0), 100 * due[i]);
            x.make(0, 0);
            t.due("pieces on day " + days[i], x.making(1, 5), due[i]);
        }
    }

    /** "A good LEADS to the goods .. of all recipes of its kit, and to all to which these lead" */
    private static void leadsByParts() {
        KitRows x = new KitRows();
        Check.read(x, "K 1 1*2 1*3\nK 2 1*4\nK 3 1*5\n");
        for (int good = 4; good <= 5; good++) {
            x.kit(good);
        }
        t.due("4 of 1", x.part(3, 1, 1, false), -3);
        t.due("4 of 2", x.part(3, 2, 1, false), -2);
        t.due("4 of 3 is none", x.part(3, 3, 1, false), 1);
        t.due("5 of 4 is one now", x.part(4, 4, 1, false), -3);
        t.due("5 of 2, which leads to 4", x.part(4, 2, 1, false), -4);
        t.due("5 of 19", x.part(4, 19, 1, false), 1);
    }

    /** "(parts and instead)" */
    private static void leadsByInsteads() {
        KitRows x = new KitRows();
        Check.read(x, "K 1 1*10/2\nK 2 1*11/3\n");
        x.kit(3);
        x.part(2, 12, 1, false);
        t.due("3 of 2", x.part(2, 2, 1, false), -2);
        t.due("3 of 1", x.part(2, 1, 1, false), -3);
        t.due("2 instead, in 3", x.part(2, 2, 1, true), -2);
        t.due("ring(0)", x.ring(0), 3);
        t.due("the good that would stand instead", x.ring(1), 2);
        t.due("1 instead, in 3", x.part(2, 1, 1, true), -3);
        t.due("a text's ring by insteads", Check.read(x, "K 10 1*13/1\n"), -1 - 10);
        t.due("10 instead, in 3", x.part(2, 10, 1, true), 0);
    }

    /** "of all recipes of its kit": those that are over, today's, and those to come. */
    private static void leadsByAllRecipes() {
        KitRows x = new KitRows();
        x.kit(1);
        int[] days = {0, 5, 7, 100};
        for (int recipe = 0; recipe < 4; recipe++) {
            if (recipe > 0) {
                x.changed(0, days[recipe]);
            }
            x.part(0, 10 + recipe, 1, false);
            x.part(0, 15 + recipe, 1, true);
        }
        x.day(8);
        for (int recipe = 0; recipe < 4; recipe++) {
            int part = 10 + recipe;
            int instead = 15 + recipe;
            t.due("a ring by recipe " + recipe, Check.read(x, "K " + part + " 1*1\n"), -1 - 7);
            t.due("a ring by its instead", Check.read(x, "K " + instead + " 1*1\n"), -1 - 7);
            int kit = x.kit(part);
            t.due("told, a ring by recipe " + recipe, x.part(kit, 1, 1, false), -2);
            kit = x.kit(instead);
            t.due("told, a ring by its instead", x.part(kit, 1, 1, false), -2);
        }
        x.day(1000);
        t.due("a ring stays one", x.part(x.good(10, 1), 1, 1, false), -2);
    }

    /** "no good leads to itself": and what leads nowhere makes no ring. */
    private static void leadsNotByOthers() {
        KitRows x = new KitRows();
        x.kit(1);
        x.kit(2);
        x.kit(3);
        t.due("1 of 3", x.part(0, 3, 1, false), 1);
        t.due("2 of 3", x.part(1, 3, 1, false), 1);
        t.due("1 of 2", x.part(0, 2, 1, false), 2);
        t.due("1 of 2 again", x.part(0, 2, 1, false), 3);
        t.due("3 of 4", x.part(2, 4, 1, false), 1);
        t.due("no part() was refused", x.ring(0), -1);
        t.due("a part that was refused", x.part(2, 1, 1, false), -2);
        t.due("does not lead to it: 3 of 5", x.part(2, 5, 1, false), 2);
        t.due("1 of 5", x.part(0, 5, 1, false), 4);
        x.kit(5);
        t.due("5 of 1 is a ring by 1 alone", x.part(3, 1, 1, false), -2);
        t.due("5 of 4 is none", x.part(3, 4, 1, false), 1);
    }

    /** "UNITS of a good that has a kit are made one by one and numbered 1, 2, .." */
    private static void unitsOfAllKits() {
        KitRows x = new KitRows();
        Check.read(x, "K 5 1*1\nK 6 1*2\n");
        x.stock(1, 2);
        x.stock(2, 2);
        int[] kits = {1, 0, 0, 1};
        for (int i = 0; i < kits.length; i++) {
            t.due("the next unit", Check.finish(x, x.make(kits[i], i)), i + 1);
            t.due("its good", x.unit(i + 1, 1), 5 + kits[i]);
        }
        x.broken(2);
        x.stock(1, 1);
        t.due("a broken one's number is not used again", Check.finish(x, x.make(0, 0)), 5);
    }

    /** "A MAKING is of a kit, by the recipe that was today's when it was begun" */
    private static void recipeOfTheDayItWasBegun() {
        KitRows x = new KitRows();
        x.kit(5);
        x.part(0, 1, 1, false);
        x.changed(0, 10);
        x.part(0, 2, 2, false);
        x.day(9);
        x.make(0, 0);
        x.day(10);
        x.make(0, 1);
        x.stock(1, 5);
        x.stock(2, 5);
        t.due("of the day before", x.making(1, 4), 1);
        t.due("of the day itself", x.making(2, 4), 2);
        t.due("pieces of 1", x.good(1, 0), 4);
        t.due("pieces of 2", x.good(2, 0), 3);
        t.due("unit 1", Check.finish(x, 1), 1);
        t.due("unit 2", Check.finish(x, 2), 2);
        x.broken(1);
        t.due("the older is of 1", x.row(0, 0), 1);
        x.broken(2);
        t.due("the newer is of 2", x.row(0, 0), 2);
    }

    /** "as many as are needed at most" */
    private static void asManyAsAreNeeded() {
        KitRows x = new KitRows();
        Check.read(x, "K 5 3*1\n");
        x.make(0, 0);
        t.due("one too few", x.stock(1, 2), 0);
        t.due("needed", x.making(1, 5), 1);
        t.due("the last and no more", x.stock(1, 2), 1);
        t.due("held", x.making(1, 4), 3);
        t.due("needed then", x.making(1, 5), 0);
        x.make(0, 1);
        t.due("one is held as it begins", x.making(2, 4), 1);
        t.due("none is loose", x.good(1, 0), 0);
        t.due("just as many", x.stock(1, 2), 0);
        t.due("held then", x.making(2, 4), 3);
        t.due("all are loose that come now", x.stock(1, 1), 1);
    }

    /** "as it begins, by parts, as many as are loose" */
    private static void partsInTheirOrder() {
        for (int loose = 0; loose <= 7; loose++) {
            KitRows x = new KitRows();
            Check.read(x, "K 5 2*1 1*2 3*1\n");
            if (loose > 0) {
                x.stock(1, loose);
            }
            x.stock(2, 1);
            x.make(0, 0);
            t.due("held of " + loose, x.making(1, 4), 1 + Math.min(loose, 5));
            t.due("step 1 with " + loose, x.step(1, 1, true), loose >= 2 ? 1 : 0);
            if (loose >= 2) {
                x.step(1, 2, true);
                t.due("step 3 with " + loose, x.step(1, 3, true), loose >= 5 ? 1 : 0);
            }
            t.due("left of " + loose, x.good(1, 0), Math.max(0, loose - 5));
        }
    }

    /** "Whenever pieces become loose, the open makings that need some take them at once, those with lesser numbers
     * first, by parts, as many as they need and are there": three makings of two parts, as many pieces as there may be.
     */
    private static void looseByStock() {
        for (int n = 1; n <= 14; n++) {
            KitRows x = new KitRows();
            Check.read(x, "K 5 1*1 3*1\n");
            for (int making = 1; making <= 3; making++) {
                x.make(0, 3 - making);
            }
            t.due("left of " + n, x.stock(1, n), Math.max(0, n - 12));
            dueShares(x, 1, n, 3);
        }
    }

    private static void looseByDrop() {
        for (int n = 1; n <= 9; n++) {
            KitRows x = new KitRows();
            Check.read(x, "K 6 9*1\nK 5 1*1 3*1\n");
            x.make(0, 0);
            x.stock(1, n);
            for (int making = 2; making <= 3; making++) {
                x.make(1, making);
            }
            x.drop(1);
            dueShares(x, 2, n, 2);
            t.due("left of " + n, x.good(1, 0), Math.max(0, n - 8));
        }
    }

    /** A unit that is done is a loose piece of its good. */
    private static void looseByDone() {
        KitRows x = new KitRows();
        Check.read(x, "K 6 1*2\nK 5 1*6 2*6\n");
        x.make(1, 0);
        x.make(1, 1);
        x.stock(2, 7);
        int[] holders = {1, 1, 1, 2, 2, 2, 0};
        for (int unit = 1; unit <= 7; unit++) {
            Check.finish(x, x.make(0, 2));
            t.due("held by", x.unit(unit, 3), holders[unit - 1]);
            t.due("state", x.unit(unit, 0), holders[unit - 1] == 0 ? 0 : 1);
            dueShareOf(x, 1, Math.min(unit, 3), 3);
            dueShareOf(x, 2, Math.max(0, Math.min(unit - 3, 3)), 3);
        }
        t.due("one is loose", x.good(6, 0), 1);
    }

    private static void looseByBroken() {
        for (int n = 1; n <= 9; n++) {
            KitRows x = new KitRows();
            x.kit(6);
            x.part(0, 1, n, false);
            x.kit(5);
            x.part(1, 1, 1, false);
            x.part(1, 1, 3, false);
            x.stock(1, n);
            Check.finish(x, x.make(0, 0));
            x.make(1, 1);
            x.make(1, 2);
            t.due("rows", x.broken(1), 1);
            dueShares(x, 2, n, 2);
            t.due("left of " + n, x.good(1, 0), Math.max(0, n - 8));
        }
    }

    private static void looseBySubstitute() {
        for (int n = 1; n <= 9; n++) {
            KitRows x = new KitRows();
            Check.read(x, "K 6 9*1/3\nK 5 1*1 3*1\n");
            x.make(0, 0);
            x.stock(1, n);
            x.make(1, 2);
            x.make(1, 1);
            x.substitute(1, 1);
            dueShares(x, 2, n, 2);
            t.due("left of " + n, x.good(1, 0), Math.max(0, n - 8));
            t.due("it holds none", x.making(1, 4), 0);
            t.due("it needs all", x.making(1, 5), 9);
        }
    }

    /** So many pieces, for makings of 1 and 3 pieces each: the first gets all that it needs, then the next. */
    private static void dueShares(KitRows x, int first, int pieces, int makings) {
        int left = pieces;
        for (int making = first; making < first + makings; making++) {
            int share = Math.min(left, 4);
            dueShareOf(x, making, share, 4);
            if (share > 0) {
                t.due("part 1 has its piece", x.step(making, 1, true), 1);
                t.due("part 2 has what is left", x.step(making, 2, true), share == 4 ? 1 : 0);
            } else {
                t.due("part 1 has none", x.step(making, 1, true), 0);
            }
            if (making + 1 < first + makings) {
                left -= share;
            }
        }
    }

    private static void dueShareOf(KitRows x, int making, int held, int all) {
        t.due("making " + making + " holds", x.making(making, 4), held);
        t.due("making " + making + " needs", x.making(making, 5), all - held);
    }

    /** "the open makings" */
    private static void onlyOpenOnesTake() {
        KitRows x = new KitRows();
        Check.read(x, "K 5 2*1\n");
        x.make(0, 0);
        x.drop(1);
        t.due("a dropped one takes none", x.stock(1, 1), 1);
        x.make(0, 0);
        x.stock(1, 1);
        Check.finish(x, 2);
        t.due("a done one takes none", x.stock(1, 2), 2);
        t.due("the dropped one holds", x.making(1, 4), 0);
        t.due("the done one holds", x.making(2, 4), 0);
        x.broken(1);
        t.due("nor behind its unit is broken", x.good(1, 0), 4);
    }

    /** "as it begins .. as many as are loose": what others hold is not loose. */
    private static void takenAsItBegins() {
        KitRows x = new KitRows();
        Check.read(x, "K 5 2*1\nK 6 1*5 1*1\n");
        x.stock(1, 3);
        x.make(0, 4);
        x.make(0, 3);
        t.due("the second holds what is left", x.making(2, 4), 1);
        t.due("the first holds all", x.making(1, 4), 2);
        Check.finish(x, 1);
        x.stock(1, 2);
        x.make(1, 2);
        t.due("a unit and a piece", x.making(3, 4), 2);
        t.due("the unit is held", x.unit(1, 3), 3);
        t.due("pieces are left", x.good(1, 0), 0);
    }

    /** "the pieces that it holds for it are no more .. and it takes others" */
    private static void takenWhenOneFails() {
        for (int loose = 0; loose <= 3; loose++) {
            KitRows x = new KitRows();
            Check.read(x, "K 5 2*1 1*1\n");
            x.stock(1, 3 + loose);
            x.make(0, 0);
            t.due("it fails with " + loose + " loose", x.step(1, 1, false), 1);
            t.due("held", x.making(1, 4), 1 + Math.min(loose, 2));
            t.due("loose", x.good(1, 0), Math.max(0, loose - 2));
            t.due("steps", x.making(1, 3), 0);
            t.due("again", x.step(1, 1, false), loose >= 2 ? 1 : 0);
            t.due("part 2 keeps its piece", x.making(1, 4), loose == 1 ? 2 : loose == 3 ? 2 : 1);
        }
    }

    /** "Of loose pieces those that are no units are taken first" */
    private static void piecesAheadOfUnits() {
        for (int pieces = 0; pieces <= 3; pieces++) {
            KitRows x = new KitRows();
            Check.read(x, "K 5 1*1\nK 6 2*5\n");
            x.stock(1, 2);
            Check.finish(x, x.make(0, 0));
            Check.finish(x, x.make(0, 0));
            if (pieces > 0) {
                x.stock(5, pieces);
            }
            x.make(1, 1);
            t.due("unit 1 with " + pieces + " pieces", x.unit(1, 0), pieces < 2 ? 1 : 0);
            t.due("unit 2 with " + pieces + " pieces", x.unit(2, 0), pieces < 1 ? 1 : 0);
            t.due("loose", x.good(5, 0), pieces);
            x.drop(3);
            t.due("all are loose again", x.good(5, 0), pieces + 2);
            t.due("unit 1 is", x.unit(1, 0), 0);
        }
    }

    /** "then units with lesser numbers": whenever they became loose. */
    private static void lesserUnitsFirst() {
        KitRows x = new KitRows();
        Check.read(x, "K 5 1*1\nK 6 1*5\nK 7 2*5\n");
        x.stock(1, 4);
        for (int unit = 1; unit <= 4; unit++) {
            Check.finish(x, x.make(0, 0));
        }
        x.make(1, 1);
        x.make(1, 2);
        t.due("unit 1", x.unit(1, 3), 5);
        t.due("unit 2", x.unit(2, 3), 6);
        x.drop(5);
        x.make(2, 3);
        t.due("unit 1 became loose last and is taken first", x.unit(1, 3), 7);
        t.due("unit 3 next", x.unit(3, 3), 7);
        t.due("unit 4 is loose", x.unit(4, 0), 0);
        x.drop(6);
        x.make(1, 4);
        t.due("unit 2 ahead of unit 4", x.unit(2, 3), 8);
        t.due("unit 4 is loose still", x.unit(4, 3), 0);
    }

    /** "step k of a making is its part k (from 1 on); steps are made in their order" */
    private static void stepsInTheirOrder() {
        KitRows x = new KitRows();
        Check.read(x, "K 5 1*1 1*2 1*3 1*4 1*6\n");
        x.make(0, 0);
        int[] goods = {1, 2, 3, 4, 6};
        for (int n = 1; n <= 5; n++) {
            t.due("steps made", x.making(1, 3), n - 1);
            for (int other = 0; other <= 6; other++) {
                if (other != n) {
                    final int step = other;
                    t.refused(Check.STATE, "step " + other + " where " + n + " is next", () -> x.step(1, step, true));
                }
            }
            t.due("its part lacks a piece", x.step(1, n, true), 0);
            x.stock(goods[n - 1], 1);
            t.due("its part has it", x.step(1, n, true), 1);
        }
        t.refused(Check.STATE, "step 6", () -> x.step(1, 6, true));
        t.due("all are made", x.done(1), 1);
    }

    /** "The making at a station is the open one with the least number there; others wait." */
    private static void leastNumberAtItsStation() {
        KitRows x = new KitRows();
        Check.read(x, "K 5 1*1\n");
        x.stock(1, 9);
        for (int making = 1; making <= 4; making++) {
            x.make(0, 2);
        }
        x.make(0, 0);
        t.due("another station's is at it", x.step(5, 1, true), 1);
        dueAtStation(x, 1, 4);
        x.drop(2);
        dueAtStation(x, 1, 4);
        x.step(1, 1, true);
        t.refused(Check.STATE, "it is there with all steps made", () -> x.step(3, 1, true));
        x.done(1);
        dueAtStation(x, 3, 4);
        x.drop(3);
        dueAtStation(x, 4, 4);
        x.make(0, 2);
        t.refused(Check.STATE, "a new one waits", () -> x.step(6, 1, true));
        x.drop(4);
        t.due("and has its turn", x.step(6, 1, true), 1);
    }

    /** A step that fails changes neither the order nor, with pieces enough, what is held. */
    private static void dueAtStation(KitRows x, int first, int last) {
        t.due("making " + first + " is at the station", x.step(first, 1, false), 1);
        x.stock(1, 1);
        for (int m = first + 1; m <= last; m++) {
            final int making = m;
            t.refused(Check.STATE, "making " + making + " waits", () -> x.step(making, 1, true));
        }
    }

    /** "others wait": but they hold pieces, may be substituted, asked and dropped. */
    private static void waitingOnesHold() {
        KitRows x = new KitRows();
        Check.read(x, "K 5 1*1/2\n");
        x.make(0, 0);
        x.make(0, 0);
        x.stock(1, 2);
        t.due("it holds", x.making(2, 4), 1);
        t.due("one step is left", x.done(2), -1);
        x.substitute(2, 1);
        t.due("it lets go", x.good(1, 0), 1);
        x.stock(2, 1);
        t.due("it holds another", x.making(2, 4), 1);
        x.drop(2);
        t.due("dropped", x.making(2, 0), 2);
        t.due("what it held is loose", x.good(2, 0), 1);
    }
}
