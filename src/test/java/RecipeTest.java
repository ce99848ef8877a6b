/** Promises 4 to 8: kit, part, ring, changed, day. */
public final class RecipeTest {
    private static final Check t = new Check("RecipeTest");

    public static void main(String[] args) {
        kits();
        parts();
        partsRefused();
        insteads();
        ringOfOne();
        shortestRing();
        leastRing();
        ringThroughGood0();
        ringsThroughAllRecipes();
        ringStays();
        recipesByDays();
        changedRefused();
        days();
        t.end();
    }

    private static void kits() {
        KitRows x = new KitRows();
        t.due("kit(19)", x.kit(19), 0);
        t.due("kit(0)", x.kit(0), 1);
        t.due("kit of 19", x.good(19, 1), 0);
        t.due("kit of 0", x.good(0, 1), 1);
        t.refused(Check.ARGUMENT, "kit(-1)", () -> x.kit(-1));
        t.refused(Check.ARGUMENT, "kit(20)", () -> x.kit(20));
        t.refused(Check.STATE, "kit(19) again", () -> x.kit(19));
        t.refused(Check.STATE, "no parts at first", () -> x.make(0, 0));
        t.due("cost(0)", x.cost(0), 0);
        for (int good = 1; good <= 10; good++) {
            t.due("kit(" + good + ")", x.kit(good), good + 1);
        }
        t.refused(Check.ROOM, "kit 13", () -> x.kit(11));
        t.refused(Check.STATE, "has one, ahead of room", () -> x.kit(10));
        t.refused(Check.ARGUMENT, "range, ahead of room", () -> x.kit(20));
        t.due("kits", x.count(0), 12);
        t.due("kit of 11", x.good(11, 1), -1);
    }

    private static void parts() {
        KitRows x = new KitRows();
        x.kit(5);
        x.kit(6);
        for (int p = 1; p <= 5; p++) {
            t.due("part " + p, x.part(0, 4, p, false), p);
        }
        t.due("another kit's first part", x.part(1, 0, 9, false), 1);
        t.due("its second", x.part(1, 19, 1, false), 2);
        x.make(0, 0);
        t.due("pieces of all parts", x.making(1, 5), 15);
        x.make(1, 1);
        t.due("pieces of the other's", x.making(2, 5), 10);
    }

    private static void partsRefused() {
        KitRows x = new KitRows();
        x.kit(5);
        t.refused(Check.MISSING, "part(-1, ..)", () -> x.part(-1, 20, 0, false));
        t.refused(Check.MISSING, "part(1, ..)", () -> x.part(1, 20, 0, true));
        t.refused(Check.ARGUMENT, "good -1", () -> x.part(0, -1, 1, false));
        t.refused(Check.ARGUMENT, "good 20", () -> x.part(0, 20, 1, false));
        t.refused(Check.ARGUMENT, "0 pieces", () -> x.part(0, 1, 0, false));
        t.refused(Check.ARGUMENT, "10 pieces", () -> x.part(0, 1, 10, false));
        t.refused(Check.ARGUMENT, "good 20 instead of nothing", () -> x.part(0, 20, 1, true));
        t.refused(Check.STATE, "instead of nothing", () -> x.part(0, 1, 1, true));
        t.refused(Check.STATE, "its own good instead of nothing", () -> x.part(0, 5, 1, true));
        t.refused(Check.ARGUMENT, "0 pieces, ahead of a ring", () -> x.part(0, 5, 0, false));
        for (int p = 1; p <= 5; p++) {
            x.part(0, 1, 1, false);
        }
        t.refused(Check.ROOM, "part 6", () -> x.part(0, 1, 1, false));
        t.refused(Check.ROOM, "no room, ahead of a ring", () -> x.part(0, 5, 1, false));
        t.refused(Check.ARGUMENT, "range, ahead of room", () -> x.part(0, 1, 10, false));
        t.due("instead when it is full", x.part(0, 2, 0, true), 0);
        t.due("a new recipe has room", x.changed(0, 1), 2);
        t.refused(Check.STATE, "and no part to stand instead of", () -> x.part(0, 3, 1, true));
        t.due("its first part", x.part(0, 1, 1, false), 1);
    }

    private static void insteads() {
        KitRows x = new KitRows();
        x.kit(5);
        x.part(0, 1, 2, false);
        t.refused(Check.STATE, "the same good", () -> x.part(0, 1, 1, true));
        t.due("n is not looked at", x.part(0, 2, -7, true), 0);
        t.refused(Check.STATE, "it has one", () -> x.part(0, 3, 1, true));
        t.refused(Check.STATE, "it has the same one", () -> x.part(0, 2, 1, true));
        t.refused(Check.STATE, "it has one, ahead of a ring", () -> x.part(0, 5, 1, true));
        x.part(0, 3, 1, false);
        t.due("a ring of an instead", x.part(0, 5, 1, true), -1);
        t.due("instead of the last part", x.part(0, 4, 100, true), 0);
        x.make(0, 0);
        x.stock(4, 1);
        x.substitute(1, 2);
        t.due("it stands instead of part 2", x.making(1, 4), 1);
        x.stock(2, 9);
        x.substitute(1, 1);
        t.due("it stands instead of part 1", x.making(1, 4), 3);
    }

    private static void ringOfOne() {
        KitRows x = new KitRows();
        x.kit(7);
        t.due("its own good", x.part(0, 7, 1, false), -1);
        dueRing(x, 7);
        x.part(0, 1, 1, false);
        t.due("parts that were refused are none", x.part(0, 2, 1, false), 2);
        t.due("its own good instead", x.part(0, 7, 1, true), -1);
        dueRing(x, 7);
        t.due("what was refused stands not instead", x.part(0, 3, 1, true), 0);
    }

    private static void shortestRing() {
        KitRows x = new KitRows();
        Check.read(x, "K 1 1*2\nK 2 1*3\nK 3 1*4\n");
        x.kit(4);
        t.due("the long way", x.part(3, 1, 1, false), -4);
        dueRing(x, 4, 1, 2, 3);
        t.due("an instead that leads there sooner", x.part(2, 9, 1, false), 2);
        x.part(0, 3, 1, true);
        t.due("the short way", x.part(3, 1, 1, false), -3);
        dueRing(x, 4, 1, 3);
        t.due("from its middle", x.part(3, 2, 1, false), -3);
        dueRing(x, 4, 2, 3);
        x.part(3, 10, 1, false);
        t.due("an instead stands second", x.part(3, 3, 1, true), -2);
        dueRing(x, 4, 3);
    }

    private static void leastRing() {
        KitRows x = new KitRows();
        Check.read(x, "K 10 1*12 1*9 1*8 1*11\nK 12 1*0\nK 9 1*15 1*14\nK 8 1*13\nK 11 1*15\nK 14 1*1\nK 15 1*1\n");
        x.kit(1);
        t.due("ways by 9 and 11", x.part(x.good(1, 1), 10, 1, false), -4);
        dueRing(x, 1, 10, 9, 14);
        x.kit(0);
        t.due("a shorter way of greater goods", x.part(x.good(0, 1), 10, 1, false), -3);
        dueRing(x, 0, 10, 12);
        x.part(x.good(12, 1), 1, 1, false);
        t.due("the shortest way goes ahead of lesser goods", x.part(x.good(1, 1), 10, 1, false), -3);
        dueRing(x, 1, 10, 12);
    }

    private static void ringThroughGood0() {
        KitRows x = new KitRows();
        Check.read(x, "K 3 1*0 1*1\nK 0 1*4\nK 1 1*4\n");
        x.kit(4);
        t.due("0 is a good like others", x.part(3, 3, 1, false), -3);
        dueRing(x, 4, 3, 0);
        t.due("as a part, too", x.part(3, 0, 1, false), -2);
        dueRing(x, 4, 0);
    }

    private static void ringsThroughAllRecipes() {
        KitRows x = new KitRows();
        x.kit(1);
        x.kit(2);
        x.part(0, 2, 1, false);
        x.changed(0, 5);
        x.part(0, 3, 1, false);
        x.day(10);
        t.due("through a recipe that is over", x.part(1, 1, 1, false), -2);
        dueRing(x, 2, 1);
        x.kit(3);
        x.changed(1, 500);
        x.part(1, 3, 1, false);
        t.due("through a recipe to come", x.part(2, 2, 1, false), -2);
        t.due("no ring where the ways only meet", x.part(0, 2, 1, false), 2);
        t.due("nor over again", x.part(0, 2, 1, false), 3);
    }

    private static void ringStays() {
        KitRows x = new KitRows();
        x.kit(1);
        x.kit(2);
        t.due("none was", x.ring(0), -1);
        x.part(0, 2, 1, false);
        x.part(1, 1, 1, false);
        dueRing(x, 2, 1);
        x.part(0, 3, 1, false);
        x.part(0, 4, 1, true);
        t.refused(Check.STATE, "instead", () -> x.part(0, 4, 1, true));
        t.refused(Check.ARGUMENT, "range", () -> x.part(0, 2, 0, false));
        Check.read(x, "K 3 1*1\n");
        x.changed(0, 3);
        dueRing(x, 2, 1);
        x.part(1, 2, 1, false);
        dueRing(x, 2);
        t.due("ring(least)", x.ring(Integer.MIN_VALUE), -1);
        t.due("ring(greatest)", x.ring(Integer.MAX_VALUE), -1);
    }

    private static void recipesByDays() {
        KitRows x = new KitRows();
        x.kit(5);
        x.price(1, 1);
        x.part(0, 1, 1, false);
        t.due("changed(0, 3)", x.changed(0, 3), 2);
        t.due("the new recipe's first part", x.part(0, 1, 2, false), 1);
        t.due("changed(0, 4)", x.changed(0, 4), 3);
        x.part(0, 1, 3, false);
        t.due("changed(0, 1000)", x.changed(0, 1000), 4);
        x.part(0, 1, 4, false);
        int[] days = {0, 2, 3, 4, 999, 1000};
        int[] costs = {1, 1, 2, 3, 3, 4};
        for (int i = 0; i < days.length; i++) {
            x.day(days[i]);
            t.due("cost on day " + days[i], x.cost(0), costs[i]);
        }
        t.due("a part of the last recipe", x.part(0, 1, 5, false), 2);
        t.due("cost then", x.cost(0), 9);
    }

    private static void changedRefused() {
        KitRows x = new KitRows();
        x.day(10);
        x.kit(5);
        t.refused(Check.MISSING, "changed(1, 2000)", () -> x.changed(1, 2000));
        t.refused(Check.MISSING, "changed(-1, 10)", () -> x.changed(-1, 10));
        t.refused(Check.ARGUMENT, "changed(0, -1)", () -> x.changed(0, -1));
        t.refused(Check.ARGUMENT, "changed(0, 1001)", () -> x.changed(0, 1001));
        t.refused(Check.STATE, "yesterday", () -> x.changed(0, 9));
        x.part(0, 1, 1, false);
        t.due("today", x.changed(0, 10), 2);
        t.refused(Check.STATE, "today's recipe has no parts", () -> x.make(0, 0));
        t.refused(Check.STATE, "today again", () -> x.changed(0, 10));
        x.changed(0, 20);
        t.refused(Check.STATE, "between its recipes", () -> x.changed(0, 15));
        t.refused(Check.STATE, "on its last recipe's day", () -> x.changed(0, 20));
        t.due("recipe 4", x.changed(0, 21), 4);
        t.refused(Check.ROOM, "recipe 5", () -> x.changed(0, 22));
        t.refused(Check.STATE, "too early, ahead of room", () -> x.changed(0, 21));
        t.refused(Check.ARGUMENT, "range, ahead of room", () -> x.changed(0, 1001));
        KitRows y = new KitRows();
        y.kit(1);
        t.refused(Check.STATE, "day 0 is the first recipe's", () -> y.changed(0, 0));
        t.due("day 1", y.changed(0, 1), 2);
    }

    private static void days() {
        KitRows x = new KitRows();
        x.day(0);
        x.day(7);
        x.day(7);
        t.due("today", x.count(3), 7);
        t.refused(Check.STATE, "day(6)", () -> x.day(6));
        t.refused(Check.ARGUMENT, "day(-1)", () -> x.day(-1));
        t.refused(Check.ARGUMENT, "day(1001)", () -> x.day(1001));
        t.due("today is as it was", x.count(3), 7);
        x.day(1000);
        t.due("the last day", x.count(3), 1000);
    }

    private static void dueRing(KitRows x, int... goods) {
        for (int i = 0; i < goods.length; i++) {
            t.due("ring(" + i + ")", x.ring(i), goods[i]);
        }
        t.due("ring behind its end", x.ring(goods.length), -1);
        t.due("ring(-1)", x.ring(-1), -1);
    }
}
