/** Promises 11 to 16: stock, make, substitute, step, done, drop. */
public final class MakingTest {
    private static final Check t = new Check("MakingTest");

    public static void main(String[] args) {
        stock();
        stockGoesToMakings();
        begin();
        makeRefused();
        recipeAsItWasBegun();
        substitute();
        substituteOffersToAll();
        substituteRefused();
        steps();
        stepsRefused();
        failing();
        stations();
        done();
        unitsAreTakenAtOnce();
        drop();
        dropLoosensAllAtOnce();
        t.end();
    }

    private static void stock() {
        KitRows x = new KitRows();
        t.due("stock(0, 1)", x.stock(0, 1), 1);
        t.due("stock(0, 1000)", x.stock(0, 1000), 1001);
        t.due("stock(19, 1000)", x.stock(19, 1000), 1000);
        t.refused(Check.ARGUMENT, "stock(-1, 1)", () -> x.stock(-1, 1));
        t.refused(Check.ARGUMENT, "stock(20, 1)", () -> x.stock(20, 1));
        t.refused(Check.ARGUMENT, "stock(0, 0)", () -> x.stock(0, 0));
        t.refused(Check.ARGUMENT, "stock(0, 1001)", () -> x.stock(0, 1001));
        t.due("as before", x.good(0, 0), 1001);
        for (int i = 0; i < 200; i++) {
            x.stock(0, 1000);
        }
        t.due("pieces have no limit", x.good(0, 0), 201001);
    }

    private static void stockGoesToMakings() {
        KitRows x = new KitRows();
        Check.read(x, "K 5 3*1 1*2 2*1\nK 6 4*1\n");
        x.make(0, 0);
        x.make(1, 0);
        x.make(0, 1);
        t.due("the lesser number first", x.stock(1, 4), 0);
        dueHeld(x, 1, 4, 2);
        dueHeld(x, 2, 0, 4);
        t.due("by parts", x.step(1, 1, true), 1);
        t.due("then the next", x.stock(1, 3), 0);
        dueHeld(x, 1, 5, 1);
        dueHeld(x, 2, 2, 2);
        dueHeld(x, 3, 0, 6);
        t.due("what is left is loose", x.stock(1, 10), 3);
        dueHeld(x, 2, 4, 0);
        dueHeld(x, 3, 5, 1);
        t.due("pieces of another good", x.stock(2, 3), 1);
        t.due("nobody needs these", x.stock(3, 3), 3);
    }

    private static void begin() {
        KitRows x = new KitRows();
        Check.read(x, "K 5 3*1 1*2 2*1\n");
        x.stock(1, 4);
        x.stock(2, 2);
        t.due("make(0, 4)", x.make(0, 4), 1);
        dueHeld(x, 1, 5, 1);
        t.due("state", x.making(1, 0), 0);
        t.due("kit", x.making(1, 1), 0);
        t.due("station", x.making(1, 2), 4);
        t.due("steps", x.making(1, 3), 0);
        t.due("unit", x.making(1, 6), 0);
        t.due("loose pieces of 1", x.good(1, 0), 0);
        t.due("loose pieces of 2", x.good(2, 0), 1);
        t.due("its last part lacks one", x.step(1, 1, true), 1);
        t.due("make(0, 0)", x.make(0, 0), 2);
        dueHeld(x, 2, 1, 5);
    }

    private static void makeRefused() {
        KitRows x = new KitRows();
        Check.read(x, "K 5 1*1\n");
        x.kit(6);
        t.refused(Check.MISSING, "make(2, 9)", () -> x.make(2, 9));
        t.refused(Check.MISSING, "make(-1, 0)", () -> x.make(-1, 0));
        t.refused(Check.ARGUMENT, "make(0, -1)", () -> x.make(0, -1));
        t.refused(Check.ARGUMENT, "make(0, 5)", () -> x.make(0, 5));
        t.refused(Check.ARGUMENT, "range, ahead of a recipe without parts", () -> x.make(1, 5));
        t.refused(Check.STATE, "no parts", () -> x.make(1, 0));
        x.changed(1, 3);
        x.part(1, 1, 1, false);
        t.refused(Check.STATE, "no parts today", () -> x.make(1, 0));
        for (int i = 1; i <= 40; i++) {
            t.due("making " + i, x.make(0, i % 5), i);
        }
        t.refused(Check.ROOM, "making 41", () -> x.make(0, 0));
        t.refused(Check.STATE, "no parts, ahead of room", () -> x.make(1, 0));
        t.refused(Check.ARGUMENT, "range, ahead of room", () -> x.make(0, 5));
        x.drop(1);
        t.refused(Check.ROOM, "a dropped making counts", () -> x.make(0, 0));
        t.due("makings", x.count(1), 40);
    }

    private static void recipeAsItWasBegun() {
        KitRows x = new KitRows();
        x.kit(5);
        x.part(0, 1, 2, false);
        x.make(0, 0);
        x.part(0, 2, 0, true);
        x.part(0, 3, 4, false);
        t.due("a later part is not for it", x.making(1, 5), 2);
        t.refused(Check.ARGUMENT, "nor has it a second part", () -> x.substitute(1, 2));
        t.refused(Check.STATE, "nor a later good instead", () -> x.substitute(1, 1));
        x.changed(0, 1);
        x.day(1);
        x.part(0, 4, 9, false);
        t.due("nor a later recipe", x.making(1, 5), 2);
        x.make(0, 0);
        t.due("the next goes by today's", x.making(2, 5), 9);
        x.stock(1, 2);
        t.due("step", x.step(1, 1, true), 1);
        t.due("all steps are made", x.done(1), 1);
        t.due("rows", x.broken(1), 1);
    }

    private static void substitute() {
        KitRows x = new KitRows();
        Check.read(x, "K 5 3*1/2 1*3/4\n");
        x.stock(1, 2);
        x.stock(2, 5);
        x.make(0, 0);
        dueHeld(x, 1, 2, 2);
        x.substitute(1, 1);
        dueHeld(x, 1, 3, 1);
        t.due("what it held is loose", x.good(1, 0), 2);
        t.due("it took of the other", x.good(2, 0), 2);
        x.stock(1, 1);
        t.due("it takes no more of the first", x.good(1, 0), 3);
        x.substitute(1, 2);
        x.stock(3, 1);
        dueHeld(x, 1, 3, 1);
        t.due("loose pieces of 3", x.good(3, 0), 1);
        t.due("pieces that come later", x.stock(4, 2), 1);
        dueHeld(x, 1, 4, 0);
        x.make(0, 1);
        t.due("another making is as it was told", x.good(1, 0), 0);
    }

    private static void substituteOffersToAll() {
        KitRows x = new KitRows();
        Check.read(x, "K 5 2*1/2 3*1\nK 6 1*1\n");
        x.make(0, 0);
        x.stock(1, 2);
        x.make(1, 1);
        dueHeld(x, 1, 2, 3);
        x.substitute(1, 1);
        dueHeld(x, 1, 2, 3);
        dueHeld(x, 2, 0, 1);
        t.due("other parts of this making took them", x.good(1, 0), 0);
        x.stock(2, 2);
        t.due("it was part 2", x.step(1, 1, true), 1);
        t.due("which needs one more", x.step(1, 2, true), 0);

        KitRows y = new KitRows();
        Check.read(y, "K 5 1*1\nK 6 2*1/2\n");
        y.stock(1, 3);
        y.make(0, 0);
        y.make(1, 1);
        y.step(1, 1, false);
        y.make(0, 2);
        dueHeld(y, 1, 0, 1);
        y.substitute(2, 1);
        dueHeld(y, 1, 1, 0);
        dueHeld(y, 2, 0, 2);
        dueHeld(y, 3, 1, 0);
        t.due("none is loose", y.good(1, 0), 0);
    }

    private static void substituteRefused() {
        KitRows x = new KitRows();
        Check.read(x, "K 5 1*1/2 1*3\n");
        x.stock(1, 2);
        x.stock(3, 2);
        x.make(0, 0);
        x.make(0, 1);
        t.refused(Check.MISSING, "substitute(0, 9)", () -> x.substitute(0, 9));
        t.refused(Check.MISSING, "substitute(3, 1)", () -> x.substitute(3, 1));
        t.refused(Check.ARGUMENT, "part 0", () -> x.substitute(1, 0));
        t.refused(Check.ARGUMENT, "part 3", () -> x.substitute(1, 3));
        t.refused(Check.ARGUMENT, "part -1", () -> x.substitute(1, -1));
        t.refused(Check.STATE, "no good instead", () -> x.substitute(1, 2));
        x.substitute(2, 1);
        t.refused(Check.STATE, "it is so already", () -> x.substitute(2, 1));
        x.step(1, 1, true);
        t.refused(Check.STATE, "the step is made", () -> x.substitute(1, 1));
        dueHeld(x, 1, 2, 0);
        x.step(1, 2, true);
        x.done(1);
        t.refused(Check.STATE, "done", () -> x.substitute(1, 1));
        t.refused(Check.ARGUMENT, "no such part, ahead of done", () -> x.substitute(1, 3));
        x.make(0, 2);
        x.drop(3);
        t.refused(Check.STATE, "dropped", () -> x.substitute(3, 1));
        t.refused(Check.ARGUMENT, "no such part, ahead of dropped", () -> x.substitute(3, 0));
    }

    private static void steps() {
        KitRows x = new KitRows();
        Check.read(x, "K 5 1*1 2*2\n");
        x.make(0, 0);
        t.due("nothing is held", x.step(1, 1, true), 0);
        t.due("nor can it fail", x.step(1, 1, false), 0);
        x.stock(2, 1);
        x.stock(1, 1);
        t.due("step 1", x.step(1, 1, true), 1);
        t.due("steps", x.making(1, 3), 1);
        dueHeld(x, 1, 2, 1);
        t.due("a part of it is not enough", x.step(1, 2, true), 0);
        t.due("nor to fail", x.step(1, 2, false), 0);
        dueHeld(x, 1, 2, 1);
        x.stock(2, 1);
        t.due("step 2", x.step(1, 2, true), 1);
        t.due("steps then", x.making(1, 3), 2);
        dueHeld(x, 1, 3, 0);
    }

    private static void stepsRefused() {
        KitRows x = new KitRows();
        Check.read(x, "K 5 1*1 1*1\n");
        t.refused(Check.MISSING, "step(1, 1, ..)", () -> x.step(1, 1, true));
        x.make(0, 0);
        t.refused(Check.MISSING, "step(0, 1, ..)", () -> x.step(0, 1, true));
        t.refused(Check.MISSING, "step(2, 1, ..)", () -> x.step(2, 1, true));
        t.refused(Check.STATE, "step 2 first", () -> x.step(1, 2, true));
        t.refused(Check.STATE, "step 0", () -> x.step(1, 0, true));
        t.refused(Check.STATE, "step -1", () -> x.step(1, -1, false));
        x.stock(1, 9);
        x.step(1, 1, true);
        t.refused(Check.STATE, "step 1 again", () -> x.step(1, 1, true));
        t.refused(Check.STATE, "step 3", () -> x.step(1, 3, false));
        x.step(1, 2, true);
        t.refused(Check.STATE, "behind all", () -> x.step(1, 3, true));
        t.refused(Check.STATE, "the last again", () -> x.step(1, 2, false));
        x.done(1);
        t.refused(Check.STATE, "done", () -> x.step(1, 3, true));
        x.make(0, 0);
        x.drop(2);
        t.refused(Check.STATE, "dropped", () -> x.step(2, 1, true));
    }

    private static void failing() {
        KitRows x = new KitRows();
        Check.read(x, "K 5 3*1 1*2\n");
        x.stock(1, 5);
        x.stock(2, 1);
        x.make(0, 0);
        t.due("it fails", x.step(1, 1, false), 1);
        t.due("the step isn't made", x.making(1, 3), 0);
        dueHeld(x, 1, 3, 1);
        t.due("others were taken", x.good(1, 0), 0);
        t.due("two are not enough", x.step(1, 1, true), 0);
        x.stock(1, 4);
        t.due("loose pieces", x.good(1, 0), 3);
        t.due("it fails again", x.step(1, 1, false), 1);
        dueHeld(x, 1, 4, 0);
        t.due("all others were taken", x.good(1, 0), 0);
        t.due("step 1", x.step(1, 1, true), 1);
        t.due("step 2 fails", x.step(1, 2, false), 1);
        dueHeld(x, 1, 3, 1);
        t.due("steps", x.making(1, 3), 1);
    }

    private static void stations() {
        KitRows x = new KitRows();
        Check.read(x, "K 5 1*1\n");
        x.stock(1, 9);
        x.make(0, 3);
        x.make(0, 2);
        x.make(0, 3);
        x.make(0, 3);
        t.refused(Check.STATE, "making 3 waits", () -> x.step(3, 1, true));
        t.due("another station", x.step(2, 1, true), 1);
        t.due("the first one", x.step(1, 1, true), 1);
        t.refused(Check.STATE, "it is there till it is done", () -> x.step(3, 1, true));
        x.done(1);
        t.refused(Check.STATE, "making 4 waits on", () -> x.step(4, 1, true));
        t.due("making 3", x.step(3, 1, false), 1);
        x.drop(3);
        t.due("making 4", x.step(4, 1, true), 1);
        x.make(0, 2);
        t.refused(Check.STATE, "behind one with all steps made", () -> x.step(5, 1, true));
    }

    private static void done() {
        KitRows x = new KitRows();
        Check.read(x, "K 5 1*1 1*2 1*3\n");
        t.refused(Check.MISSING, "done(0)", () -> x.done(0));
        t.refused(Check.MISSING, "done(1)", () -> x.done(1));
        x.make(0, 0);
        t.due("three steps are left", x.done(1), -3);
        x.stock(1, 1);
        x.stock(2, 1);
        x.stock(3, 1);
        x.step(1, 1, true);
        t.due("two are", x.done(1), -2);
        x.step(1, 2, true);
        t.due("one is", x.done(1), -1);
        x.step(1, 3, true);
        t.due("still open", x.making(1, 0), 0);
        t.due("unit 1", x.done(1), 1);
        t.due("state", x.making(1, 0), 1);
        t.due("its unit", x.making(1, 6), 1);
        t.due("its steps", x.making(1, 3), 3);
        dueHeld(x, 1, 0, 0);
        t.due("the unit is loose", x.unit(1, 0), 0);
        t.due("a piece of its good", x.good(5, 0), 1);
        t.due("units", x.count(2), 1);
        t.refused(Check.STATE, "done again", () -> x.done(1));
        x.make(0, 0);
        x.drop(2);
        t.refused(Check.STATE, "dropped", () -> x.done(2));
        t.due("stock tells units too", x.stock(5, 2), 3);
    }

    private static void unitsAreTakenAtOnce() {
        KitRows x = new KitRows();
        Check.read(x, "K 5 1*1\nK 6 2*5\n");
        x.make(1, 0);
        x.make(1, 1);
        x.stock(1, 4);
        for (int making = 3; making <= 6; making++) {
            x.make(0, 2);
            t.due("a unit", Check.finish(x, making), making - 2);
        }
        int[] holders = {1, 1, 2, 2};
        for (int unit = 1; unit <= 4; unit++) {
            t.due("held", x.unit(unit, 0), 1);
            t.due("by", x.unit(unit, 3), holders[unit - 1]);
        }
        t.due("no piece is loose", x.good(5, 0), 0);
        t.due("unit 5", Check.finish(x, 1), 5);
        t.due("bound", x.unit(1, 0), 2);
        t.due("in", x.unit(2, 3), 5);
        t.due("held by another still", x.unit(3, 3), 2);
    }

    private static void drop() {
        KitRows x = new KitRows();
        Check.read(x, "K 5 1*1 2*2\n");
        t.refused(Check.MISSING, "drop(1)", () -> x.drop(1));
        x.stock(1, 1);
        x.stock(2, 1);
        x.make(0, 0);
        x.make(0, 1);
        x.step(1, 1, true);
        t.refused(Check.MISSING, "drop(0)", () -> x.drop(0));
        t.refused(Check.MISSING, "drop(3)", () -> x.drop(3));
        x.drop(1);
        t.due("state", x.making(1, 0), 2);
        t.due("its steps", x.making(1, 3), 1);
        t.due("no unit", x.making(1, 6), 0);
        dueHeld(x, 1, 0, 0);
        dueHeld(x, 2, 2, 1);
        t.refused(Check.STATE, "drop again", () -> x.drop(1));
        x.drop(2);
        t.due("pieces of the step that was made", x.good(1, 0), 1);
        t.due("pieces of the other", x.good(2, 0), 1);
        x.stock(2, 1);
        x.make(0, 0);
        x.stock(2, 5);
        x.drop(3);
        t.due("they come to those that are loose", x.good(2, 0), 7);
        x.make(0, 0);
        Check.finish(x, 4);
        t.refused(Check.STATE, "it is done", () -> x.drop(4));
    }

    private static void dropLoosensAllAtOnce() {
        KitRows x = new KitRows();
        Check.read(x, "K 5 1*1\nK 6 1*5 1*5\nK 7 1*5\n");
        x.stock(1, 1);
        x.make(0, 0);
        Check.finish(x, 1);
        x.make(1, 1);
        t.due("its first part holds the unit", x.unit(1, 3), 2);
        x.stock(5, 1);
        x.make(2, 2);
        dueHeld(x, 3, 0, 1);
        x.drop(2);
        t.due("pieces that are no units are taken first", x.unit(1, 0), 0);
        dueHeld(x, 3, 1, 0);
        t.due("the unit is a loose piece", x.good(5, 0), 1);
    }

    private static void dueHeld(KitRows x, int making, int held, int needed) {
        t.due("making " + making + " holds", x.making(making, 4), held);
        t.due("making " + making + " needs", x.making(making, 5), needed);
    }
}
