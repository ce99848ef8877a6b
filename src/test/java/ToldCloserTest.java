/** The sentences of 'TOLD CLOSER', one by one: above each test stands the one that it is of. */
public final class ToldCloserTest {
    private static final Check t = new Check("ToldCloserTest");
    private static final Twins twins = new Twins(t);

    public static void main(String[] args) {
        laterPartsAreNotForIt();
        failingAnswersOne();
        failingTwice();
        failingBreaksWhatIsBound();
        failingLeavesOtherUnits();
        ringBehindAllRefusals();
        ownGoodIsARingOfOne();
        ringOfAnInstead();
        ringStays();
        shortestThenLeast();
        nothingIsCollectedThen();
        stockTellsWhatIsLeft();
        substituteIsOfferedToAll();
        substituteOfUnits();
        substituteTwoParts();
        doneTellsStepsFirst();
        heldAndNeededOfClosedOnes();
        brokenTellsWhatWasTaken();
        unitsComeOutAsThemselves();
        rowsOfTheLastBroken();
        changedForToday();
        costWithoutParts();
        insteadsCostNothing();
        t.end();
    }

    /** "a making goes by the recipe as it was when it was begun (a part() or a good instead that comes later is not
     * for it)" */
    private static void laterPartsAreNotForIt() {
        KitRows x = new KitRows();
        x.kit(5);
        x.part(0, 1, 1, false);
        x.make(0, 0);
        x.part(0, 2, 1, true);
        x.part(0, 3, 1, false);
        x.make(0, 1);
        t.due("the older needs", x.making(1, 5), 1);
        t.due("the newer needs", x.making(2, 5), 2);
        t.refused(Check.STATE, "no good instead for the older", () -> x.substitute(1, 1));
        t.refused(Check.ARGUMENT, "no part 2 for the older", () -> x.substitute(1, 2));
        x.substitute(2, 1);
        t.refused(Check.STATE, "no good instead of part 2", () -> x.substitute(2, 2));
        x.stock(1, 1);
        t.due("one step of the older", x.step(1, 1, true), 1);
        t.due("it is done", x.done(1), 1);
        t.due("it has one row", x.broken(1), 1);
        t.due("a substitution is for its making alone", x.make(0, 2), 3);
        t.due("the next takes of the first good", x.making(3, 4), 1);
    }

    /** "step() with good false answers 1 where all is held; the step isn't made" */
    private static void failingAnswersOne() {
        KitRows x = new KitRows();
        Check.read(x, "K 5 1*1 1*2\n");
        x.stock(1, 1);
        x.stock(2, 1);
        x.make(0, 0);
        t.due("all is held", x.step(1, 1, false), 1);
        t.due("no step is made", x.making(1, 3), 0);
        t.due("steps are left", x.done(1), -2);
        t.due("nothing is held for it then", x.step(1, 1, false), 0);
        t.due("nor to be made", x.step(1, 1, true), 0);
        t.refused(Check.STATE, "step 2 is not the next", () -> x.step(1, 2, true));
        t.due("the other part's piece is held", x.making(1, 4), 1);
        t.due("no piece is loose", x.good(1, 0), 0);
        x.stock(1, 1);
        t.due("it is made with another piece", x.step(1, 1, true), 1);
        t.due("the last one fails", x.step(1, 2, false), 1);
        t.due("one step is made", x.making(1, 3), 1);
        t.due("one is left", x.done(1), -1);
    }

    private static void failingTwice() {
        KitRows x = new KitRows();
        Check.read(x, "K 5 2*1\n");
        x.stock(1, 6);
        x.make(0, 0);
        for (int left = 2; left >= 0; left -= 2) {
            t.due("it fails", x.step(1, 1, false), 1);
            t.due("left", x.good(1, 0), left);
            t.due("held", x.making(1, 4), 2);
        }
        t.due("it fails the third time", x.step(1, 1, false), 1);
        t.due("held then", x.making(1, 4), 0);
        t.due("needed then", x.making(1, 5), 2);
        t.due("it can't fail without pieces", x.step(1, 1, false), 0);
    }

    /** "all that is bound in a unit that fails so is BROKEN, too (its unit(.., 3) 0)" */
    private static void failingBreaksWhatIsBound() {
        KitRows x = new KitRows();
        Check.read(x, "K 5 1*1\nK 6 2*5 1*1\nK 7 1*6 1*5\nK 8 1*7\n");
        x.stock(1, 4);
        for (int unit = 1; unit <= 3; unit++) {
            Check.finish(x, x.make(0, 0));
        }
        t.due("unit 4, with 1 and 2 and a piece", Check.finish(x, x.make(1, 0)), 4);
        t.due("unit 5, with 4 and 3", Check.finish(x, x.make(2, 0)), 5);
        int[] in = {4, 4, 5, 5};
        for (int unit = 1; unit <= 4; unit++) {
            t.due("bound", x.unit(unit, 0), 2);
            t.due("bound in", x.unit(unit, 3), in[unit - 1]);
        }
        x.make(3, 0);
        t.due("it fails", x.step(6, 1, false), 1);
        for (int unit = 1; unit <= 5; unit++) {
            t.due("broken", x.unit(unit, 0), 3);
            t.due("in nothing", x.unit(unit, 3), 0);
        }
        t.due("its good is told still", x.unit(5, 1), 7);
        t.due("its making is told still", x.unit(5, 2), 5);
        for (int good = 0; good < 20; good++) {
            t.due("no loose piece of " + good, x.good(good, 0), 0);
        }
        t.due("no unit less", x.count(2), 5);
        t.refused(Check.MISSING, "no rows by this", () -> x.row(0, 0));
    }

    /** Only what is held for that part of that making fails. */
    private static void failingLeavesOtherUnits() {
        KitRows x = new KitRows();
        Check.read(x, "K 5 1*1\nK 6 1*5 1*5\nK 7 1*5\n");
        x.stock(1, 6);
        for (int unit = 1; unit <= 6; unit++) {
            Check.finish(x, x.make(0, 0));
        }
        x.make(1, 0);
        x.make(2, 1);
        Check.finish(x, x.make(2, 2));
        t.due("unit 4 is bound in another", x.unit(4, 3), 7);
        x.step(7, 1, true);
        t.due("its second step fails", x.step(7, 2, false), 1);
        int[] states = {1, 3, 1, 2, 1, 0, 0};
        for (int unit = 1; unit <= 7; unit++) {
            t.due("state of unit " + unit, x.unit(unit, 0), states[unit - 1]);
        }
        t.due("unit 5 came for it", x.unit(5, 3), 7);
        t.due("unit 1 is where it was", x.unit(1, 3), 7);
        t.due("unit 3 is where it was", x.unit(3, 3), 8);
    }

    /** "part(): a ring is looked at behind all REFUSALS": and then no ring is kept. */
    private static void ringBehindAllRefusals() {
        KitRows x = new KitRows();
        x.kit(5);
        t.refused(Check.ARGUMENT, "no pieces, and a ring", () -> x.part(0, 5, 0, false));
        t.refused(Check.STATE, "no part, and a ring", () -> x.part(0, 5, 1, true));
        x.part(0, 1, 1, false);
        x.part(0, 2, 1, true);
        t.refused(Check.STATE, "one instead, and a ring", () -> x.part(0, 5, 1, true));
        for (int part = 2; part <= 5; part++) {
            x.part(0, 1, 1, false);
        }
        t.refused(Check.ROOM, "no room, and a ring", () -> x.part(0, 5, 1, false));
        t.due("none of these kept a ring", x.ring(0), -1);
        t.due("a ring with a part to stand instead of", x.part(0, 5, 1, true), -1);
        t.due("this one did", x.ring(0), 5);
    }

    /** "the kit's own good as a part is a ring of 1" */
    private static void ownGoodIsARingOfOne() {
        for (int good = 0; good < 20; good++) {
            KitRows x = new KitRows();
            x.kit(good);
            t.due("its own good " + good, x.part(0, good, 1, false), -1);
            t.due("ring(0)", x.ring(0), good);
            t.due("ring(1)", x.ring(1), -1);
            t.due("it has no part", x.part(0, (good + 1) % 20, 1, false), 1);
            t.due("its own good instead", x.part(0, good, 1, true), -1);
            t.due("ring(0) then", x.ring(0), good);
            t.due("ring(1) then", x.ring(1), -1);
        }
    }

    /** "ring() of an instead has the good that would stand instead second" */
    private static void ringOfAnInstead() {
        KitRows x = new KitRows();
        Check.read(x, "K 1 1*2\nK 2 1*3\n");
        x.kit(3);
        x.part(2, 9, 1, false);
        t.due("a ring of 3", x.part(2, 1, 1, true), -3);
        dueRing(x, 3, 1, 2);
        t.due("a ring of 2", x.part(2, 2, 1, true), -2);
        dueRing(x, 3, 2);
    }

    /** "and stays till the next that is refused": whatever is called meanwhile. */
    private static void ringStays() {
        KitRows x = new KitRows();
        Check.read(x, "K 1 1*2\nK 2 1*3\n");
        x.kit(3);
        x.part(2, 1, 1, false);
        dueRing(x, 3, 1, 2);
        t.due("a part that is none", x.part(2, 9, 1, false), 1);
        t.due("an instead that makes none", x.part(2, 10, 1, true), 0);
        t.refused(Check.MISSING, "no such kit", () -> x.part(3, 3, 1, false));
        t.refused(Check.ARGUMENT, "no such good", () -> x.part(2, 20, 1, false));
        t.refused(Check.STATE, "it has one", () -> x.part(2, 3, 1, true));
        t.due("a text with a ring", Check.read(x, "K 9 1*9\n"), -1 - 6);
        t.due("a text", Check.read(x, "K 11 1*9\n"), 4);
        x.changed(2, 1);
        x.day(1);
        dueRing(x, 3, 1, 2);
        t.due("the next", x.part(3, 11, 1, false), -1);
        dueRing(x, 11);
    }

    /** "as short as it may be, of such ones that with the least goods, compared from the first on" */
    private static void shortestThenLeast() {
        KitRows x = new KitRows();
        Check.read(x, "K 9 1*8 1*3 1*7\nK 3 1*10\nK 10 1*1\nK 8 1*2\nK 7 1*6\nK 2 1*0\nK 6 1*0\n");
        x.kit(0);
        t.due("by 7 and 6 or by 8 and 2", x.part(7, 9, 1, false), -4);
        dueRing(x, 0, 9, 7, 6);
        x.kit(1);
        t.due("by 3 and 10 alone", x.part(8, 9, 1, false), -4);
        dueRing(x, 1, 9, 3, 10);
        x.part(x.good(10, 1), 0, 1, false);
        t.due("3 is less than 7, though 10 is more than 6", x.part(7, 9, 1, false), -4);
        dueRing(x, 0, 9, 3, 10);
        x.part(x.good(8, 1), 0, 1, false);
        t.due("a shorter one by 8", x.part(7, 9, 1, false), -3);
        dueRing(x, 0, 9, 8);
        x.part(x.good(9, 1), 0, 1, false);
        t.due("the shortest", x.part(7, 9, 1, false), -2);
        dueRing(x, 0, 9);
    }

    private static void dueRing(KitRows x, int... goods) {
        for (int i = 0; i < goods.length; i++) {
            t.due("ring(" + i + ")", x.ring(i), goods[i]);
        }
        t.due("ring behind its end", x.ring(goods.length), -1);
    }

    /** "read(): nothing is collected then, also where it throws" */
    private static void nothingIsCollectedThen() {
        KitRows x = new KitRows();
        Check.read(x, "K 5 1*1\n");
        t.due("behind a right text", x.count(4), 0);
        t.due("so the next is empty", x.read(), 1);
        Check.read(x, "K 6 1*");
        t.due("behind a wrong text", x.count(4), 0);
        t.due("so the next is empty again", x.read(), 1);
        KitRows y = new KitRows();
        Pasts.kitsFull(y);
        Check.signAll(y, "K 15 1*16\n");
        t.refused(Check.ROOM, "no room", () -> y.read());
        t.due("behind one without room", y.count(4), 0);
        t.due("so the next is empty, too", y.read(), 12);
        KitRows z = new KitRows();
        z.sign('K');
        z.count(4);
        z.kit(5);
        z.sign(' ');
        t.due("other calls leave what is collected", z.count(4), 2);
        Check.signAll(z, "6 1*5\n");
        t.due("and it goes on", z.read(), 2);
    }

    /** "stock() tells pieces and units of that good that are loose behind what makings took" */
    private static void stockTellsWhatIsLeft() {
        KitRows x = new KitRows();
        Check.read(x, "K 5 1*1\nK 6 2*5\n");
        x.stock(1, 3);
        for (int unit = 1; unit <= 3; unit++) {
            Check.finish(x, x.make(0, 0));
        }
        t.due("three units and two pieces", x.stock(5, 2), 5);
        x.make(1, 1);
        x.make(1, 2);
        t.due("a unit and one piece more", x.stock(5, 1), 2);
        x.make(1, 3);
        t.due("all are taken", x.good(5, 0), 0);
        x.make(1, 4);
        t.due("a making takes the piece", x.stock(5, 1), 0);
        t.due("and one of these", x.stock(5, 3), 2);
        t.due("of another good", x.stock(6, 1), 1);
    }

    /** "substitute(): what becomes loose is offered to all open makings in turn, other parts of this one too" */
    private static void substituteIsOfferedToAll() {
        KitRows x = new KitRows();
        Check.read(x, "K 5 2*1\nK 6 3*1/2 2*1\nK 7 1*1\n");
        x.make(1, 0);
        x.stock(1, 3);
        x.stock(1, 1);
        x.make(0, 1);
        x.make(2, 2);
        x.substitute(1, 1);
        t.due("part 2 took one, which it lacked", x.making(1, 4), 2);
        t.due("the next took two", x.making(2, 4), 2);
        t.due("the last has none", x.making(3, 4), 0);
        t.due("none is loose", x.good(1, 0), 0);
        t.due("it takes of the other good", x.stock(2, 4), 1);
        t.due("its first step", x.step(1, 1, true), 1);
        t.due("its second", x.step(1, 2, true), 1);

        KitRows y = new KitRows();
        Check.read(y, "K 5 2*1\nK 6 3*1/2\n");
        y.stock(1, 5);
        y.make(0, 0);
        y.make(1, 1);
        y.step(1, 1, false);
        t.due("the first lacks two", y.making(1, 5), 2);
        y.stock(2, 2);
        y.substitute(2, 1);
        t.due("an earlier one took two", y.making(1, 4), 2);
        t.due("one is loose", y.good(1, 0), 1);
        t.due("it took of the other good as it was substituted", y.making(2, 4), 2);
        t.due("and needs one still", y.making(2, 5), 1);
    }

    private static void substituteOfUnits() {
        KitRows x = new KitRows();
        Check.read(x, "K 5 1*1\nK 6 1*2\nK 7 2*5/6\n");
        x.stock(1, 2);
        x.stock(2, 1);
        Check.finish(x, x.make(0, 0));
        Check.finish(x, x.make(1, 0));
        Check.finish(x, x.make(0, 0));
        x.stock(6, 1);
        x.make(2, 0);
        t.due("unit 1 is held", x.unit(1, 3), 4);
        t.due("unit 3 is held", x.unit(3, 3), 4);
        x.substitute(4, 1);
        t.due("unit 1 is loose", x.unit(1, 0), 0);
        t.due("unit 1 is in nothing", x.unit(1, 3), 0);
        t.due("unit 3 is loose", x.unit(3, 0), 0);
        t.due("two loose pieces", x.good(5, 0), 2);
        t.due("unit 2 is held behind the piece", x.unit(2, 3), 4);
        t.due("none is loose of the other", x.good(6, 0), 0);
        t.due("unit 4", Check.finish(x, 4), 4);
        t.due("unit 2 is bound in it", x.unit(2, 3), 4);
    }

    /** Two parts that are one another's insteads: each lets go for the other. */
    private static void substituteTwoParts() {
        KitRows x = new KitRows();
        Check.read(x, "K 5 2*1/2 2*2/1\n");
        x.stock(1, 2);
        x.make(0, 0);
        x.substitute(1, 1);
        t.due("nothing of the other good is there", x.making(1, 4), 0);
        t.due("two are loose", x.good(1, 0), 2);
        x.substitute(1, 2);
        t.due("part 2 took these", x.making(1, 4), 2);
        t.due("step 1 lacks its pieces", x.step(1, 1, true), 0);
        t.due("part 1 takes its own", x.stock(2, 3), 1);
        t.due("step 1", x.step(1, 1, true), 1);
        t.refused(Check.STATE, "step 1 is made", () -> x.substitute(1, 1));
        t.refused(Check.STATE, "part 2 is so already", () -> x.substitute(1, 2));
        Check.finish(x, 1);
        x.broken(1);
        t.due("row(0, 0)", x.row(0, 0), 2);
        t.due("row(1, 0)", x.row(1, 0), 1);
    }

    /** "done() tells steps that are left ahead of asking for room": with as many units as there can be. */
    private static void doneTellsStepsFirst() {
        KitRows x = new KitRows();
        Check.read(x, "K 5 1*1 1*1\n");
        x.stock(1, 78);
        for (int unit = 1; unit <= 39; unit++) {
            x.make(0, 0);
            x.step(unit, 1, true);
            x.step(unit, 2, true);
            x.done(unit);
        }
        x.make(0, 0);
        t.due("units", x.count(2), 39);
        t.due("two steps are left", x.done(40), -2);
        x.stock(1, 2);
        x.step(40, 1, true);
        t.due("one step is left", x.done(40), -1);
        x.step(40, 2, true);
        t.due("unit 40", x.done(40), 40);
    }

    /** "making() 4 and 5 are 0 of one that is not open" */
    private static void heldAndNeededOfClosedOnes() {
        KitRows x = new KitRows();
        Check.read(x, "K 5 2*1 3*2\n");
        x.stock(1, 5);
        x.stock(2, 4);
        x.make(0, 0);
        t.due("held", x.making(1, 4), 5);
        x.step(1, 1, true);
        x.step(1, 2, true);
        t.due("held till it is done", x.making(1, 4), 5);
        x.done(1);
        t.due("done: held", x.making(1, 4), 0);
        t.due("done: needed", x.making(1, 5), 0);
        x.make(0, 0);
        t.due("held by the next", x.making(2, 4), 3);
        t.due("needed by the next", x.making(2, 5), 2);
        x.drop(2);
        t.due("dropped: held", x.making(2, 4), 0);
        t.due("dropped: needed", x.making(2, 5), 0);
        t.due("dropped: its unit", x.making(2, 6), 0);
        x.broken(1);
        t.due("held behind its unit is broken", x.making(1, 4), 0);
        t.due("needed behind its unit is broken", x.making(1, 5), 0);
    }

    /** "broken() tells the good that was taken" */
    private static void brokenTellsWhatWasTaken() {
        KitRows x = new KitRows();
        Check.read(x, "K 5 2*1/2 3*3/4\n");
        x.stock(1, 2);
        x.stock(2, 2);
        x.stock(3, 3);
        x.stock(4, 3);
        for (int making = 1; making <= 2; making++) {
            x.make(0, 0);
            x.substitute(making, making == 1 ? 1 : 2);
            Check.finish(x, making);
        }
        t.due("all are in the units", x.good(1, 0) + x.good(2, 0) + x.good(3, 0) + x.good(4, 0), 0);
        t.due("rows", x.broken(1), 2);
        dueRow(x, 0, 2, 2);
        dueRow(x, 1, 3, 3);
        t.due("pieces of 2", x.good(2, 0), 2);
        t.due("pieces of 1", x.good(1, 0), 0);
        t.due("rows", x.broken(2), 2);
        dueRow(x, 0, 1, 2);
        dueRow(x, 1, 4, 3);
        t.due("pieces of 4", x.good(4, 0), 3);
        t.due("pieces of 1 then", x.good(1, 0), 2);
    }

    /** "units become loose as themselves" */
    private static void unitsComeOutAsThemselves() {
        KitRows x = new KitRows();
        Check.read(x, "K 5 1*1\nK 6 3*5\n");
        x.stock(1, 2);
        Check.finish(x, x.make(0, 0));
        Check.finish(x, x.make(0, 0));
        x.stock(5, 1);
        Check.finish(x, x.make(1, 0));
        t.due("one row", x.broken(3), 1);
        dueRow(x, 0, 5, 3);
        for (int unit = 1; unit <= 2; unit++) {
            t.due("loose", x.unit(unit, 0), 0);
            t.due("in nothing", x.unit(unit, 3), 0);
        }
        t.due("two units and a piece", x.good(5, 0), 3);
        t.due("they can be broken in turn", x.broken(2), 1);
        dueRow(x, 0, 1, 1);
        t.due("one piece of 1", x.good(1, 0), 1);
        t.due("a unit and a piece are left", x.good(5, 0), 2);
        t.due("no more units", x.count(2), 3);
    }

    /** "Row i of the unit that was broken last by broken()": not of one that failed, nor of one that was not loose. */
    private static void rowsOfTheLastBroken() {
        KitRows x = new KitRows();
        Check.read(x, "K 5 1*1\nK 6 1*5 1*2\nK 7 2*3/4\n");
        x.stock(1, 2);
        x.stock(2, 1);
        x.stock(3, 2);
        Check.finish(x, x.make(2, 0));
        Check.finish(x, x.make(0, 0));
        Check.finish(x, x.make(0, 0));
        x.make(1, 0);
        t.due("one row", x.broken(1), 1);
        t.due("a unit fails", x.step(4, 1, false), 1);
        t.due("unit 2 is broken by it", x.unit(2, 0), 3);
        dueRow(x, 0, 3, 2);
        t.refused(Check.STATE, "unit 3 is held", () -> x.broken(3));
        t.refused(Check.STATE, "unit 2 is broken", () -> x.broken(2));
        dueRow(x, 0, 3, 2);
        t.refused(Check.MISSING, "row(1, 0)", () -> x.row(1, 0));
        Check.finish(x, 4);
        t.due("two rows", x.broken(4), 2);
        dueRow(x, 0, 5, 1);
        dueRow(x, 1, 2, 1);
        t.due("one row again", x.broken(3), 1);
        dueRow(x, 0, 1, 1);
        t.refused(Check.MISSING, "no row is left of the one before", () -> x.row(1, 0));
    }

    private static void dueRow(KitRows x, int i, int good, int pieces) {
        t.due("row(" + i + ", 0)", x.row(i, 0), good);
        t.due("row(" + i + ", 1)", x.row(i, 1), pieces);
    }

    /** "changed() may be for today" */
    private static void changedForToday() {
        KitRows x = new KitRows();
        x.kit(5);
        x.part(0, 1, 1, false);
        x.price(1, 10);
        x.day(7);
        t.refused(Check.STATE, "for yesterday", () -> x.changed(0, 6));
        t.due("for today", x.changed(0, 7), 2);
        t.due("it counts at once", x.cost(0), 0);
        t.refused(Check.STATE, "and has no parts", () -> x.make(0, 0));
        x.part(0, 1, 2, false);
        t.due("its part", x.cost(0), 20);
        t.refused(Check.STATE, "for today once more", () -> x.changed(0, 7));
        t.due("for tomorrow", x.changed(0, 8), 3);
        t.due("which does not count yet", x.cost(0), 20);
        x.part(0, 1, 3, false);
        t.due("nor its part", x.cost(0), 20);
        x.day(8);
        t.due("tomorrow it does", x.cost(0), 30);
    }

    /** "a recipe without parts costs 0 (the good's price is not asked for)" */
    private static void costWithoutParts() {
        KitRows x = new KitRows();
        x.price(5, 1000);
        x.price(6, 1000);
        x.kit(6);
        x.part(0, 5, 9, false);
        t.due("5 has a price", x.cost(0), 9000);
        x.kit(5);
        t.due("5 has a kit without parts", x.cost(1), 0);
        t.due("and so has no price in another", x.cost(0), 0);
        x.part(1, 1, 1, false);
        x.price(1, 2);
        t.due("5 has a part", x.cost(0), 18);
        x.changed(1, 1);
        x.day(1);
        t.due("5 has none today", x.cost(0), 0);
    }

    /** "goods instead don't count in cost()" */
    private static void insteadsCostNothing() {
        KitRows x = new KitRows();
        Check.read(x, "K 5 2*1/2\nK 6 1*7/5\n");
        x.price(1, 10);
        x.price(2, 1);
        x.price(7, 100);
        t.due("cost(0)", x.cost(0), 20);
        t.due("cost(1)", x.cost(1), 100);
        x.stock(2, 2);
        x.make(0, 0);
        x.substitute(1, 1);
        Check.finish(x, 1);
        t.due("nor behind a making took some", x.cost(0), 20);
        twins.asked(20, "cost(0)", y -> Check.read(y, "K 5 2*1/2\nK 6 1*7/5\n"), y -> {
            y.price(1, 10);
            int cost = y.cost(0);
            y.price(1, 0);
            return cost;
        });
    }
}
