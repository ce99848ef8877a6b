/** Promises 17 to 22: broken, row, making, unit, good, count. */
public final class UnitTest {
    private static final Check t = new Check("UnitTest");

    public static void main(String[] args) {
        broken();
        fiveParts();
        brokenRefused();
        brokenTellsWhatWasTaken();
        unitsBecomeLooseAsThemselves();
        brokenPartsAreTaken();
        brokenLoosensAllAtOnce();
        unitsOfLesserNumbersFirst();
        failingBreaksAllThatIsBound();
        rowsStay();
        makingAsked();
        unitAsked();
        goodAsked();
        counts();
        t.end();
    }

    private static void broken() {
        KitRows x = new KitRows();
        Check.read(x, "K 5 3*1 1*2 2*1\n");
        x.stock(1, 5);
        x.stock(2, 1);
        x.make(0, 0);
        Check.finish(x, 1);
        t.due("all is in it", x.good(1, 0), 0);
        t.due("rows", x.broken(1), 3);
        dueRow(x, 0, 1, 3);
        dueRow(x, 1, 2, 1);
        dueRow(x, 2, 1, 2);
        t.refused(Check.MISSING, "row(3, 0)", () -> x.row(3, 0));
        t.refused(Check.MISSING, "row(-1, 0)", () -> x.row(-1, 0));
        t.due("its pieces are loose", x.good(1, 0), 5);
        t.due("of the other good, too", x.good(2, 0), 1);
        t.due("the unit is no piece", x.good(5, 0), 0);
        t.due("state", x.unit(1, 0), 3);
        t.due("in nothing", x.unit(1, 3), 0);
        t.due("its good is told still", x.unit(1, 1), 5);
        t.due("and its making", x.unit(1, 2), 1);
        t.due("the making's unit is told still", x.making(1, 6), 1);
        t.due("it is a unit still", x.count(2), 1);
        x.make(0, 0);
        t.due("the next number", Check.finish(x, 2), 2);
    }

    private static void fiveParts() {
        KitRows x = new KitRows();
        Check.read(x, "K 5 1*0 2*1 3*2 4*3 9*4\n");
        for (int good = 0; good < 5; good++) {
            x.stock(good, 10);
        }
        x.make(0, 0);
        t.due("it holds", x.making(1, 4), 19);
        x.drop(1);
        x.make(0, 0);
        Check.finish(x, 2);
        t.due("rows", x.broken(1), 5);
        int[] pieces = {1, 2, 3, 4, 9};
        for (int part = 0; part < 5; part++) {
            dueRow(x, part, part, pieces[part]);
            t.due("all pieces are loose", x.good(part, 0), 10);
        }
        t.refused(Check.MISSING, "row(5, 0)", () -> x.row(5, 0));
    }

    private static void brokenRefused() {
        KitRows x = new KitRows();
        Check.read(x, "K 5 1*1\nK 6 1*5\n");
        t.refused(Check.MISSING, "broken(1)", () -> x.broken(1));
        x.stock(1, 1);
        x.make(0, 0);
        Check.finish(x, 1);
        t.refused(Check.MISSING, "broken(0)", () -> x.broken(0));
        t.refused(Check.MISSING, "broken(2)", () -> x.broken(2));
        x.make(1, 0);
        t.refused(Check.STATE, "held", () -> x.broken(1));
        Check.finish(x, 2);
        t.refused(Check.STATE, "bound", () -> x.broken(1));
        t.due("the one in which it is", x.broken(2), 1);
        t.refused(Check.STATE, "broken", () -> x.broken(2));
        t.due("loose again", x.broken(1), 1);
    }

    private static void brokenTellsWhatWasTaken() {
        KitRows x = new KitRows();
        Check.read(x, "K 5 2*1/2 1*3/4\n");
        x.stock(2, 2);
        x.stock(3, 1);
        x.make(0, 0);
        x.substitute(1, 1);
        Check.finish(x, 1);
        x.changed(0, 1);
        x.day(1);
        x.part(0, 9, 9, false);
        x.broken(1);
        dueRow(x, 0, 2, 2);
        dueRow(x, 1, 3, 1);
        t.due("pieces of 2", x.good(2, 0), 2);
        t.due("pieces of 1", x.good(1, 0), 0);
    }

    private static void unitsBecomeLooseAsThemselves() {
        KitRows x = new KitRows();
        Check.read(x, "K 5 1*1\nK 6 3*5\nK 7 1*6\n");
        x.stock(1, 2);
        x.make(0, 0);
        Check.finish(x, 1);
        x.make(0, 0);
        Check.finish(x, 2);
        x.stock(5, 1);
        x.make(1, 1);
        Check.finish(x, 3);
        x.make(2, 2);
        Check.finish(x, 4);
        t.due("unit 3 is in unit 4", x.unit(3, 3), 4);
        t.due("unit 1 is in unit 3", x.unit(1, 3), 3);
        t.due("one row", x.broken(4), 1);
        dueRow(x, 0, 6, 1);
        t.due("unit 3 is loose", x.unit(3, 0), 0);
        t.due("in nothing", x.unit(3, 3), 0);
        t.due("what is in it stays there", x.unit(1, 0), 2);
        t.due("a piece of 6", x.good(6, 0), 1);
        t.due("no piece of 5", x.good(5, 0), 0);
        x.broken(3);
        dueRow(x, 0, 5, 3);
        t.due("two units and a piece", x.good(5, 0), 3);
        t.due("unit 1 is loose", x.unit(1, 0), 0);
        t.due("unit 2 is loose", x.unit(2, 0), 0);
        t.due("no piece of 6 then", x.good(6, 0), 0);
    }

    private static void brokenPartsAreTaken() {
        KitRows x = new KitRows();
        Check.read(x, "K 5 1*1 2*2\nK 6 1*5\nK 7 1*2\n");
        x.stock(1, 1);
        x.stock(2, 2);
        x.make(0, 0);
        Check.finish(x, 1);
        x.make(2, 0);
        t.due("it waits", x.making(2, 5), 1);
        t.due("rows", x.broken(1), 2);
        dueRow(x, 1, 2, 2);
        t.due("it took one", x.making(2, 5), 0);
        t.due("and left one", x.good(2, 0), 1);
        x.make(0, 1);
        x.make(1, 2);
        x.stock(2, 1);
        Check.finish(x, 3);
        t.due("the unit is held at once", x.unit(2, 0), 1);
        t.due("by", x.unit(2, 3), 4);
    }

    private static void brokenLoosensAllAtOnce() {
        KitRows x = new KitRows();
        Check.read(x, "K 5 1*1\nK 6 1*5 1*5\nK 7 1*5\n");
        x.stock(1, 1);
        x.make(0, 0);
        Check.finish(x, 1);
        x.make(1, 1);
        x.stock(5, 1);
        Check.finish(x, 2);
        x.make(2, 2);
        t.due("rows", x.broken(2), 2);
        t.due("pieces that are no units are taken first", x.unit(1, 0), 0);
        t.due("it took one", x.making(3, 4), 1);
        t.due("the unit is left", x.good(5, 0), 1);
    }

    private static void unitsOfLesserNumbersFirst() {
        KitRows x = new KitRows();
        Check.read(x, "K 5 1*1\nK 6 2*5/2\n");
        x.stock(1, 3);
        for (int making = 1; making <= 3; making++) {
            x.make(0, 0);
            Check.finish(x, making);
        }
        x.stock(5, 1);
        x.make(1, 1);
        t.due("unit 1 behind the piece", x.unit(1, 3), 4);
        t.due("unit 2 is loose", x.unit(2, 0), 0);
        x.make(1, 2);
        t.due("unit 2", x.unit(2, 3), 5);
        t.due("unit 3", x.unit(3, 3), 5);
        x.make(1, 3);
        x.substitute(4, 1);
        t.due("unit 1 goes over", x.unit(1, 3), 6);
        t.due("with the piece", x.making(6, 4), 2);
        t.due("and is not held by the first", x.making(4, 5), 2);
        x.drop(5);
        t.due("unit 2 is loose then", x.unit(2, 0), 0);
        t.due("in nothing", x.unit(2, 3), 0);
        t.due("two pieces", x.good(5, 0), 2);
    }

    private static void failingBreaksAllThatIsBound() {
        KitRows x = new KitRows();
        Check.read(x, "K 5 1*1\nK 6 1*5 1*2\nK 7 1*6 1*5\nK 8 1*5 1*7\n");
        x.stock(1, 4);
        x.stock(2, 1);
        for (int making = 1; making <= 4; making++) {
            x.make(0, 0);
            Check.finish(x, making);
        }
        x.make(1, 1);
        t.due("unit 5 of 6", Check.finish(x, 5), 5);
        x.make(2, 2);
        t.due("unit 6 of 7", Check.finish(x, 6), 6);
        x.make(3, 3);
        t.due("it holds unit 3", x.unit(3, 3), 7);
        t.due("it holds unit 6", x.unit(6, 3), 7);
        t.due("step 1", x.step(7, 1, true), 1);
        t.due("step 2 fails", x.step(7, 2, false), 1);
        int[] broken = {6, 5, 2, 1};
        for (int unit : broken) {
            t.due("state of " + unit, x.unit(unit, 0), 3);
            t.due("holder of " + unit, x.unit(unit, 3), 0);
        }
        t.due("what another part holds stays", x.unit(3, 0), 1);
        t.due("what is loose stays", x.unit(4, 0), 0);
        t.due("no piece of 2 comes back", x.good(2, 0), 0);
        t.due("no piece of 1 comes back", x.good(1, 0), 0);
        t.due("it holds", x.making(7, 4), 1);
        t.due("it needs", x.making(7, 5), 1);
        t.refused(Check.STATE, "broken", () -> x.broken(5));
    }

    private static void rowsStay() {
        KitRows x = new KitRows();
        Check.read(x, "K 5 1*1\nK 6 2*2 3*3\n");
        t.refused(Check.MISSING, "no unit was broken", () -> x.row(0, 0));
        t.refused(Check.MISSING, "nor for another what", () -> x.row(0, 2));
        x.stock(1, 3);
        x.stock(2, 2);
        x.stock(3, 3);
        x.make(0, 0);
        x.make(1, 1);
        Check.finish(x, 1);
        Check.finish(x, 2);
        x.broken(2);
        dueRow(x, 1, 3, 3);
        t.refused(Check.ARGUMENT, "row(0, 2)", () -> x.row(0, 2));
        t.refused(Check.ARGUMENT, "row(0, -1)", () -> x.row(0, -1));
        t.refused(Check.MISSING, "row(2, 2)", () -> x.row(2, 2));
        t.refused(Check.STATE, "broken(2)", () -> x.broken(2));
        t.refused(Check.MISSING, "broken(9)", () -> x.broken(9));
        dueRow(x, 0, 2, 2);
        x.broken(1);
        dueRow(x, 0, 1, 1);
        t.refused(Check.MISSING, "one row alone", () -> x.row(1, 0));
    }

    private static void makingAsked() {
        KitRows x = new KitRows();
        Check.read(x, "K 4 1*1\nK 5 2*1 1*2\n");
        t.refused(Check.MISSING, "making(1, 9)", () -> x.making(1, 9));
        x.stock(1, 1);
        x.make(1, 3);
        t.refused(Check.MISSING, "making(0, 0)", () -> x.making(0, 0));
        t.refused(Check.MISSING, "making(2, 0)", () -> x.making(2, 0));
        t.refused(Check.MISSING, "making(-1, 0)", () -> x.making(-1, 0));
        t.refused(Check.ARGUMENT, "making(1, -1)", () -> x.making(1, -1));
        t.refused(Check.ARGUMENT, "making(1, 7)", () -> x.making(1, 7));
        dueMaking(x, 1, 0, 1, 3, 0, 1, 2, 0);
        x.stock(1, 1);
        x.stock(2, 1);
        x.step(1, 1, true);
        dueMaking(x, 1, 0, 1, 3, 1, 3, 0, 0);
        x.step(1, 2, true);
        dueMaking(x, 1, 0, 1, 3, 2, 3, 0, 0);
        x.done(1);
        dueMaking(x, 1, 1, 1, 3, 2, 0, 0, 1);
        x.make(0, 4);
        dueMaking(x, 2, 0, 0, 4, 0, 0, 1, 0);
        x.drop(2);
        dueMaking(x, 2, 2, 0, 4, 0, 0, 0, 0);
    }

    private static void unitAsked() {
        KitRows x = new KitRows();
        Check.read(x, "K 4 1*1\nK 5 1*4\n");
        t.refused(Check.MISSING, "unit(1, 9)", () -> x.unit(1, 9));
        x.make(1, 0);
        x.make(0, 1);
        x.make(0, 2);
        x.stock(1, 2);
        Check.finish(x, 3);
        Check.finish(x, 2);
        t.refused(Check.MISSING, "unit(0, 0)", () -> x.unit(0, 0));
        t.refused(Check.MISSING, "unit(3, 0)", () -> x.unit(3, 0));
        t.refused(Check.MISSING, "unit(-1, 0)", () -> x.unit(-1, 0));
        t.refused(Check.ARGUMENT, "unit(1, -1)", () -> x.unit(1, -1));
        t.refused(Check.ARGUMENT, "unit(1, 4)", () -> x.unit(1, 4));
        dueUnit(x, 1, 1, 4, 3, 1);
        dueUnit(x, 2, 0, 4, 2, 0);
        Check.finish(x, 1);
        dueUnit(x, 1, 2, 4, 3, 3);
        dueUnit(x, 3, 0, 5, 1, 0);
        x.broken(3);
        dueUnit(x, 1, 0, 4, 3, 0);
        dueUnit(x, 3, 3, 5, 1, 0);
    }

    private static void goodAsked() {
        KitRows x = new KitRows();
        x.kit(19);
        x.stock(19, 4);
        t.due("pieces", x.good(19, 0), 4);
        t.due("kit", x.good(19, 1), 0);
        t.due("no pieces", x.good(0, 0), 0);
        t.due("no kit", x.good(0, 1), -1);
        t.refused(Check.ARGUMENT, "good(-1, 0)", () -> x.good(-1, 0));
        t.refused(Check.ARGUMENT, "good(20, 1)", () -> x.good(20, 1));
        t.refused(Check.ARGUMENT, "good(0, -1)", () -> x.good(0, -1));
        t.refused(Check.ARGUMENT, "good(0, 2)", () -> x.good(0, 2));
    }

    private static void counts() {
        KitRows x = new KitRows();
        Check.read(x, "K 4 1*1\nK 5 1*4\n");
        x.stock(1, 1);
        x.make(0, 0);
        x.make(0, 0);
        x.make(1, 1);
        Check.finish(x, 1);
        x.drop(2);
        x.day(12);
        x.sign(10);
        x.sign(126);
        int[] due = {2, 3, 1, 12, 2};
        for (int what = 0; what < due.length; what++) {
            t.due("count(" + what + ")", x.count(what), due[what]);
        }
        t.due("count(-1)", x.count(-1), -1);
        t.due("count(5)", x.count(5), -1);
        t.due("count(least)", x.count(Integer.MIN_VALUE), -1);
    }

    private static void dueRow(KitRows x, int i, int good, int pieces) {
        t.due("row(" + i + ", 0)", x.row(i, 0), good);
        t.due("row(" + i + ", 1)", x.row(i, 1), pieces);
    }

    private static void dueMaking(KitRows x, int making, int... due) {
        for (int what = 0; what < due.length; what++) {
            t.due("making(" + making + ", " + what + ")", x.making(making, what), due[what]);
        }
    }

    private static void dueUnit(KitRows x, int unit, int... due) {
        for (int what = 0; what < due.length; what++) {
            t.due("unit(" + unit + ", " + what + ")", x.unit(unit, what), due[what]);
        }
    }
}
