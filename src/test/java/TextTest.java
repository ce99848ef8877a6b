/** Promises 1 to 3: a new object, sign, read. */
public final class TextTest {
    private static final Check t = new Check("TextTest");

    public static void main(String[] args) {
        newObject();
        signs();
        room();
        rightTexts();
        whatWasRead();
        wrongSigns();
        wrongNumbers();
        goodsWithKits();
        rings();
        insteadOfItself();
        firstOfSeveralFaults();
        textsBehindTexts();
        nothingIsKept();
        tooManyKits();
        t.end();
    }

    private static void newObject() {
        KitRows x = new KitRows();
        for (int what = 0; what <= 4; what++) {
            t.due("new: count(" + what + ")", x.count(what), 0);
        }
        for (int good = 0; good < 20; good++) {
            t.due("new: pieces of " + good, x.good(good, 0), 0);
            t.due("new: kit of " + good, x.good(good, 1), -1);
        }
        t.due("new: ring(0)", x.ring(0), -1);
        t.refused(Check.MISSING, "new: cost(0)", () -> x.cost(0));
        t.refused(Check.MISSING, "new: row(0, 0)", () -> x.row(0, 0));
        t.refused(Check.MISSING, "new: making(1, 0)", () -> x.making(1, 0));
        t.refused(Check.MISSING, "new: unit(1, 0)", () -> x.unit(1, 0));
        x.kit(4);
        t.due("another object knows nothing of it", new KitRows().count(0), 0);
    }

    private static void signs() {
        for (int c = -2; c <= 300; c++) {
            KitRows x = new KitRows();
            final int sign = c;
            boolean right = c == 10 || c >= 32 && c <= 126;
            if (right) {
                x.sign(sign);
            } else {
                t.refused(Check.ARGUMENT, "sign(" + c + ")", () -> x.sign(sign));
            }
            t.due("count(4) behind sign(" + c + ")", x.count(4), right ? 1 : 0);
        }
        KitRows x = new KitRows();
        t.refused(Check.ARGUMENT, "sign(least)", () -> x.sign(Integer.MIN_VALUE));
        t.refused(Check.ARGUMENT, "sign(greatest)", () -> x.sign(Integer.MAX_VALUE));
        t.refused(Check.ARGUMENT, "sign(65536 + 75)", () -> x.sign(65536 + 75));
    }

    /** The document promises nothing behind 512 calls, but this program keeps its limit there too. */
    private static void room() {
        KitRows x = new KitRows();
        for (int i = 0; i < 1000; i++) {
            x.sign(75);
        }
        t.refused(Check.ROOM, "sign 1001", () -> x.sign(75));
        t.refused(Check.ARGUMENT, "a wrong sign without room", () -> x.sign(9));
        t.due("count(4)", x.count(4), 1000);
        t.due("read()", x.read(), -2);
        x.sign(75);
        t.due("count(4) then", x.count(4), 1);
    }

    private static void rightTexts() {
        t.due("no signs", new KitRows().read(), 0);
        due("K 0 1*1\n", 1);
        due("K 19 9*18/17\n", 1);
        due("K 19 1*0/10\n", 1);
        due("K 5 1*1 2*2 3*3 4*4 5*6\n", 1);
        due("K 5 1*1/2 2*2/3 3*3/4 4*4/6 5*6/7\n", 1);
        due("K 5 1*1 1*1 1*1\n", 1);
        due("K 6 1*5\nK 5 1*4\n", 2);
        due("K 5 1*4\nK 6 1*5\nK 7 1*5/6\n", 3);
        KitRows x = new KitRows();
        x.kit(3);
        t.due("no signs behind a kit", x.read(), 1);
        t.due("all kits are told", Check.read(x, "K 4 1*3\n"), 2);
        t.due("no signs again", x.read(), 2);
    }

    private static void whatWasRead() {
        KitRows x = new KitRows();
        x.day(7);
        Check.read(x, "K 5 2*1 1*2/3\nK 16 3*5\n");
        t.due("kit of 5", x.good(5, 1), 0);
        t.due("kit of 16", x.good(16, 1), 1);
        t.due("count(4)", x.count(4), 0);
        x.price(1, 10);
        x.price(2, 1);
        t.due("cost(1)", x.cost(1), 63);
        t.refused(Check.STATE, "it has a good instead", () -> x.part(0, 4, 0, true));
        t.due("part(0, ..) goes on with the recipe", x.part(0, 4, 1, false), 3);
        t.due("changed(0, 7)", x.changed(0, 7), 2);
        int making = x.make(1, 0);
        t.due("needs", x.making(making, 5), 3);
        t.due("a ring through what was read", x.part(0, 16, 1, false), -2);
    }

    private static void wrongSigns() {
        dueAt("k 5 1*1\n", 0);
        dueAt("\n", 0);
        dueAt(" ", 0);
        dueAt("K", 1);
        dueAt("K5 1*1\n", 1);
        dueAt("K ", 2);
        dueAt("K x", 2);
        dueAt("K  5 1*1\n", 2);
        dueAt("K -1 1*1\n", 2);
        dueAt("K 5", 3);
        dueAt("K 5\n", 3);
        dueAt("K 5x", 3);
        dueAt("K 15x", 4);
        dueAt("K 5 ", 4);
        dueAt("K 5 \n", 4);
        dueAt("K 5 *1\n", 4);
        dueAt("K 5 1", 5);
        dueAt("K 5 1/1\n", 5);
        dueAt("K 5 1*", 6);
        dueAt("K 5 1*/2\n", 6);
        dueAt("K 5 1*1", 7);
        dueAt("K 5 1*1x", 7);
        dueAt("K 5 1*1*1\n", 7);
        dueAt("K 5 1*1/", 8);
        dueAt("K 5 1*1/\n", 8);
        dueAt("K 5 1*1/2", 9);
        dueAt("K 5 1*1/2/3\n", 9);
        dueAt("K 5 1*1 \n", 8);
        dueAt("K 5 1*1  2*2\n", 8);
        dueAt("K 5 1*1\n\n", 8);
        dueAt("K 5 1*1\n ", 8);
        dueAt("K 5 1*1\nK", 9);
        dueAt("K 5 1*1 1*1 1*1 1*1 1*1 1*1\n", 23);
        dueAt("K 5 1*1 1*1 1*1 1*1 1*1 ", 23);
        dueAt("K 5 1*1 1*1 1*1 1*1 1*1/2 1*1\n", 25);
    }

    private static void wrongNumbers() {
        dueAt("K 20 1*1\n", 2);
        dueAt("K 123 1*1\n", 2);
        dueAt("K 99999999999999999999 1*1\n", 2);
        dueAt("K 4294967301 1*1\n", 2);
        dueAt("K 05 1*1\n", 3);
        dueAt("K 00 1*1\n", 3);
        dueAt("K 5 0*1\n", 4);
        dueAt("K 5 05*1\n", 4);
        dueAt("K 5 10*1\n", 4);
        dueAt("K 5 123*1\n", 4);
        dueAt("K 5 4294967297*1\n", 4);
        dueAt("K 5 10", 4);
        dueAt("K 5 1*20\n", 6);
        dueAt("K 5 1*20", 6);
        dueAt("K 5 1*05\n", 7);
        dueAt("K 5 1*1/20\n", 8);
        dueAt("K 5 1*1/123\n", 8);
        dueAt("K 5 1*1/07\n", 9);
        dueAt("K 5 1*1 0*2\n", 8);
    }

    private static void goodsWithKits() {
        dueAt("K 5 1*1\nK 5 1*1\n", 10);
        dueAt("K 15 1*1\nK 15", 11);
        KitRows x = new KitRows();
        x.kit(0);
        x.kit(13);
        t.due("a kit told before", Check.read(x, "K 13 1*1\n"), -1 - 2);
        t.due("a kit told before, 0 with a digit behind it", Check.read(x, "K 05 1*1\n"), -1 - 2);
        t.due("a good that goes on", Check.read(x, "K 1 1*13\n"), 3);
        t.due("a part may have a kit", Check.read(x, "K 4 1*0/13\n"), 4);
    }

    private static void rings() {
        dueAt("K 5 1*5\n", 6);
        dueAt("K 15 1*15\n", 7);
        dueAt("K 5 1*1/5\n", 8);
        dueAt("K 5 1*6\nK 6 1*5\n", 14);
        dueAt("K 5 1*1/6\nK 6 1*5\n", 16);
        dueAt("K 5 1*6\nK 6 1*1/5\n", 16);
        dueAt("K 5 1*6\nK 6 1*7\nK 7 1*8 2*5\n", 26);
        dueAt("K 5 1*6\nK 6 1*5", 14);
        KitRows x = new KitRows();
        x.kit(5);
        x.part(0, 6, 1, false);
        x.changed(0, 9);
        x.part(0, 7, 1, false);
        x.part(0, 5, 1, false);
        t.due("a ring with a kit told before", Check.read(x, "K 6 1*1 1*5\n"), -1 - 10);
        t.due("a ring with a recipe of a later day", Check.read(x, "K 7 1*5\n"), -1 - 6);
        t.due("ring(0) is of part() alone", x.ring(0), 5);
        t.due("ring(1) is of part() alone", x.ring(1), -1);
        x.day(20);
        x.changed(0, 20);
        t.due("a ring with a recipe of an earlier day", Check.read(x, "K 6 1*5\n"), -1 - 6);
    }

    private static void insteadOfItself() {
        dueAt("K 5 1*1/1\n", 8);
        dueAt("K 5 1*1 1*12/12\n", 13);
        dueAt("K 5 1*0/0\n", 8);
        due("K 5 1*1/2 1*2/1\n", 1);
    }

    private static void firstOfSeveralFaults() {
        dueAt("K 20 0*0\n", 2);
        dueAt("K 5 0*20\n", 4);
        dueAt("K 5 1*5/x", 6);
        dueAt("K 5 1*1\nK 5 0*1\nx", 10);
        dueAt("K 5 1*x\nK 5", 6);
        dueAt("K 5\nK 6 x", 3);
        dueAt("K 5 0*1\nx", 4);
        dueAt("K 5 1*5\nx", 6);
        dueAt("K 5 1*1/1\nx", 8);
        dueAt("K 5 1*1/20\nx", 8);
    }

    /** What a text before had at a place is no sign of this one. */
    private static void textsBehindTexts() {
        KitRows x = new KitRows();
        t.due("a right text", Check.read(x, "K 5 1*1\n"), 1);
        t.due("the same without its end", Check.read(x, "K 6 1*1"), -1 - 7);
        t.due("its beginning", Check.read(x, "K "), -1 - 2);
        t.due("a wrong one", Check.read(x, "K 6 11*1\n"), -1 - 4);
        t.due("a right one again", Check.read(x, "K 6 1*1\n"), 2);
    }

    private static void nothingIsKept() {
        KitRows x = new KitRows();
        x.kit(9);
        t.due("refused in its third line", Check.read(x, "K 5 1*6\nK 6 1*7\nK 7 1*5\n"), -1 - 22);
        t.due("kits", x.count(0), 1);
        t.due("signs", x.count(4), 0);
        t.due("kit of 5", x.good(5, 1), -1);
        t.due("kit of 6", x.good(6, 1), -1);
        t.due("kit of 7", x.good(7, 1), -1);
        t.due("the same goods the other way round", Check.read(x, "K 7 1*6\nK 6 1*5\n"), 3);
        t.due("kit of 7 then", x.good(7, 1), 1);
        t.due("refused in a part", Check.read(x, "K 5 1*9/"), -1 - 8);
        t.due("9 may be made of 5", x.part(0, 5, 1, false), 1);
        KitRows y = new KitRows();
        t.due("a ring", Check.read(y, "K 5 1*5\n"), -1 - 6);
        t.due("0 made of 5", Check.read(y, "K 0 1*5\n"), 1);
    }

    private static void tooManyKits() {
        KitRows x = new KitRows();
        for (int good = 0; good < 11; good++) {
            x.kit(good);
        }
        Check.signAll(x, "K 11 1*0\nK 12 1*1\n");
        t.refused(Check.ROOM, "kit 13", () -> x.read());
        t.due("signs", x.count(4), 0);
        t.due("kits", x.count(0), 11);
        t.due("kit of 11", x.good(11, 1), -1);
        t.due("refused ahead of asking for room", Check.read(x, "K 11 1*0\nK 12 1*1\nK 12 1*1\n"), -1 - 20);
        t.due("kit 12", Check.read(x, "K 11 1*0\n"), 12);
        t.due("0 signs when it is full", x.read(), 12);
        Check.signAll(x, "K 12 1*0\n");
        t.refused(Check.ROOM, "kit 13 when it is full", () -> x.read());
        KitRows y = new KitRows();
        StringBuilder all = new StringBuilder();
        for (int good = 0; good < 19; good++) {
            all.append("K ").append(good).append(" 1*19\n");
        }
        Check.signAll(y, all.append("K 19 1*18\n").toString());
        t.due("a ring in the line of kit 20", y.read(), -1 - (10 * 9 + 9 * 10 + 7));
    }

    private static void due(String text, int kits) {
        KitRows x = new KitRows();
        t.due("read of " + text, Check.read(x, text), kits);
        t.due("kits of " + text, x.count(0), kits);
    }

    private static void dueAt(String text, int place) {
        KitRows x = new KitRows();
        t.due("read of " + text, Check.read(x, text), -1 - place);
        t.due("kits of " + text, x.count(0), 0);
        t.due("signs of " + text, x.count(4), 0);
    }
}
