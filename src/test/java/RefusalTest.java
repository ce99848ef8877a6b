import java.util.function.Consumer;

/** Every refusal that the document names: that it comes, that it changes nothing, and which one where several hold. */
public final class RefusalTest {
    private static final Check t = new Check("RefusalTest");
    private static final Twins twins = new Twins(t);

    public static void main(String[] args) {
        thePastsAreAsTold();
        sign();
        readByPlace();
        readWithoutRoom();
        kit();
        partWithoutKit();
        partOutOfRange();
        partNotAsItIsNow();
        partWithoutRoom();
        partOfARing();
        changed();
        day();
        price();
        cost();
        stock();
        make();
        substitute();
        step();
        stepThatLacksPieces();
        done();
        drop();
        broken();
        row();
        making();
        unit();
        good();
        questions();
        t.end();
    }

    private static void missing(String what, Consumer<KitRows> past, Consumer<KitRows> call) {
        twins.refused(Check.MISSING, what, past, call);
    }

    private static void argument(String what, Consumer<KitRows> past, Consumer<KitRows> call) {
        twins.refused(Check.ARGUMENT, what, past, call);
    }

    private static void state(String what, Consumer<KitRows> past, Consumer<KitRows> call) {
        twins.refused(Check.STATE, what, past, call);
    }

    private static void room(String what, Consumer<KitRows> past, Consumer<KitRows> call) {
        twins.refused(Check.ROOM, what, past, call);
    }

    /** If these were others, the tests below would still pass, but not test what they say. */
    private static void thePastsAreAsTold() {
        KitRows x = new KitRows();
        Pasts.work(x);
        int[] states = {1, 1, 1, 1, 0, 0, 2, 0, 0, 0, 0};
        int[] steps = {2, 2, 1, 2, 0, 0, 0, 0, 2, 1, 0};
        int[] held = {0, 0, 0, 0, 1, 1, 0, 0, 3, 2, 1};
        int[] needed = {0, 0, 0, 0, 0, 2, 0, 5, 0, 1, 2};
        t.due("makings", x.count(1), states.length);
        for (int i = 0; i < states.length; i++) {
            t.due("state of making " + (i + 1), x.making(i + 1, 0), states[i]);
            t.due("steps of making " + (i + 1), x.making(i + 1, 3), steps[i]);
            t.due("held by making " + (i + 1), x.making(i + 1, 4), held[i]);
            t.due("needed by making " + (i + 1), x.making(i + 1, 5), needed[i]);
        }
        int[] units = {2, 1, 0, 3};
        int[] in = {3, 5, 0, 0};
        t.due("units", x.count(2), units.length);
        for (int i = 0; i < units.length; i++) {
            t.due("state of unit " + (i + 1), x.unit(i + 1, 0), units[i]);
            t.due("unit " + (i + 1) + " is in", x.unit(i + 1, 3), in[i]);
        }
        t.due("today", x.count(3), 3);
        t.due("signs", x.count(4), 9);
        t.due("ring(1)", x.ring(1), 6);
        t.due("row(1, 0)", x.row(1, 0), 3);
        KitRows y = new KitRows();
        Pasts.makingsFull(y);
        t.due("all kits", y.count(0), 12);
        t.due("all makings", y.count(1), 40);
        KitRows z = new KitRows();
        Pasts.unitsFull(z);
        t.due("all units", z.count(2), 40);
        t.due("they are loose", z.good(5, 0), 40);
    }

    private static void sign() {
        int[] wrong = {Integer.MIN_VALUE, -1, 0, 9, 11, 13, 31, 127, 128, 255, 256 + 75, 65536 + 75, Integer.MAX_VALUE};
        for (int c : wrong) {
            argument("sign(" + c + ")", Pasts::nothing, x -> x.sign(c));
            argument("sign(" + c + ") at work", Pasts::work, x -> x.sign(c));
        }
    }

    /** What was collected is gone, too, so that the twin is one that never got the text. */
    private static void readByPlace() {
        String[] texts = {"x", "K", "K 15 1*1", "K 20 1*1\n", "K 13 0*1\n", "K 13 1*1\nK 13 1*1\n", "K 13 1*13\n",
            "K 13 1*1/1\n", "K 13 1*14\nK 14 1*15/16 2*13\n", "K 13 1*1 1*1 1*1 1*1 1*1 1*1\n"};
        int[] places = {0, 1, 8, 2, 5, 11, 7, 9, 25, 24};
        for (int i = 0; i < texts.length; i++) {
            readRefused(texts[i], places[i], Pasts::nothing);
            readRefused(texts[i], places[i], RefusalTest::workWithoutText);
        }
        readRefused("K 5 1*1\n", 2, RefusalTest::workWithoutText);
        readRefused("K 13 1*9/5\nK 4 1*6\n", 17, RefusalTest::workWithoutText);
        readRefused("K 13 1*9/5\nK 4 1*14/6\n", 20, RefusalTest::workWithoutText);
    }

    private static void readRefused(String text, int place, Consumer<KitRows> past) {
        t.due("read() of " + text, readBehind(past, text), -1 - place);
        twins.alike("read() of " + text, x -> readQuietly(x, past, text), past);
    }

    private static void workWithoutText(KitRows x) {
        Pasts.work(x);
        x.read();
    }

    private static void readWithoutRoom() {
        String one = "K 12 1*13\n";
        String two = "K 11 1*13\nK 12 1*13\n";
        Consumer<KitRows> eleven = x -> {
            for (int good = 0; good < 11; good++) {
                x.kit(good);
            }
        };
        t.refused(Check.ROOM, "kit 13 of a text", () -> readBehind(Pasts::kitsFull, one));
        t.refused(Check.ROOM, "kit 13 behind kit 12 of a text", () -> readBehind(eleven, two));
        t.due("kit 12 of a text", readBehind(eleven, "K 11 1*13\n"), 12);
        t.due("no signs when it is full", readBehind(Pasts::kitsFull, ""), 12);
        t.due("a wrong sign behind kit 13", readBehind(eleven, two + "x"), -1 - 20);
        t.due("a wrong sign in the line of kit 13", readBehind(Pasts::kitsFull, "K 12 1*13"), -1 - 9);
        t.due("the good of kit 13 has a kit", readBehind(Pasts::kitsFull, "K 11 1*13\n"), -1 - 2);
        t.due("a ring in kit 13", readBehind(Pasts::kitsFull, "K 12 1*0\n"), -1 - 7);
        twins.alike("read() without room", x -> readQuietly(x, Pasts::kitsFull, one), Pasts::kitsFull);
        twins.alike("read() without room for the second", x -> readQuietly(x, eleven, two), eleven);
        twins.alike("read() refused behind kit 13", x -> readQuietly(x, eleven, two + "x"), eleven);
    }

    private static int readBehind(Consumer<KitRows> past, String text) {
        KitRows x = new KitRows();
        past.accept(x);
        return Check.read(x, text);
    }

    private static void readQuietly(KitRows x, Consumer<KitRows> past, String text) {
        past.accept(x);
        try {
            Check.read(x, text);
        } catch (UnsupportedOperationException e) {
            // The caller asks what is left.
        }
    }

    private static void kit() {
        int[] wrong = {Integer.MIN_VALUE, -1, 20, 21, Integer.MAX_VALUE};
        for (int good : wrong) {
            argument("kit(" + good + ")", Pasts::nothing, x -> x.kit(good));
            argument("range ahead of room: kit(" + good + ")", Pasts::kitsFull, x -> x.kit(good));
        }
        state("kit(5) again", Pasts::work, x -> x.kit(5));
        state("kit(9) again", Pasts::work, x -> x.kit(9));
        state("it has one, ahead of room", Pasts::kitsFull, x -> x.kit(11));
        room("kit 13", Pasts::kitsFull, x -> x.kit(12));
        room("kit 13 for good 19", Pasts::kitsFull, x -> x.kit(19));
    }

    private static void partWithoutKit() {
        int[] none = {Integer.MIN_VALUE, -1, 5, 12, Integer.MAX_VALUE};
        for (int kit : none) {
            missing("part() of kit " + kit, Pasts::work, x -> x.part(kit, 1, 1, false));
            missing("instead of kit " + kit, Pasts::work, x -> x.part(kit, 1, 1, true));
            missing("no kit, ahead of its good's range: " + kit, Pasts::work, x -> x.part(kit, 20, 1, true));
            missing("no kit, ahead of its pieces' range: " + kit, Pasts::work, x -> x.part(kit, 1, 0, false));
        }
        missing("part() where no kit is", Pasts::nothing, x -> x.part(0, 1, 1, false));
        missing("part() behind kit 12", Pasts::kitsFull, x -> x.part(12, 1, 1, false));
    }

    private static void partOutOfRange() {
        int[] goods = {Integer.MIN_VALUE, -1, 20, Integer.MAX_VALUE};
        for (int good : goods) {
            argument("part " + good, Pasts::work, x -> x.part(0, good, 1, false));
            argument("instead " + good, Pasts::work, x -> x.part(0, good, 1, true));
            argument("range ahead of no part: instead " + good, Pasts::work, x -> x.part(2, good, 1, true));
            argument("range ahead of one instead: " + good, Pasts::work, x -> x.part(1, good, 1, true));
            argument("range ahead of room: part " + good, Pasts::work, x -> x.part(3, good, 1, false));
        }
        int[] pieces = {Integer.MIN_VALUE, -1, 0, 10, Integer.MAX_VALUE};
        for (int n : pieces) {
            argument(n + " pieces", Pasts::work, x -> x.part(0, 1, n, false));
            argument("range ahead of room: " + n + " pieces", Pasts::work, x -> x.part(3, 1, n, false));
            argument("range ahead of a ring: " + n + " pieces", Pasts::work, x -> x.part(0, 5, n, false));
        }
    }

    private static void partNotAsItIsNow() {
        state("no part to stand instead of", Pasts::work, x -> x.part(2, 1, 1, true));
        state("no part, ahead of a ring", Pasts::work, x -> x.part(2, 7, 1, true));
        state("no part in the newest recipe", Pasts::kitsFull, x -> x.part(1, 13, 1, true));
        state("it has one", Pasts::work, x -> x.part(1, 11, 1, true));
        state("it has this one", Pasts::work, x -> x.part(1, 4, 1, true));
        state("it has one and it is the same good", Pasts::work, x -> x.part(1, 5, 1, true));
        state("it has one, ahead of a ring", Pasts::work, x -> x.part(1, 6, 1, true));
        state("it has one, ahead of a longer ring", Pasts::work, x -> x.part(1, 9, 1, true));
        state("it is the same good", Pasts::work, x -> x.part(0, 3, 1, true));
        state("it is the same good, all parts told", Pasts::work, x -> x.part(3, 0, 1, true));
        KitRows x = new KitRows();
        Pasts.work(x);
        t.due("another good when all parts are told", x.part(3, 1, 1, true), 0);
        t.due("the good of an earlier part", x.part(0, 1, 1, true), 0);
    }

    private static void partWithoutRoom() {
        room("part 6", Pasts::work, x -> x.part(3, 1, 1, false));
        room("part 6 of the same good", Pasts::work, x -> x.part(3, 0, 9, false));
        room("no room, ahead of a ring of 1", Pasts::work, x -> x.part(3, 8, 1, false));
        room("part 6 when all is full", Pasts::makingsFull, x -> x.part(0, 12, 1, false));
    }

    private static void partOfARing() {
        twins.askedButForRing(-1, "its own good", Pasts::work, x -> x.part(0, 5, 1, false));
        twins.askedButForRing(-1, "its own good instead", Pasts::work, x -> x.part(0, 5, 1, true));
        twins.askedButForRing(-3, "a ring of 3", Pasts::work, x -> x.part(0, 9, 9, false));
        twins.askedButForRing(-3, "a ring of 3 by an instead", Pasts::work, x -> x.part(0, 9, -1, true));
        twins.askedButForRing(-1, "the first part", Pasts::work, x -> x.part(2, 7, 1, false));
        twins.asked(-2, "the same ring again", Pasts::work, x -> x.part(0, 6, 1, false));
        twins.asked(-2, "the same ring by an instead", Pasts::work, x -> x.part(0, 6, 1, true));
    }

    private static void changed() {
        int[] none = {Integer.MIN_VALUE, -1, 5, 12, Integer.MAX_VALUE};
        for (int kit : none) {
            missing("changed() of kit " + kit, Pasts::work, x -> x.changed(kit, 500));
            missing("no kit, ahead of the range: " + kit, Pasts::work, x -> x.changed(kit, 1001));
            missing("no kit, ahead of the day: " + kit, Pasts::work, x -> x.changed(kit, 0));
        }
        missing("changed() where no kit is", Pasts::nothing, x -> x.changed(0, 1));
        int[] days = {Integer.MIN_VALUE, -1, 1001, Integer.MAX_VALUE};
        for (int day : days) {
            argument("changed() for " + day, Pasts::work, x -> x.changed(0, day));
            argument("range ahead of room: changed() for " + day, Pasts::work, x -> x.changed(4, day));
        }
        for (int day = 0; day <= 2; day++) {
            final int early = day;
            state("changed() before today, for " + day, Pasts::work, x -> x.changed(0, early));
            state("before today, ahead of room: " + day, Pasts::work, x -> x.changed(4, early));
        }
        state("not behind all its recipes' days", Pasts::work, x -> x.changed(4, 500));
        state("on its last recipe's day, ahead of room", Pasts::work, x -> x.changed(4, 900));
        state("on its first recipe's day", Pasts::kitsFull, x -> x.changed(0, 0));
        room("recipe 5", Pasts::work, x -> x.changed(4, 901));
        room("recipe 5 on the last day", Pasts::work, x -> x.changed(4, 1000));
        room("recipe 5 of an empty one", Pasts::kitsFull, x -> x.changed(1, 4));
    }

    private static void day() {
        int[] wrong = {Integer.MIN_VALUE, -1, 1001, Integer.MAX_VALUE};
        for (int day : wrong) {
            argument("day(" + day + ")", Pasts::nothing, x -> x.day(day));
            argument("range ahead of a later day: day(" + day + ")", Pasts::work, x -> x.day(day));
        }
        for (int day = 0; day <= 2; day++) {
            final int early = day;
            state("day(" + day + ") behind 3", Pasts::work, x -> x.day(early));
        }
        state("day(999) behind 1000", x -> x.day(1000), x -> x.day(999));
    }

    private static void price() {
        int[] goods = {Integer.MIN_VALUE, -1, 20, Integer.MAX_VALUE};
        for (int good : goods) {
            argument("price(" + good + ", 5)", Pasts::work, x -> x.price(good, 5));
        }
        int[] prices = {Integer.MIN_VALUE, -1, 1001, Integer.MAX_VALUE};
        for (int price : prices) {
            argument("price(1, " + price + ")", Pasts::work, x -> x.price(1, price));
        }
        argument("price(20, 1001)", Pasts::work, x -> x.price(20, 1001));
    }

    private static void cost() {
        int[] none = {Integer.MIN_VALUE, -1, 5, 12, Integer.MAX_VALUE};
        for (int kit : none) {
            missing("cost(" + kit + ")", Pasts::work, x -> x.cost(kit));
        }
        missing("cost(0) where no kit is", Pasts::nothing, x -> x.cost(0));
        missing("cost(12) when it is full", Pasts::kitsFull, x -> x.cost(12));
    }

    private static void stock() {
        int[] goods = {Integer.MIN_VALUE, -1, 20, Integer.MAX_VALUE};
        for (int good : goods) {
            argument("stock(" + good + ", 5)", Pasts::work, x -> x.stock(good, 5));
        }
        int[] pieces = {Integer.MIN_VALUE, -1, 0, 1001, Integer.MAX_VALUE};
        for (int n : pieces) {
            argument("stock(3, " + n + ")", Pasts::work, x -> x.stock(3, n));
        }
        argument("stock(20, 0)", Pasts::work, x -> x.stock(20, 0));
    }

    private static void make() {
        int[] none = {Integer.MIN_VALUE, -1, 5, 12, Integer.MAX_VALUE};
        for (int kit : none) {
            missing("make(" + kit + ", 0)", Pasts::work, x -> x.make(kit, 0));
            missing("no kit, ahead of the range: " + kit, Pasts::work, x -> x.make(kit, 5));
        }
        missing("make(0, 0) where no kit is", Pasts::nothing, x -> x.make(0, 0));
        missing("no kit, ahead of room", Pasts::makingsFull, x -> x.make(12, 0));
        int[] stations = {Integer.MIN_VALUE, -1, 5, Integer.MAX_VALUE};
        for (int station : stations) {
            argument("make(0, " + station + ")", Pasts::work, x -> x.make(0, station));
            argument("range ahead of no parts: " + station, Pasts::work, x -> x.make(2, station));
            argument("range ahead of room: " + station, Pasts::makingsFull, x -> x.make(0, station));
        }
        state("no parts", Pasts::work, x -> x.make(2, 0));
        state("no parts, ahead of room", Pasts::makingsFull, x -> x.make(2, 0));
        state("no parts today, some tomorrow", x -> {
            x.kit(5);
            x.changed(0, 1);
            x.part(0, 1, 1, false);
        }, x -> x.make(0, 0));
        state("no parts today, some yesterday", x -> {
            x.kit(5);
            x.part(0, 1, 1, false);
            x.changed(0, 1);
            x.day(1);
        }, x -> x.make(0, 0));
        room("making 41", Pasts::makingsFull, x -> x.make(0, 0));
        room("making 41 of another kit", Pasts::makingsFull, x -> x.make(1, 4));
        room("making 41 behind dropped ones", x -> {
            Pasts.makingsFull(x);
            x.drop(1);
            x.drop(40);
        }, x -> x.make(0, 0));
        room("making 41 behind done ones", Pasts::unitsFull, x -> x.make(0, 0));
    }

    private static void substitute() {
        int[] none = {Integer.MIN_VALUE, -1, 0, 12, 40, Integer.MAX_VALUE};
        for (int making : none) {
            missing("substitute(" + making + ", 1)", Pasts::work, x -> x.substitute(making, 1));
            missing("no making, ahead of the part: " + making, Pasts::work, x -> x.substitute(making, 6));
        }
        missing("substitute(1, 1) where none is", Pasts::nothing, x -> x.substitute(1, 1));
        int[] parts = {Integer.MIN_VALUE, -1, 0, 3, 5, 6, Integer.MAX_VALUE};
        for (int part : parts) {
            argument("substitute(11, " + part + ")", Pasts::work, x -> x.substitute(11, part));
            argument("no such part, ahead of one that is done: " + part, Pasts::work, x -> x.substitute(1, part));
            argument("no such part, ahead of one that is dropped: " + part, Pasts::work, x -> x.substitute(7, part));
        }
        argument("part 2 of a making with one", Pasts::work, x -> x.substitute(5, 2));
        argument("part 6 of a making with five", Pasts::work, x -> x.substitute(8, 6));
        state("part 5 of five, no good instead", Pasts::work, x -> x.substitute(8, 5));
        state("it is done", Pasts::work, x -> x.substitute(1, 1));
        state("it is dropped", Pasts::work, x -> x.substitute(7, 1));
        state("the step is made", Pasts::work, x -> x.substitute(10, 1));
        state("all steps are made", Pasts::work, x -> x.substitute(9, 1));
        state("no good stands instead", Pasts::work, x -> x.substitute(11, 2));
        state("it is so already", Pasts::work, x -> x.substitute(6, 1));
        state("a good instead that was told later", x -> {
            Pasts.work(x);
            x.part(0, 4, 1, true);
        }, x -> x.substitute(11, 2));
        argument("a part that was told later", x -> {
            Pasts.work(x);
            x.part(0, 0, 1, false);
            x.part(0, 4, 1, true);
        }, x -> x.substitute(11, 3));
    }

    private static void step() {
        int[] none = {Integer.MIN_VALUE, -1, 0, 12, 40, Integer.MAX_VALUE};
        for (int making : none) {
            missing("step(" + making + ", 1, true)", Pasts::work, x -> x.step(making, 1, true));
            missing("no making, ahead of the step: " + making, Pasts::work, x -> x.step(making, 9, false));
        }
        missing("step(1, 1, true) where none is", Pasts::nothing, x -> x.step(1, 1, true));
        int[] steps = {Integer.MIN_VALUE, -1, 0, 2, 3, Integer.MAX_VALUE};
        for (int n : steps) {
            state("step " + n + " is not the first", Pasts::work, x -> x.step(5, n, true));
            state("nor can it fail: " + n, Pasts::work, x -> x.step(5, n, false));
        }
        state("step 1 is made", Pasts::work, x -> x.step(10, 1, true));
        state("step 1 is made and can't fail", Pasts::work, x -> x.step(10, 1, false));
        state("step 3 of two", Pasts::work, x -> x.step(10, 3, true));
        for (int n = 0; n <= 6; n++) {
            final int step = n;
            state("all steps are made, so not " + n, Pasts::work, x -> x.step(9, step, true));
            state("all steps are made, so none fails: " + n, Pasts::work, x -> x.step(9, step, false));
            state("done: " + n, Pasts::work, x -> x.step(1, step, true));
            state("dropped: " + n, Pasts::work, x -> x.step(7, step, false));
        }
        state("not the one at its station", Pasts::work, x -> x.step(6, 1, true));
        state("nor can its step fail", Pasts::work, x -> x.step(6, 1, false));
        state("behind one that has made all its steps", x -> {
            Pasts.work(x);
            x.make(1, 0);
        }, x -> x.step(12, 1, true));
        state("not the one at its station, where it holds all", x -> {
            Pasts.work(x);
            x.make(4, 4);
            x.stock(6, 2);
        }, x -> x.step(12, 1, true));
    }

    private static void stepThatLacksPieces() {
        twins.asked(0, "nothing is held", Pasts::work, x -> x.step(8, 1, true));
        twins.asked(0, "nothing is held that may fail", Pasts::work, x -> x.step(8, 1, false));
        twins.asked(0, "one of two is held", Pasts::work, x -> x.step(11, 1, true));
        twins.asked(0, "one of two is held and can't fail", Pasts::work, x -> x.step(11, 1, false));
        twins.asked(0, "the next step lacks its piece", Pasts::work, x -> x.step(10, 2, true));
        twins.asked(0, "the next step lacks its piece and can't fail", Pasts::work, x -> x.step(10, 2, false));
    }

    private static void done() {
        int[] none = {Integer.MIN_VALUE, -1, 0, 12, 40, Integer.MAX_VALUE};
        for (int making : none) {
            missing("done(" + making + ")", Pasts::work, x -> x.done(making));
        }
        missing("done(1) where none is", Pasts::nothing, x -> x.done(1));
        missing("done(41)", Pasts::makingsFull, x -> x.done(41));
        state("it is done", Pasts::work, x -> x.done(1));
        state("it is dropped", Pasts::work, x -> x.done(7));
        state("it is dropped with all steps made", x -> {
            Pasts.work(x);
            x.drop(9);
        }, x -> x.done(9));
        twins.asked(-1, "one step of one is left", Pasts::work, x -> x.done(5));
        twins.asked(-2, "two steps of two are left", Pasts::work, x -> x.done(11));
        twins.asked(-1, "one step of two is left", Pasts::work, x -> x.done(10));
        twins.asked(-5, "five steps are left", Pasts::work, x -> x.done(8));
        twins.asked(-5, "five steps are left of the last", Pasts::makingsFull, x -> x.done(40));
    }

    private static void drop() {
        int[] none = {Integer.MIN_VALUE, -1, 0, 12, 40, Integer.MAX_VALUE};
        for (int making : none) {
            missing("drop(" + making + ")", Pasts::work, x -> x.drop(making));
        }
        missing("drop(1) where none is", Pasts::nothing, x -> x.drop(1));
        missing("drop(41)", Pasts::makingsFull, x -> x.drop(41));
        state("it is done", Pasts::work, x -> x.drop(1));
        state("it is done and its unit broken", Pasts::work, x -> x.drop(4));
        state("it is dropped", Pasts::work, x -> x.drop(7));
    }

    private static void broken() {
        int[] none = {Integer.MIN_VALUE, -1, 0, 5, 60, Integer.MAX_VALUE};
        for (int unit : none) {
            missing("broken(" + unit + ")", Pasts::work, x -> x.broken(unit));
        }
        missing("broken(1) where none is", Pasts::nothing, x -> x.broken(1));
        missing("broken(41)", Pasts::unitsFull, x -> x.broken(41));
        state("it is bound", Pasts::work, x -> x.broken(1));
        state("it is held", Pasts::work, x -> x.broken(2));
        state("it is broken", Pasts::work, x -> x.broken(4));
        state("it failed", x -> {
            Pasts.work(x);
            x.step(5, 1, false);
        }, x -> x.broken(2));
    }

    private static void row() {
        int[] none = {Integer.MIN_VALUE, -1, 2, 5, Integer.MAX_VALUE};
        for (int i : none) {
            missing("row(" + i + ", 0)", Pasts::work, x -> x.row(i, 0));
            missing("no row, ahead of the range: " + i, Pasts::work, x -> x.row(i, 2));
        }
        missing("no unit was broken", Pasts::nothing, x -> x.row(0, 0));
        missing("no unit was broken, ahead of the range", Pasts::nothing, x -> x.row(0, 2));
        missing("units, but none was broken", Pasts::unitsFull, x -> x.row(0, 1));
        int[] wrong = {Integer.MIN_VALUE, -1, 2, Integer.MAX_VALUE};
        for (int what : wrong) {
            argument("row(0, " + what + ")", Pasts::work, x -> x.row(0, what));
            argument("row(1, " + what + ")", Pasts::work, x -> x.row(1, what));
        }
    }

    private static void making() {
        int[] none = {Integer.MIN_VALUE, -1, 0, 12, 40, Integer.MAX_VALUE};
        for (int making : none) {
            missing("making(" + making + ", 0)", Pasts::work, x -> x.making(making, 0));
            missing("no making, ahead of the range: " + making, Pasts::work, x -> x.making(making, 7));
        }
        missing("making(1, 0) where none is", Pasts::nothing, x -> x.making(1, 0));
        missing("making(41, 0)", Pasts::makingsFull, x -> x.making(41, 0));
        int[] wrong = {Integer.MIN_VALUE, -1, 7, Integer.MAX_VALUE};
        for (int what : wrong) {
            argument("making(1, " + what + ")", Pasts::work, x -> x.making(1, what));
            argument("making(11, " + what + ")", Pasts::work, x -> x.making(11, what));
        }
    }

    private static void unit() {
        int[] none = {Integer.MIN_VALUE, -1, 0, 5, 60, Integer.MAX_VALUE};
        for (int unit : none) {
            missing("unit(" + unit + ", 0)", Pasts::work, x -> x.unit(unit, 0));
            missing("no unit, ahead of the range: " + unit, Pasts::work, x -> x.unit(unit, 4));
        }
        missing("unit(1, 0) where none is", Pasts::nothing, x -> x.unit(1, 0));
        missing("unit(41, 0)", Pasts::unitsFull, x -> x.unit(41, 0));
        int[] wrong = {Integer.MIN_VALUE, -1, 4, Integer.MAX_VALUE};
        for (int what : wrong) {
            argument("unit(1, " + what + ")", Pasts::work, x -> x.unit(1, what));
            argument("unit(4, " + what + ")", Pasts::work, x -> x.unit(4, what));
        }
    }

    private static void good() {
        int[] wrong = {Integer.MIN_VALUE, -1, 20, Integer.MAX_VALUE};
        for (int good : wrong) {
            argument("good(" + good + ", 0)", Pasts::work, x -> x.good(good, 0));
            argument("good(" + good + ", 1)", Pasts::work, x -> x.good(good, 1));
        }
        int[] whats = {Integer.MIN_VALUE, -1, 2, Integer.MAX_VALUE};
        for (int what : whats) {
            argument("good(5, " + what + ")", Pasts::work, x -> x.good(5, what));
        }
        argument("good(20, 2)", Pasts::nothing, x -> x.good(20, 2));
    }

    /** Calls that only tell change nothing, whatever they are asked. */
    private static void questions() {
        twins.asked(-1, "count(-1)", Pasts::work, x -> x.count(-1));
        twins.asked(-1, "count(5)", Pasts::work, x -> x.count(5));
        twins.asked(5, "count(0)", Pasts::work, x -> x.count(0));
        twins.asked(9, "count(4)", Pasts::work, x -> x.count(4));
        twins.asked(6, "ring(1)", Pasts::work, x -> x.ring(1));
        twins.asked(-1, "ring(2)", Pasts::work, x -> x.ring(2));
        twins.asked(-1, "ring(-1)", Pasts::work, x -> x.ring(-1));
        twins.asked(27, "cost(0)", Pasts::work, x -> x.cost(0));
        twins.asked(54, "cost(4)", Pasts::work, x -> x.cost(4));
        twins.asked(3, "row(1, 0)", Pasts::work, x -> x.row(1, 0));
        twins.asked(2, "making(10, 4)", Pasts::work, x -> x.making(10, 4));
        twins.asked(5, "unit(2, 3)", Pasts::work, x -> x.unit(2, 3));
        twins.asked(1000, "good(19, 0)", Pasts::work, x -> x.good(19, 0));
        twins.asked(6, "an empty text", RefusalTest::workWithoutText, x -> x.read());
    }
}
