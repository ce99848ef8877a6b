/** What objects may have behind them when a test begins. */
final class Pasts {
    private Pasts() {
    }

    static void nothing(KitRows x) {
    }

    /**
     * Kits 0 to 4 make goods 5 to 9: of 0 the last part has no good instead, of 1 it has one, 2 has no parts, 3 has all
     * five, 4 has all four recipes. It is day 3. Makings 1 to 4 are done, 7 is dropped; of the open ones 5 (station 1)
     * can make its step, 6 waits behind it and is substituted, 8 (station 4) holds nothing, 9 (station 0) has made all
     * steps, 10 (station 2) one of two, and lacks pieces for the next, 11 (station 3) none, and lacks some.
     * Unit 1 is bound in unit 3, 2 is held by making 5, 3 is loose, 4 broken.
     */
    static void work(KitRows x) {
        tellKits(x);
        x.price(1, 10);
        x.price(3, 7);
        x.price(12, 1000);
        for (int unit = 1; unit <= 2; unit++) {
            x.stock(1, 2);
            x.stock(3, 1);
            Check.finish(x, x.make(0, 0));
        }
        Check.finish(x, x.make(1, 1));
        x.stock(1, 2);
        x.stock(3, 1);
        Check.finish(x, x.make(0, 2));
        x.broken(4);
        x.make(1, 1);
        x.make(0, 1);
        x.substitute(6, 1);
        x.drop(x.make(0, 3));
        x.make(3, 4);
        x.make(0, 0);
        x.stock(1, 3);
        x.stock(3, 1);
        x.step(9, 1, true);
        x.step(9, 2, true);
        x.make(0, 2);
        x.step(10, 1, true);
        x.make(0, 3);
        x.stock(4, 2);
        x.stock(19, 1000);
        x.part(0, 6, 1, false);
        Check.signAll(x, "K 10 1*1\n");
    }

    private static void tellKits(KitRows x) {
        for (int good = 5; good <= 9; good++) {
            x.kit(good);
        }
        x.part(0, 1, 2, false);
        x.part(0, 2, 1, true);
        x.part(0, 3, 1, false);
        x.part(1, 5, 1, false);
        x.part(1, 4, 1, true);
        for (int part = 1; part <= 5; part++) {
            x.part(3, 0, 1, false);
        }
        x.part(4, 6, 1, false);
        x.changed(4, 3);
        x.part(4, 6, 2, false);
        x.changed(4, 4);
        x.part(4, 12, 1, false);
        x.changed(4, 900);
        x.part(4, 11, 1, false);
        x.day(3);
    }

    /** 12 kits, for goods 0 to 11; 0 has five parts; 1 has four recipes, the last one empty; 2 has no parts. */
    static void kitsFull(KitRows x) {
        for (int good = 0; good < 12; good++) {
            x.kit(good);
        }
        for (int part = 1; part <= 5; part++) {
            x.part(0, 12, 1, false);
        }
        x.part(1, 12, 1, false);
        for (int day = 1; day <= 3; day++) {
            x.changed(1, day);
        }
    }

    /** All kits, and 40 open makings of kit 0. */
    static void makingsFull(KitRows x) {
        kitsFull(x);
        for (int making = 1; making <= 40; making++) {
            x.make(0, making % 5);
        }
    }

    /** 40 makings, all done, and their units, all loose: more there can't be. */
    static void unitsFull(KitRows x) {
        x.kit(5);
        x.part(0, 1, 1, false);
        x.stock(1, 40);
        for (int making = 1; making <= 40; making++) {
            x.make(0, 0);
            x.step(making, 1, true);
            x.done(making);
        }
    }
}
