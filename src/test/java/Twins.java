import java.util.function.Consumer;
import java.util.function.IntSupplier;
import java.util.function.ToIntFunction;

/**
 * Holds an object against a twin with another past, to tell whether both are alike: all that can be asked of them, and
 * what they answer as they go on. Each look takes new objects, so that none gets more than the 512 calls it is good for.
 */
final class Twins {
    private interface Look {
        void at(KitRows x, StringBuilder seen);
    }

    private static final Look RING = Twins::ring;
    private static final Look[] LOOKS = {Twins::numbers, Twins::makings, Twins::units, Twins::reading,
        Twins::recipesOfToday, Twins::recipesOfTheLastDay, Twins::tellingOn, Twins::goingOn, Twins::dropping,
        Twins::breaking, Twins::newKitsUpwards, Twins::newKitsDownwards};

    private final Check t;

    Twins(Check t) {
        this.t = t;
    }

    /** The call throws this, and changes nothing. */
    void refused(Class<? extends RuntimeException> want, String what, Consumer<KitRows> past, Consumer<KitRows> call) {
        KitRows x = new KitRows();
        past.accept(x);
        t.refused(want, what, () -> call.accept(x));
        alike(what, past.andThen(y -> answer(() -> {
            call.accept(y);
            return 0;
        })), past);
    }

    /** The call answers this, and changes nothing. */
    void asked(int want, String what, Consumer<KitRows> past, ToIntFunction<KitRows> call) {
        answered(want, what, past, call);
        alike(what, past.andThen(call::applyAsInt), past);
    }

    /** The call answers this, and changes nothing but the ring that is told. */
    void askedButForRing(int want, String what, Consumer<KitRows> past, ToIntFunction<KitRows> call) {
        answered(want, what, past, call);
        alikeButForRing(what, past.andThen(call::applyAsInt), past);
    }

    void alike(String what, Consumer<KitRows> one, Consumer<KitRows> other) {
        compare(what, one, other, RING);
        alikeButForRing(what, one, other);
    }

    private void alikeButForRing(String what, Consumer<KitRows> one, Consumer<KitRows> other) {
        for (Look look : LOOKS) {
            compare(what, one, other, look);
        }
    }

    private void answered(int want, String what, Consumer<KitRows> past, ToIntFunction<KitRows> call) {
        KitRows x = new KitRows();
        past.accept(x);
        t.due(what, call.applyAsInt(x), want);
    }

    private void compare(String what, Consumer<KitRows> one, Consumer<KitRows> other, Look look) {
        String got = seen(one, look);
        String want = seen(other, look);
        t.due(what + " changes nothing", got.equals(want) ? 1 : 0, 1);
        if (!got.equals(want)) {
            t.fail("it is " + got + "\n  due is " + want);
        }
    }

    private static String seen(Consumer<KitRows> past, Look look) {
        KitRows x = new KitRows();
        past.accept(x);
        StringBuilder all = new StringBuilder();
        look.at(x, all);
        return all.toString();
    }

    private static String answer(IntSupplier call) {
        try {
            return String.valueOf(call.getAsInt());
        } catch (IllegalStateException | IllegalArgumentException | UnsupportedOperationException
                | java.util.NoSuchElementException e) {
            return e.getClass().getSimpleName();
        }
    }

    private static void tell(StringBuilder seen, String name, IntSupplier call) {
        seen.append(' ').append(name).append('=').append(answer(call));
    }

    private static void ring(KitRows x, StringBuilder seen) {
        for (int i = -1; i <= 20; i++) {
            final int at = i;
            tell(seen, "ring" + i, () -> x.ring(at));
        }
    }

    private static void numbers(KitRows x, StringBuilder seen) {
        for (int i = 0; i < 5; i++) {
            final int what = i;
            tell(seen, "count" + i, () -> x.count(what));
            tell(seen, "row" + i, () -> x.row(what, 0));
            tell(seen, "pieces" + i, () -> x.row(what, 1));
        }
        goods(x, seen);
        for (int i = 0; i < 12; i++) {
            final int kit = i;
            tell(seen, "cost" + i, () -> x.cost(kit));
        }
    }

    private static void goods(KitRows x, StringBuilder seen) {
        for (int i = 0; i < 20; i++) {
            final int good = i;
            tell(seen, "loose" + i, () -> x.good(good, 0));
            tell(seen, "kit" + i, () -> x.good(good, 1));
        }
    }

    private static void makings(KitRows x, StringBuilder seen) {
        for (int i = 1; i <= x.count(1); i++) {
            for (int w = 0; w < 7; w++) {
                final int making = i;
                final int what = w;
                tell(seen, "making" + i + "." + w, () -> x.making(making, what));
            }
        }
    }

    private static void units(KitRows x, StringBuilder seen) {
        for (int i = 1; i <= x.count(2); i++) {
            for (int w = 0; w < 4; w++) {
                final int unit = i;
                final int what = w;
                tell(seen, "unit" + i + "." + w, () -> x.unit(unit, what));
            }
        }
    }

    private static void reading(KitRows x, StringBuilder seen) {
        tell(seen, "signs", () -> x.count(4));
        tell(seen, "read", x::read);
        goods(x, seen);
    }

    /** Whatever a recipe holds shows in a making: its pieces in all, and which of its parts have a good instead. */
    private static void recipesOfToday(KitRows x, StringBuilder seen) {
        for (int i = 0; i < 12; i++) {
            final int kit = i;
            tell(seen, "make" + i, () -> x.make(kit, 4));
            final int making = x.count(1);
            tell(seen, "needs", () -> x.making(making, 5));
            tell(seen, "holds", () -> x.making(making, 4));
            for (int p = 1; p <= 5; p++) {
                final int part = p;
                tell(seen, "substitute" + p, () -> {
                    x.substitute(making, part);
                    return x.making(making, 4);
                });
            }
        }
    }

    private static void recipesOfTheLastDay(KitRows x, StringBuilder seen) {
        x.day(1000);
        for (int i = 0; i < 12; i++) {
            final int kit = i;
            tell(seen, "cost" + i, () -> x.cost(kit));
        }
        recipesOfToday(x, seen);
    }

    private static void tellingOn(KitRows x, StringBuilder seen) {
        for (int i = 0; i < 12; i++) {
            final int kit = i;
            tell(seen, "instead" + i, () -> x.part(kit, 18, 1, true));
            tell(seen, "part" + i, () -> x.part(kit, 19, 1, false));
            for (int g = 0; g < 17; g++) {
                final int good = g;
                tell(seen, "instead" + i + "." + g, () -> x.part(kit, good, 1, true));
            }
            tell(seen, "changed" + i, () -> x.changed(kit, 1000));
        }
    }

    private static void goingOn(KitRows x, StringBuilder seen) {
        for (int good = 0; good < 20; good++) {
            tell(seen, "stock" + good, stockCall(x, good));
        }
        for (int i = 1; i <= x.count(1) && i <= 20; i++) {
            final int making = i;
            for (int n = 1; n <= 5; n++) {
                final int step = n;
                tell(seen, "step" + i + "." + n, () -> x.step(making, step, step % 3 > 0));
            }
            tell(seen, "done" + i, () -> x.done(making));
        }
        goods(x, seen);
    }

    private static IntSupplier stockCall(KitRows x, int good) {
        return () -> x.stock(good, 3);
    }

    private static void dropping(KitRows x, StringBuilder seen) {
        for (int i = 1; i <= x.count(1); i++) {
            final int making = i;
            tell(seen, "drop" + i, () -> {
                x.drop(making);
                return x.good(1, 0);
            });
        }
        goods(x, seen);
    }

    private static void breaking(KitRows x, StringBuilder seen) {
        for (int i = x.count(2); i >= 1; i--) {
            final int unit = i;
            tell(seen, "broken" + i, () -> x.broken(unit));
            tell(seen, "row0", () -> x.row(0, 0));
        }
        goods(x, seen);
    }

    /** Goods that led somewhere would make rings here, up the goods or down. */
    private static void newKitsUpwards(KitRows x, StringBuilder seen) {
        for (int good = 0; good < 20; good++) {
            newKit(x, seen, good, 1);
        }
        goods(x, seen);
    }

    private static void newKitsDownwards(KitRows x, StringBuilder seen) {
        for (int good = 19; good >= 0; good--) {
            newKit(x, seen, good, 19);
        }
        goods(x, seen);
    }

    private static void newKit(KitRows x, StringBuilder seen, int good, int onward) {
        tell(seen, "new" + good, () -> x.kit(good));
        for (int i = 1; i <= 5; i++) {
            final int part = (good + i * onward) % 20;
            tell(seen, "part" + part, () -> x.part(x.good(good, 1), part, 1, false));
        }
    }
}
