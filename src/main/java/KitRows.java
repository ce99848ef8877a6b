import java.util.ArrayList;
import java.util.Arrays;
import java.util.NoSuchElementException;

/** Kits of a warehouse: their recipes, the makings that go by these, and the units that come of the makings. */
public final class KitRows {
    private static final int GOODS = 20;
    private static final int STATIONS = 5;
    private static final int MOST_KITS = 12;
    private static final int MOST_RECIPES = 4;
    private static final int MOST_PARTS = 5;
    private static final int MOST_PIECES_OF_PART = 9;
    private static final int MOST_PIECES_AT_ONCE = 1000;
    private static final int MOST_MAKINGS = 40;
    private static final int MOST_UNITS = 60;
    private static final int MOST_SIGNS = 1000;
    private static final int HIGHEST_PRICE = 1000;
    private static final int LAST_DAY = 1000;
    private static final long HIGHEST_COST = 1000000000L;
    private static final long TOO_DEAR = HIGHEST_COST + 1;

    private static final int NONE = -1;

    private static final int OPEN = 0;
    private static final int DONE = 1;
    private static final int DROPPED = 2;

    private static final int LOOSE = 0;
    private static final int HELD = 1;
    private static final int BOUND = 2;
    private static final int BROKEN = 3;

    private static final char LINE_END = 10;
    private static final char FIRST_PRINTED = 32;
    private static final char LAST_PRINTED = 126;

    private final Book book;
    private final Reader reader;
    private final Ring refusedRing;
    private final Floor floor;
    private final int[] prices;
    private Recipe brokenRows;
    private int today;

    public KitRows() {
        book = new Book();
        reader = new Reader();
        refusedRing = new Ring();
        floor = new Floor();
        prices = new int[GOODS];
        brokenRows = null;
        today = 0;
    }

    public void sign(int c) throws IllegalArgumentException, UnsupportedOperationException {
        if (c != LINE_END && (c < FIRST_PRINTED || c > LAST_PRINTED)) {
            throw new IllegalArgumentException("no sign of a text");
        }
        if (reader.size >= MOST_SIGNS) {
            throw new UnsupportedOperationException("no room for another sign");
        }
        reader.collect((char) c);
    }

    public int read() throws UnsupportedOperationException {
        int kitsBefore = book.kits.size();
        int place = reader.readText(book);
        if (place != NONE) {
            book.takeBack(kitsBefore);
            return -1 - place;
        }
        if (book.kits.size() > MOST_KITS) {
            book.takeBack(kitsBefore);
            throw new UnsupportedOperationException("no room for the kits of the text");
        }
        return book.kits.size();
    }

    public int kit(int good) throws IllegalArgumentException, IllegalStateException, UnsupportedOperationException {
        checkGood(good);
        if (book.hasKit(good)) {
            throw new IllegalStateException("the good has a kit");
        }
        if (book.kits.size() >= MOST_KITS) {
            throw new UnsupportedOperationException("no room for another kit");
        }
        return book.addKit(good).number;
    }

    public int part(int kit, int good, int n, boolean instead)
            throws NoSuchElementException, IllegalArgumentException, IllegalStateException,
            UnsupportedOperationException {
        Kit found = existingKit(kit);
        checkGood(good);
        if (instead) {
            return tellInstead(found, good);
        }
        checkRange(n, 1, MOST_PIECES_OF_PART);
        return tellPart(found, good, n);
    }

    public int ring(int i) {
        return refusedRing.goodAt(i);
    }

    public int changed(int kit, int day)
            throws NoSuchElementException, IllegalArgumentException, IllegalStateException,
            UnsupportedOperationException {
        Kit found = existingKit(kit);
        checkRange(day, 0, LAST_DAY);
        if (day < today || day <= found.newest.firstDay) {
            throw new IllegalStateException("the day is too early");
        }
        if (found.recipeCount >= MOST_RECIPES) {
            throw new UnsupportedOperationException("no room for another recipe");
        }
        found.addRecipe(day);
        return found.recipeCount;
    }

    public void day(int day) throws IllegalArgumentException, IllegalStateException {
        checkRange(day, 0, LAST_DAY);
        if (day < today) {
            throw new IllegalStateException("it was a later day");
        }
        today = day;
    }

    public void price(int good, int price) throws IllegalArgumentException {
        checkGood(good);
        checkRange(price, 0, HIGHEST_PRICE);
        prices[good] = price;
    }

    public int cost(int kit) throws NoSuchElementException {
        Kit found = existingKit(kit);
        book.forgetCosts();
        long sum = costOfKit(found, 1);
        return sum > HIGHEST_COST ? -1 : (int) sum;
    }

    public int stock(int good, int n) throws IllegalArgumentException {
        checkGood(good);
        checkRange(n, 1, MOST_PIECES_AT_ONCE);
        floor.receive(good, n);
        return floor.loosePieces(good);
    }

    public int make(int kit, int station)
            throws NoSuchElementException, IllegalArgumentException, IllegalStateException,
            UnsupportedOperationException {
        Kit found = existingKit(kit);
        checkRange(station, 0, STATIONS - 1);
        Recipe recipe = found.recipeOn(today);
        if (recipe.size == 0) {
            throw new IllegalStateException("today's recipe has no parts");
        }
        if (floor.makings.size() >= MOST_MAKINGS) {
            throw new UnsupportedOperationException("no room for another making");
        }
        return floor.begin(found, recipe, station).number;
    }

    public void substitute(int making, int part)
            throws NoSuchElementException, IllegalArgumentException, IllegalStateException {
        Making found = existingMaking(making);
        checkRange(part, 1, found.recipe.size);
        checkOpen(found);
        if (part <= found.steps) {
            throw new IllegalStateException("the step is made");
        }
        // Behind a substitution the making's recipe has no good instead either, so this refuses the second one too.
        if (found.recipe.insteads[part - 1] == NONE) {
            throw new IllegalStateException("no good stands instead, or it does already");
        }
        floor.useInstead(found, part - 1);
    }

    public int step(int making, int n, boolean good) throws NoSuchElementException, IllegalStateException {
        Making found = existingMaking(making);
        checkOpen(found);
        if (!floor.isFirstAtItsStation(found)) {
            throw new IllegalStateException("another making is at the station");
        }
        if (found.stepsLeft() == 0 || n != found.steps + 1) {
            throw new IllegalStateException("not the next step");
        }
        int part = found.steps;
        if (found.needed(part) > 0) {
            return 0;
        }
        if (good) {
            found.steps++;
        } else {
            floor.fail(found, part);
        }
        return 1;
    }

    public int done(int making) throws NoSuchElementException, IllegalStateException, UnsupportedOperationException {
        Making found = existingMaking(making);
        checkOpen(found);
        if (found.stepsLeft() > 0) {
            return -found.stepsLeft();
        }
        if (floor.units.size() >= MOST_UNITS) {
            throw new UnsupportedOperationException("no room for another unit");
        }
        return floor.finish(found).number;
    }

    public void drop(int making) throws NoSuchElementException, IllegalStateException {
        Making found = existingMaking(making);
        checkOpen(found);
        floor.giveUp(found);
    }

    public int broken(int unit) throws NoSuchElementException, IllegalStateException {
        Unit found = existingUnit(unit);
        if (found.state != LOOSE) {
            throw new IllegalStateException("the unit is not loose");
        }
        brokenRows = floor.takeApart(found);
        return brokenRows.size;
    }

    public int row(int i, int what) throws NoSuchElementException, IllegalArgumentException {
        Recipe rows = brokenRows;
        if (rows == null || i < 0 || i >= rows.size) {
            throw new NoSuchElementException("no such row");
        }
        checkRange(what, 0, 1);
        return what == 0 ? rows.goods[i] : rows.pieces[i];
    }

    public int making(int making, int what) throws NoSuchElementException, IllegalArgumentException {
        Making found = existingMaking(making);
        switch (what) {
            case 0:
                return found.state;
            case 1:
                return found.kit;
            case 2:
                return found.station;
            case 3:
                return found.steps;
            case 4:
                return found.state == OPEN ? found.allHeld() : 0;
            case 5:
                return found.state == OPEN ? found.allNeeded() : 0;
            case 6:
                return found.unit;
            default:
                throw new IllegalArgumentException("nothing of a making");
        }
    }

    public int unit(int unit, int what) throws NoSuchElementException, IllegalArgumentException {
        Unit found = existingUnit(unit);
        switch (what) {
            case 0:
                return found.state;
            case 1:
                return found.good;
            case 2:
                return found.madeBy.number;
            case 3:
                return found.holderNumber();
            default:
                throw new IllegalArgumentException("nothing of a unit");
        }
    }

    public int good(int good, int what) throws IllegalArgumentException {
        checkGood(good);
        checkRange(what, 0, 1);
        return what == 0 ? floor.loosePieces(good) : book.kitNumber(good);
    }

    public int count(int what) {
        switch (what) {
            case 0:
                return book.kits.size();
            case 1:
                return floor.makings.size();
            case 2:
                return floor.units.size();
            case 3:
                return today;
            case 4:
                return reader.size;
            default:
                return -1;
        }
    }

    private static void checkRange(int value, int least, int most) {
        if (value < least || value > most) {
            throw new IllegalArgumentException("outside its range");
        }
    }

    private static void checkGood(int good) {
        checkRange(good, 0, GOODS - 1);
    }

    private static void checkOpen(Making making) {
        if (making.state != OPEN) {
            throw new IllegalStateException("the making is not open");
        }
    }

    private Kit existingKit(int number) {
        if (number < 0 || number >= book.kits.size()) {
            throw new NoSuchElementException("no such kit");
        }
        return book.kits.get(number);
    }

    private Making existingMaking(int number) {
        if (number < 1 || number > floor.makings.size()) {
            throw new NoSuchElementException("no such making");
        }
        return floor.makings.get(number - 1);
    }

    private Unit existingUnit(int number) {
        if (number < 1 || number > floor.units.size()) {
            throw new NoSuchElementException("no such unit");
        }
        return floor.units.get(number - 1);
    }

    private int tellPart(Kit kit, int good, int pieces) {
        if (kit.newest.size >= MOST_PARTS) {
            throw new UnsupportedOperationException("no room for another part");
        }
        if (book.makesRing(kit, good)) {
            return refuseRing(kit, good);
        }
        book.addPart(kit, good, pieces);
        return kit.newest.size;
    }

    private int tellInstead(Kit kit, int good) {
        Recipe recipe = kit.newest;
        int last = recipe.size - 1;
        if (last < 0 || recipe.insteads[last] != NONE || recipe.goods[last] == good) {
            throw new IllegalStateException("no part for which this good may be told as the one instead");
        }
        if (book.makesRing(kit, good)) {
            return refuseRing(kit, good);
        }
        book.addInstead(kit, good);
        return 0;
    }

    private int refuseRing(Kit kit, int good) {
        refusedRing.trace(book, kit, good);
        return -refusedRing.size;
    }

    /** Counts each kit once a call: it may stand in so many others that to go all ways to it would take hours. */
    private long costOfKit(Kit kit, int depth) {
        // Without rings no way leads through more kits than there are.
        if (depth > MOST_KITS) {
            return TOO_DEAR;
        }
        if (kit.knownCost != NONE) {
            return kit.knownCost;
        }
        Recipe recipe = kit.recipeOn(today);
        long sum = 0;
        for (int part = 0; part < recipe.size; part++) {
            sum += recipe.pieces[part] * costOfPiece(recipe.goods[part], depth);
        }
        // Cut off just above the limit, so that no sum of sums runs over.
        kit.knownCost = Math.min(sum, TOO_DEAR);
        return kit.knownCost;
    }

    private long costOfPiece(int good, int depth) {
        Kit kit = book.kitOfGood[good];
        return kit == null ? prices[good] : costOfKit(kit, depth + 1);
    }

    /** Parts from a day on; a making has a copy of its own, which a substitution changes. */
    private static final class Recipe {
        final int firstDay;
        final Recipe earlier;
        final int[] goods;
        final int[] pieces;
        final int[] insteads;
        int size;

        Recipe(int firstDay, Recipe earlier) {
            this.firstDay = firstDay;
            this.earlier = earlier;
            goods = new int[MOST_PARTS];
            pieces = new int[MOST_PARTS];
            insteads = new int[MOST_PARTS];
            size = 0;
        }

        void addPart(int good, int number) {
            if (size < MOST_PARTS) {
                goods[size] = good;
                pieces[size] = number;
                insteads[size] = NONE;
                size++;
            }
        }

        void addInstead(int good) {
            if (size > 0) {
                insteads[size - 1] = good;
            }
        }

        void useInstead(int part) {
            goods[part] = insteads[part];
            insteads[part] = NONE;
        }

        Recipe copy() {
            Recipe copied = new Recipe(firstDay, null);
            for (int part = 0; part < size; part++) {
                copied.addPart(goods[part], pieces[part]);
                copied.addInstead(insteads[part]);
            }
            return copied;
        }
    }

    /** Each new recipe is for a later day, so that the chain from the newest one on goes back in time, to day 0. */
    private static final class Kit {
        final int number;
        final int good;
        Recipe newest;
        int recipeCount;
        long knownCost;

        Kit(int number, int good) {
            this.number = number;
            this.good = good;
            newest = new Recipe(0, null);
            recipeCount = 1;
            knownCost = NONE;
        }

        void addRecipe(int firstDay) {
            newest = new Recipe(firstDay, newest);
            recipeCount++;
        }

        Recipe recipeOn(int day) {
            Recipe found = newest;
            while (found.earlier != null && found.firstDay > day) {
                found = found.earlier;
            }
            return found;
        }
    }

    /** All kits, and for each good (as bits) the goods to which it leads in one go. */
    private static final class Book {
        final ArrayList<Kit> kits;
        final Kit[] kitOfGood;
        private final int[] leads;
        private final int[] away;

        Book() {
            kits = new ArrayList<Kit>();
            kitOfGood = new Kit[GOODS];
            leads = new int[GOODS];
            away = new int[GOODS];
        }

        boolean hasKit(int good) {
            return kitOfGood[good] != null;
        }

        int kitNumber(int good) {
            Kit kit = kitOfGood[good];
            return kit == null ? NONE : kit.number;
        }

        Kit addKit(int good) {
            Kit added = new Kit(kits.size(), good);
            kitOfGood[good] = added;
            kits.add(added);
            return added;
        }

        void addPart(Kit kit, int good, int pieces) {
            kit.newest.addPart(good, pieces);
            leads[kit.good] |= 1 << good;
        }

        void addInstead(Kit kit, int good) {
            kit.newest.addInstead(good);
            leads[kit.good] |= 1 << good;
        }

        /** Takes the newest kits back till so many are left; a good without a kit leads to nothing. */
        void takeBack(int left) {
            for (int i = kits.size() - 1; i >= 0 && i >= left; i--) {
                int good = kits.get(i).good;
                kitOfGood[good] = null;
                leads[good] = 0;
                kits.remove(i);
            }
        }

        void forgetCosts() {
            for (int i = 0; i < kits.size(); i++) {
                kits.get(i).knownCost = NONE;
            }
        }

        /** Would the kit's good lead to itself, if it led to this one? What it measures is kept, to trace the ring. */
        boolean makesRing(Kit kit, int good) {
            Arrays.fill(away, NONE);
            away[kit.good] = 0;
            int reached = 1 << kit.good;
            for (int steps = 1; steps < GOODS && reached != 0; steps++) {
                reached = reachFrom(reached, steps);
            }
            return away[good] != NONE;
        }

        /** How many goods on from this one the kit's good lies for which makesRing() was asked last. */
        int stepsFrom(int good) {
            return away[good];
        }

        /** The least of the next goods on the shortest ways to that kit's good. */
        int nextOnWay(int good) {
            for (int next = 0; next < GOODS; next++) {
                if ((leads[good] >> next & 1) == 1 && away[next] == away[good] - 1) {
                    return next;
                }
            }
            return good;
        }

        private int reachFrom(int nearer, int steps) {
            int reached = 0;
            for (int good = 0; good < GOODS; good++) {
                if (away[good] == NONE && (leads[good] & nearer) != 0) {
                    away[good] = steps;
                    reached |= 1 << good;
                }
            }
            return reached;
        }
    }

    /** The ring for which part() was refused last. */
    private static final class Ring {
        private final int[] goods;
        int size;

        Ring() {
            goods = new int[GOODS];
            size = 0;
        }

        int goodAt(int i) {
            return i >= 0 && i < size ? goods[i] : NONE;
        }

        /** Goes by what the book measured as it found the ring. */
        void trace(Book book, Kit kit, int good) {
            goods[0] = kit.good;
            size = 1;
            int here = good;
            for (int left = book.stepsFrom(good); left > 0 && size < GOODS; left--) {
                goods[size] = here;
                size++;
                here = book.nextOnWay(here);
            }
        }
    }

    /** Adds a text's kits to the book as it goes, so that each number is looked at with all before it. */
    private static final class Reader {
        private static final int TEXT_END = -1;
        private static final int BEYOND_ALL = 1000;

        private final char[] signs;
        int size;
        private int at;
        private int refusedAt;

        Reader() {
            signs = new char[MOST_SIGNS];
            size = 0;
            at = 0;
            refusedAt = NONE;
        }

        void collect(char c) {
            if (size < MOST_SIGNS) {
                signs[size] = c;
                size++;
            }
        }

        /** The place at which the text is refused, or NONE; the caller takes back what it added till then. */
        int readText(Book book) {
            at = 0;
            refusedAt = NONE;
            boolean right = true;
            for (int line = 0; line < MOST_SIGNS && right && at < size; line++) {
                right = readLine(book);
            }
            size = 0;
            return refusedAt;
        }

        private boolean readLine(Book book) {
            if (!pass('K') || !pass(' ')) {
                return false;
            }
            int start = at;
            int good = readNumber(0, GOODS - 1);
            if (good == NONE) {
                return false;
            }
            if (book.hasKit(good)) {
                return refuse(start);
            }
            Kit kit = book.addKit(good);
            boolean right = readPart(book, kit);
            for (int parts = 1; parts < MOST_PARTS && right && nextSign() == ' '; parts++) {
                right = readPart(book, kit);
            }
            return right && pass(LINE_END);
        }

        private boolean readPart(Book book, Kit kit) {
            if (!pass(' ')) {
                return false;
            }
            int pieces = readNumber(1, MOST_PIECES_OF_PART);
            if (pieces == NONE || !pass('*')) {
                return false;
            }
            int good = readLedTo(book, kit, NONE);
            if (good == NONE) {
                return false;
            }
            book.addPart(kit, good, pieces);
            if (nextSign() != '/') {
                return true;
            }
            at++;
            int instead = readLedTo(book, kit, good);
            if (instead == NONE) {
                return false;
            }
            book.addInstead(kit, instead);
            return true;
        }

        /** A good to which the kit's good may lead, and not the one named here. */
        private int readLedTo(Book book, Kit kit, int notThis) {
            int start = at;
            int good = readNumber(0, GOODS - 1);
            if (good != NONE && (good == notThis || book.makesRing(kit, good))) {
                refuse(start);
                return NONE;
            }
            return good;
        }

        /** A 0 in front is a number of its own: a digit behind it is refused as a sign that can't stand there. */
        private int readNumber(int least, int most) {
            int start = at;
            boolean more = isDigit(nextSign());
            if (!more) {
                refuse(at);
                return NONE;
            }
            int value = 0;
            while (more && at < size) {
                value = Math.min(value * 10 + (signs[at] - '0'), BEYOND_ALL);
                at++;
                more = value != 0 && isDigit(nextSign());
            }
            if (value < least || value > most) {
                refuse(start);
                return NONE;
            }
            return value;
        }

        private static boolean isDigit(int c) {
            return c >= '0' && c <= '9';
        }

        private int nextSign() {
            return at < size ? signs[at] : TEXT_END;
        }

        private boolean pass(char due) {
            if (nextSign() != due) {
                return refuse(at);
            }
            at++;
            return true;
        }

        private boolean refuse(int place) {
            refusedAt = place;
            return false;
        }
    }

    /** Holds plain pieces (no units) and units, part by part; of a done one this tells what is bound in its unit. */
    private static final class Making {
        final int number;
        final int kit;
        final int good;
        final int station;
        final Recipe recipe;
        final int[] plainHeld;
        final int[] unitsHeld;
        int state;
        int steps;
        int unit;

        Making(int number, Kit of, Recipe recipe, int station) {
            this.number = number;
            this.kit = of.number;
            this.good = of.good;
            this.station = station;
            this.recipe = recipe;
            plainHeld = new int[MOST_PARTS];
            unitsHeld = new int[MOST_PARTS];
            state = OPEN;
            steps = 0;
            unit = 0;
        }

        int stepsLeft() {
            return recipe.size - steps;
        }

        int held(int part) {
            return plainHeld[part] + unitsHeld[part];
        }

        int needed(int part) {
            return recipe.pieces[part] - held(part);
        }

        int allHeld() {
            int sum = 0;
            for (int part = 0; part < recipe.size; part++) {
                sum += held(part);
            }
            return sum;
        }

        int allNeeded() {
            int sum = 0;
            for (int part = 0; part < recipe.size; part++) {
                sum += needed(part);
            }
            return sum;
        }
    }

    /** A held unit has a holder (and its part for which it is held), a bound one a whole; neither stands else. */
    private static final class Unit {
        final int number;
        final int good;
        final Making madeBy;
        int state;
        private Making holder;
        private int heldPart;
        private Unit whole;

        Unit(int number, Making madeBy) {
            this.number = number;
            this.good = madeBy.good;
            this.madeBy = madeBy;
            state = LOOSE;
            holder = null;
            heldPart = NONE;
            whole = null;
        }

        int holderNumber() {
            if (holder != null) {
                return holder.number;
            }
            return whole != null ? whole.number : 0;
        }

        boolean isHeldBy(Making making) {
            return holder == making;
        }

        boolean isHeldFor(Making making, int part) {
            return holder == making && heldPart == part;
        }

        boolean isBoundIn(Unit other) {
            return whole == other;
        }

        boolean isBoundInBroken() {
            return whole != null && whole.state == BROKEN;
        }

        void hold(Making making, int part) {
            state = HELD;
            holder = making;
            heldPart = part;
        }

        void bind(Unit other) {
            leaveAs(BOUND);
            whole = other;
        }

        void leaveAs(int newState) {
            state = newState;
            holder = null;
            heldPart = NONE;
            whole = null;
        }
    }

    /** Pieces, makings and units; makings and units stand in their lists one place before their numbers. */
    private static final class Floor {
        final ArrayList<Making> makings;
        final ArrayList<Unit> units;
        private final int[] plainLoose;
        private final int[] unitsLoose;

        Floor() {
            makings = new ArrayList<Making>();
            units = new ArrayList<Unit>();
            plainLoose = new int[GOODS];
            unitsLoose = new int[GOODS];
        }

        int loosePieces(int good) {
            return plainLoose[good] + unitsLoose[good];
        }

        void receive(int good, int pieces) {
            plainLoose[good] += pieces;
            offerLoosePieces();
        }

        Making begin(Kit kit, Recipe recipe, int station) {
            Making begun = new Making(makings.size() + 1, kit, recipe.copy(), station);
            makings.add(begun);
            offerLoosePieces();
            return begun;
        }

        boolean isFirstAtItsStation(Making making) {
            for (int i = 0; i < makings.size() && i < making.number - 1; i++) {
                Making earlier = makings.get(i);
                if (earlier.state == OPEN && earlier.station == making.station) {
                    return false;
                }
            }
            return true;
        }

        void useInstead(Making making, int part) {
            loosen(making, part);
            making.recipe.useInstead(part);
            offerLoosePieces();
        }

        void fail(Making making, int part) {
            making.plainHeld[part] = 0;
            making.unitsHeld[part] = 0;
            // A unit's number is above those of all that is bound in it: going down, it is broken ahead of them.
            for (int i = units.size() - 1; i >= 0; i--) {
                Unit unit = units.get(i);
                if (unit.isHeldFor(making, part) || unit.isBoundInBroken()) {
                    unit.leaveAs(BROKEN);
                }
            }
            offerLoosePieces();
        }

        Unit finish(Making making) {
            Unit made = new Unit(units.size() + 1, making);
            for (int i = 0; i < units.size(); i++) {
                Unit unit = units.get(i);
                if (unit.isHeldBy(making)) {
                    unit.bind(made);
                }
            }
            making.state = DONE;
            making.unit = made.number;
            units.add(made);
            unitsLoose[made.good]++;
            offerLoosePieces();
            return made;
        }

        void giveUp(Making making) {
            making.state = DROPPED;
            for (int part = 0; part < making.recipe.size; part++) {
                loosen(making, part);
            }
            offerLoosePieces();
        }

        /** Answers the recipe by which the unit was made, with the goods that were taken. */
        Recipe takeApart(Unit whole) {
            Making by = whole.madeBy;
            unitsLoose[whole.good]--;
            whole.leaveAs(BROKEN);
            for (int part = 0; part < by.recipe.size; part++) {
                plainLoose[by.recipe.goods[part]] += by.plainHeld[part];
            }
            for (int i = 0; i < units.size(); i++) {
                Unit unit = units.get(i);
                if (unit.isBoundIn(whole)) {
                    loosenUnit(unit);
                }
            }
            offerLoosePieces();
            return by.recipe;
        }

        private void loosen(Making making, int part) {
            plainLoose[making.recipe.goods[part]] += making.plainHeld[part];
            making.plainHeld[part] = 0;
            making.unitsHeld[part] = 0;
            for (int i = 0; i < units.size(); i++) {
                Unit unit = units.get(i);
                if (unit.isHeldFor(making, part)) {
                    loosenUnit(unit);
                }
            }
        }

        private void loosenUnit(Unit unit) {
            unit.leaveAs(LOOSE);
            unitsLoose[unit.good]++;
        }

        /** Called when all that a call loosens is loose, because it depends on the rest which piece a making gets. */
        private void offerLoosePieces() {
            for (int i = 0; i < makings.size(); i++) {
                Making making = makings.get(i);
                for (int part = 0; making.state == OPEN && part < making.recipe.size; part++) {
                    takePlain(making, part);
                    takeUnits(making, part);
                }
            }
        }

        private void takePlain(Making making, int part) {
            int good = making.recipe.goods[part];
            int taken = Math.min(making.needed(part), plainLoose[good]);
            plainLoose[good] -= taken;
            making.plainHeld[part] += taken;
        }

        private void takeUnits(Making making, int part) {
            int good = making.recipe.goods[part];
            for (int i = 0; i < units.size() && unitsLoose[good] > 0 && making.needed(part) > 0; i++) {
                Unit unit = units.get(i);
                if (unit.state == LOOSE && unit.good == good) {
                    unit.hold(making, part);
                    unitsLoose[good]--;
                    making.unitsHeld[part]++;
                }
            }
        }
    }
}
