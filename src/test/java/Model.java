import java.util.ArrayList;
import java.util.Arrays;
import java.util.Comparator;
import java.util.List;
import java.util.NoSuchElementException;
import java.util.regex.Matcher;
import java.util.regex.Pattern;

/** The document in another form, slow and plain, to hold the program against: every piece is an object of its own. */
final class Model {
    private static final String GOOD = "(?:0|[1-9][0-9]*)";
    private static final String NUMBER = "[1-9][0-9]*";
    private static final String PART = "(?: " + NUMBER + "\\*" + GOOD + "(?:/" + GOOD + ")?)";
    private static final Pattern TEXT = Pattern.compile("(?:K " + GOOD + PART + "{1,5}\n)*");
    private static final Pattern TOKEN = Pattern.compile("(?<sign>[K */\n])|(?<number>0|[1-9][0-9]*)");

    static final class Part {
        int good;
        int pieces;
        Integer instead;
        boolean swapped;

        Part copy() {
            Part p = new Part();
            p.good = good;
            p.pieces = pieces;
            p.instead = instead;
            return p;
        }
    }

    static final class Recipe {
        int day;
        List<Part> parts = new ArrayList<>();
    }

    static final class Kit {
        int good;
        List<Recipe> recipes = new ArrayList<>();

        Recipe last() {
            return recipes.get(recipes.size() - 1);
        }
    }

    static final class Making {
        int kit;
        int station;
        int state;
        int steps;
        int unit;
        List<Part> parts = new ArrayList<>();
    }

    /** Loose where all is 0; a piece that is a unit has its number. */
    static final class Piece {
        int good;
        int unit;
        int madeBy;
        Making holder;
        Part heldFor;
        Piece whole;
        boolean gone;

        boolean isLoose() {
            return holder == null && whole == null && !gone;
        }
    }

    List<Kit> kits = new ArrayList<>();
    List<Making> makings = new ArrayList<>();
    List<Piece> units = new ArrayList<>();
    List<Piece> pieces = new ArrayList<>();
    int[] prices = new int[20];
    int today;
    StringBuilder text = new StringBuilder();
    List<Integer> ring = new ArrayList<>();
    List<int[]> rows = new ArrayList<>();

    private static void argument(boolean right) {
        if (!right) {
            throw new IllegalArgumentException();
        }
    }

    private static void state(boolean right) {
        if (!right) {
            throw new IllegalStateException();
        }
    }

    private static void room(boolean right) {
        if (!right) {
            throw new UnsupportedOperationException();
        }
    }

    private static <T> T one(List<T> all, int i) {
        if (i < 0 || i >= all.size()) {
            throw new NoSuchElementException();
        }
        return all.get(i);
    }

    private static boolean isGood(int good) {
        return good >= 0 && good <= 19;
    }

    void sign(int c) {
        argument(c == 10 || c >= 32 && c <= 126);
        room(text.length() < 1000);
        text.append((char) c);
    }

    int read() {
        String all = text.toString();
        text.setLength(0);
        List<Kit> before = new ArrayList<>(kits);
        int syntax = syntaxPlace(all);
        int place = Math.min(syntax, meaningPlace(all.substring(0, Math.min(all.length(), syntax))));
        if (place != Integer.MAX_VALUE) {
            kits = before;
            return -1 - place;
        }
        if (kits.size() > 12) {
            kits = before;
            throw new UnsupportedOperationException();
        }
        return kits.size();
    }

    /** Where the text stops to be the beginning of one, whatever its numbers mean. */
    private static int syntaxPlace(String all) {
        for (int length = 1; length <= all.length(); length++) {
            Matcher m = TEXT.matcher(all.substring(0, length));
            if (!m.matches() && !m.hitEnd()) {
                return length - 1;
            }
        }
        return TEXT.matcher(all).matches() ? Integer.MAX_VALUE : all.length();
    }

    /** The first number that can't be meant, of a beginning of a text; its kits are added till there. */
    private int meaningPlace(String beginning) {
        Matcher m = TOKEN.matcher(beginning);
        char before = ' ';
        char beforeThat = ' ';
        int at = 0;
        int number = 0;
        while (at < beginning.length() && m.find(at) && m.start() == at) {
            if (m.group("number") != null) {
                String digits = m.group("number");
                int value = digits.length() > 4 ? 9999 : Integer.parseInt(digits);
                boolean right;
                if (before == ' ' && beforeThat == 'K') {
                    right = value <= 19 && kitOf(value) < 0;
                    if (right) {
                        kits.add(newKit(value));
                    }
                } else if (before == ' ') {
                    right = value >= 1 && value <= 9;
                    number = value;
                } else if (before == '*') {
                    right = value <= 19 && ringOf(kits.get(kits.size() - 1), value).isEmpty();
                    if (right) {
                        kits.get(kits.size() - 1).last().parts.add(newPart(value, number));
                    }
                } else {
                    List<Part> parts = kits.get(kits.size() - 1).last().parts;
                    Part last = parts.get(parts.size() - 1);
                    right = value <= 19 && value != last.good && ringOf(kits.get(kits.size() - 1), value).isEmpty();
                    if (right) {
                        last.instead = value;
                    }
                }
                if (!right) {
                    return at;
                }
            }
            beforeThat = before;
            before = beginning.charAt(m.end() - 1);
            at = m.end();
        }
        return Integer.MAX_VALUE;
    }

    private static Kit newKit(int good) {
        Kit k = new Kit();
        k.good = good;
        k.recipes.add(new Recipe());
        return k;
    }

    private static Part newPart(int good, int n) {
        Part p = new Part();
        p.good = good;
        p.pieces = n;
        return p;
    }

    private int kitOf(int good) {
        for (int i = 0; i < kits.size(); i++) {
            if (kits.get(i).good == good) {
                return i;
            }
        }
        return -1;
    }

    private List<Integer> nextGoods(int good) {
        List<Integer> next = new ArrayList<>();
        if (kitOf(good) >= 0) {
            for (Recipe r : kits.get(kitOf(good)).recipes) {
                for (Part p : r.parts) {
                    next.add(p.good);
                    if (p.instead != null) {
                        next.add(p.instead);
                    }
                }
            }
        }
        next.sort(Comparator.naturalOrder());
        return next;
    }

    /** Tries all ways of one good, then all of two, and so on, lesser goods first. */
    private List<Integer> ringOf(Kit kit, int good) {
        if (kit.good == good) {
            return List.of(good);
        }
        for (int length = 2; length <= 20; length++) {
            List<Integer> way = new ArrayList<>(Arrays.asList(kit.good, good));
            if (goOn(way, length)) {
                return way;
            }
        }
        return List.of();
    }

    private boolean goOn(List<Integer> way, int length) {
        List<Integer> next = nextGoods(way.get(way.size() - 1));
        if (way.size() == length) {
            return next.contains(way.get(0));
        }
        for (int g : next) {
            way.add(g);
            if (goOn(way, length)) {
                return true;
            }
            way.remove(way.size() - 1);
        }
        return false;
    }

    int kit(int good) {
        argument(isGood(good));
        state(kitOf(good) < 0);
        room(kits.size() < 12);
        kits.add(newKit(good));
        return kits.size() - 1;
    }

    int part(int kit, int good, int n, boolean instead) {
        Kit k = one(kits, kit);
        List<Part> parts = k.last().parts;
        argument(isGood(good) && (instead || n >= 1 && n <= 9));
        Part last = parts.isEmpty() ? null : parts.get(parts.size() - 1);
        state(!instead || last != null && last.instead == null && last.good != good);
        room(instead || parts.size() < 5);
        List<Integer> found = ringOf(k, good);
        if (!found.isEmpty()) {
            ring = found;
            return -found.size();
        }
        if (instead) {
            last.instead = good;
            return 0;
        }
        parts.add(newPart(good, n));
        return parts.size();
    }

    int ring(int i) {
        return i >= 0 && i < ring.size() ? ring.get(i) : -1;
    }

    int changed(int kit, int day) {
        Kit k = one(kits, kit);
        argument(day >= 0 && day <= 1000);
        state(day >= today);
        for (Recipe r : k.recipes) {
            state(day > r.day);
        }
        room(k.recipes.size() < 4);
        Recipe r = new Recipe();
        r.day = day;
        k.recipes.add(r);
        return k.recipes.size();
    }

    void day(int day) {
        argument(day >= 0 && day <= 1000);
        state(day >= today);
        today = day;
    }

    void price(int good, int price) {
        argument(isGood(good) && price >= 0 && price <= 1000);
        prices[good] = price;
    }

    private Recipe todays(Kit k) {
        Recipe best = null;
        for (Recipe r : k.recipes) {
            if (r.day <= today && (best == null || r.day > best.day)) {
                best = r;
            }
        }
        return best;
    }

    int cost(int kit) {
        one(kits, kit);
        java.math.BigInteger[] known = new java.math.BigInteger[20];
        java.math.BigInteger sum = costOf(kits.get(kit).good, known);
        return sum.compareTo(java.math.BigInteger.valueOf(1000000000)) > 0 ? -1 : sum.intValueExact();
    }

    private java.math.BigInteger costOf(int good, java.math.BigInteger[] known) {
        int k = kitOf(good);
        if (k < 0) {
            return java.math.BigInteger.valueOf(prices[good]);
        }
        if (known[good] == null) {
            java.math.BigInteger sum = java.math.BigInteger.ZERO;
            for (Part p : todays(kits.get(k)).parts) {
                sum = sum.add(costOf(p.good, known).multiply(java.math.BigInteger.valueOf(p.pieces)));
            }
            known[good] = sum;
        }
        return known[good];
    }

    private int loose(int good) {
        int sum = 0;
        for (Piece p : pieces) {
            sum += p.good == good && p.isLoose() ? 1 : 0;
        }
        return sum;
    }

    private int held(Making m, Part part) {
        int sum = 0;
        for (Piece p : pieces) {
            sum += p.holder == m && p.heldFor == part ? 1 : 0;
        }
        return sum;
    }

    /** The first loose piece of a good, in the order in which they are taken. */
    private Piece nextLoose(int good) {
        Piece best = null;
        for (Piece p : pieces) {
            if (p.good == good && p.isLoose() && (best == null || p.unit < best.unit)) {
                best = p;
            }
        }
        return best;
    }

    private void settle() {
        for (Making m : makings) {
            for (Part part : m.parts) {
                while (m.state == 0 && held(m, part) < part.pieces && nextLoose(part.good) != null) {
                    Piece p = nextLoose(part.good);
                    p.holder = m;
                    p.heldFor = part;
                }
            }
        }
    }

    int stock(int good, int n) {
        argument(isGood(good) && n >= 1 && n <= 1000);
        for (int i = 0; i < n; i++) {
            Piece p = new Piece();
            p.good = good;
            pieces.add(p);
        }
        settle();
        return loose(good);
    }

    int make(int kit, int station) {
        Kit k = one(kits, kit);
        argument(station >= 0 && station <= 4);
        state(!todays(k).parts.isEmpty());
        room(makings.size() < 40);
        Making m = new Making();
        m.kit = kit;
        m.station = station;
        for (Part p : todays(k).parts) {
            m.parts.add(p.copy());
        }
        makings.add(m);
        settle();
        return makings.size();
    }

    private void letGo(Making m, Part part) {
        for (Piece p : pieces) {
            if (p.holder == m && (part == null || p.heldFor == part)) {
                p.holder = null;
                p.heldFor = null;
            }
        }
    }

    void substitute(int making, int part) {
        Making m = one(makings, making - 1);
        argument(part >= 1 && part <= m.parts.size());
        Part p = m.parts.get(part - 1);
        state(m.state == 0 && m.steps < part && p.instead != null && !p.swapped);
        letGo(m, p);
        p.good = p.instead;
        p.swapped = true;
        settle();
    }

    int step(int making, int n, boolean good) {
        Making m = one(makings, making - 1);
        state(m.state == 0 && n == m.steps + 1 && n <= m.parts.size());
        for (Making other : makings.subList(0, making - 1)) {
            state(other.state != 0 || other.station != m.station);
        }
        Part part = m.parts.get(n - 1);
        if (held(m, part) < part.pieces) {
            return 0;
        }
        if (good) {
            m.steps++;
            return 1;
        }
        for (Piece p : pieces) {
            if (p.holder == m && p.heldFor == part) {
                lose(p);
            }
        }
        settle();
        return 1;
    }

    private void lose(Piece p) {
        for (Piece bound : pieces) {
            if (bound.whole == p) {
                lose(bound);
            }
        }
        p.gone = true;
        p.holder = null;
        p.heldFor = null;
        p.whole = null;
    }

    int done(int making) {
        Making m = one(makings, making - 1);
        state(m.state == 0);
        if (m.steps < m.parts.size()) {
            return m.steps - m.parts.size();
        }
        room(units.size() < 60);
        Piece unit = new Piece();
        unit.good = kits.get(m.kit).good;
        unit.unit = units.size() + 1;
        unit.madeBy = making;
        for (Piece p : pieces) {
            if (p.holder == m) {
                p.holder = null;
                p.heldFor = null;
                p.whole = unit;
            }
        }
        units.add(unit);
        pieces.add(unit);
        m.state = 1;
        m.unit = unit.unit;
        settle();
        return unit.unit;
    }

    void drop(int making) {
        Making m = one(makings, making - 1);
        state(m.state == 0);
        m.state = 2;
        letGo(m, null);
        settle();
    }

    int broken(int unit) {
        Piece u = one(units, unit - 1);
        state(u.isLoose());
        u.gone = true;
        for (Piece p : pieces) {
            if (p.whole == u) {
                p.whole = null;
            }
        }
        rows = new ArrayList<>();
        for (Part p : makings.get(u.madeBy - 1).parts) {
            rows.add(new int[] {p.good, p.pieces});
        }
        settle();
        return rows.size();
    }

    int row(int i, int what) {
        int[] r = one(rows, i);
        argument(what == 0 || what == 1);
        return r[what];
    }

    int making(int making, int what) {
        Making m = one(makings, making - 1);
        argument(what >= 0 && what <= 6);
        int held = 0;
        int all = 0;
        for (Part p : m.parts) {
            held += m.state == 0 ? held(m, p) : 0;
            all += m.state == 0 ? p.pieces : 0;
        }
        return new int[] {m.state, m.kit, m.station, m.steps, held, all - held, m.unit}[what];
    }

    int unit(int unit, int what) {
        Piece u = one(units, unit - 1);
        argument(what >= 0 && what <= 3);
        int state = u.gone ? 3 : u.whole != null ? 2 : u.holder != null ? 1 : 0;
        int in = u.whole != null ? u.whole.unit : u.holder != null ? makings.indexOf(u.holder) + 1 : 0;
        return new int[] {state, u.good, u.madeBy, in}[what];
    }

    int good(int good, int what) {
        argument(isGood(good) && (what == 0 || what == 1));
        return what == 0 ? loose(good) : kitOf(good);
    }

    int count(int what) {
        int[] all = {kits.size(), makings.size(), units.size(), today, text.length()};
        return what >= 0 && what < all.length ? all[what] : -1;
    }
}
