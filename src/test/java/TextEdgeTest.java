/** Right texts with each fault that one sign can make, and each number at each place, held against the model. */
public final class TextEdgeTest {
    private static final Check t = new Check("TextEdgeTest");
    private static final String[] TEXTS = {
        "K 5 1*1\n",
        "K 10 9*0/19 1*1\nK 4 2*10\n",
        "K 0 1*1 2*2/3 3*3 4*4/1 5*5/10\n",
        "K 17 1*2 1*2\nK 2 1*12\nK 1 1*17/2\n",
    };
    private static final String[] NUMBERS = {"", "0", "00", "01", "05", "1", "2", "5", "9", "10", "11", "12", "17", "19",
        "20", "21", "90", "99", "100", "123", "190", "1000", "65536", "65537", "4294967296", "4294967297",
        "18446744073709551617", "-1", "+1", "1.", "a"};

    public static void main(String[] args) {
        for (String text : TEXTS) {
            beginnings(text);
            oneSignLess(text);
            oneSignMore(text);
            anotherSign(text);
        }
        numbers();
        partsInALine();
        t.end();
    }

    private static void beginnings(String text) {
        for (int length = 0; length <= text.length(); length++) {
            compare(text.substring(0, length));
        }
    }

    private static void oneSignLess(String text) {
        for (int at = 0; at < text.length(); at++) {
            compare(text.substring(0, at) + text.substring(at + 1));
        }
    }

    private static void oneSignMore(String text) {
        for (int at = 0; at <= text.length(); at++) {
            for (int c = 31; c <= 126; c++) {
                compare(text.substring(0, at) + sign(c) + text.substring(at));
            }
        }
    }

    private static void anotherSign(String text) {
        for (int at = 0; at < text.length(); at++) {
            for (int c = 31; c <= 126; c++) {
                compare(text.substring(0, at) + sign(c) + text.substring(at + 1));
            }
        }
    }

    /** 31 is no sign; the line's end stands for it. */
    private static char sign(int c) {
        return c == 31 ? '\n' : (char) c;
    }

    private static void numbers() {
        for (String number : NUMBERS) {
            compare("K " + number + " 1*1\n");
            compare("K " + number);
            compare("K 5 " + number + "*1\n");
            compare("K 5 " + number);
            compare("K 5 1*" + number + "\n");
            compare("K 5 1*" + number + " 1*1\n");
            compare("K 5 1*" + number + "/1\n");
            compare("K 5 1*" + number);
            compare("K 5 1*1/" + number + "\n");
            compare("K 5 1*1/" + number + " 1*1\n");
            compare("K 5 1*1/" + number);
            compare("K 5 1*1\nK " + number + " 1*1\n");
            compare("K 5 1*12\nK 12 1*" + number + "\n");
        }
    }

    private static void partsInALine() {
        StringBuilder line = new StringBuilder("K 5");
        for (int parts = 0; parts <= 7; parts++) {
            compare(line + "\n");
            compare(line + " \n");
            compare(line + "/2\n");
            compare(line + "\nK 6 1*5\n");
            line.append(" 1*").append(parts % 2 == 0 ? "1" : "1/2");
        }
    }

    /** On a new object, on one with kits, and on one that is full. */
    private static void compare(String text) {
        for (int past = 0; past < 3; past++) {
            KitRows x = new KitRows();
            Model model = new Model();
            int kits = past == 0 ? 0 : past == 1 ? 2 : 12;
            for (int kit = 0; kit < kits; kit++) {
                int good = past == 1 ? 12 + kit : 19 - kit;
                x.kit(good);
                model.kit(good);
            }
            if (kits > 0) {
                x.part(0, 2, 1, false);
                model.part(0, 2, 1, false);
            }
            Check.signAll(x, text);
            model.text.append(text);
            String what = "behind " + kits + " kits read() of " + text.replace("\n", "\\n");
            t.due(what, answer(x::read), answer(model::read));
            t.due("kits " + what, x.count(0), model.count(0));
            t.due("signs " + what, x.count(4), 0);
        }
    }

    /** A number that no call answers stands for the exception. */
    private static long answer(java.util.function.IntSupplier call) {
        try {
            return call.getAsInt();
        } catch (UnsupportedOperationException e) {
            return Long.MAX_VALUE;
        }
    }
}
