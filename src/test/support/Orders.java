/** How tests make an order: its monks, texts on its tape, a law in force. Tests extend it to call these by their names. */
public class Orders {
    Orders() {
    }

    /** A new order with a monk for each number, for whom all vows are so hard. */
    public static HardestVows with(int... hard) {
        HardestVows x = new HardestVows();
        for (int h : hard) {
            x.monk(h);
        }
        return x;
    }

    /** Likewise, with a law in force. */
    public static HardestVows under(String law, int... hard) {
        HardestVows x = with(hard);
        if (law(x, law) != 0 || x.force(0) != -1) {
            throw new IllegalStateException("this is no law: " + law);
        }
        return x;
    }

    /** The tape has these bytes alone: how many it has then. */
    public static int tape(HardestVows x, String text) {
        x.end(0);
        for (int from = 0; from < text.length(); from += 20) {
            int[] n = new int[5];
            for (int i = 0; i < 20; i++) {
                n[i / 4] = n[i / 4] << 8 | (from + i < text.length() ? text.charAt(from + i) : 0);
            }
            x.feed(n[0], n[1], n[2], n[3], n[4]);
        }
        return x.end(text.length());
    }

    public static int law(HardestVows x, String text) {
        tape(x, text);
        return x.law();
    }

    public static int orders(HardestVows x, String text) {
        tape(x, text);
        return x.orders();
    }

    public static int row(HardestVows x, String bytes) {
        tape(x, bytes);
        return x.row();
    }

    public static String repeated(String part, String between, int n) {
        StringBuilder all = new StringBuilder();
        for (int i = 0; i < n; i++) {
            all.append(i == 0 ? "" : between).append(part);
        }
        return all.toString();
    }
}
