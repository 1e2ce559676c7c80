/** Puts texts and rows on the tape of an object. */
final class Tape {
    private Tape() {
    }

    /** The five numbers of each feed() that a text takes, filled up by blanks. */
    static int[][] words(String text) {
        int feeds = (text.length() + 19) / 20;
        int[][] all = new int[feeds][5];
        for (int i = 0; i < 20 * feeds; i++) {
            int sign = i < text.length() ? text.charAt(i) & 255 : ' ';
            all[i / 20][i % 20 / 4] |= sign << (24 - i % 4 * 8);
        }
        return all;
    }

    static void put(LoopTables x, String text) {
        int before = x.count(4);
        for (int[] w : words(text)) {
            x.feed(w[0], w[1], w[2], w[3], w[4]);
        }
        x.end(before + text.length());
    }

    static int law(LoopTables x, String text) {
        put(x, text);
        return x.law();
    }

    /** A row as text: the digits of the order and of the cells. */
    static int row(LoopTables x, int table, String digits) {
        StringBuilder text = new StringBuilder();
        for (int i = 0; i < digits.length(); i++) {
            text.append((char) (digits.charAt(i) - '0'));
        }
        put(x, text.toString());
        return x.row(table);
    }
}
