import java.nio.charset.StandardCharsets;

/** Types texts, and makes objects whose room is told by a text. */
final class Texts {
    private Texts() {
    }

    static void type(GuestParties x, String text) {
        byte[] bytes = text.getBytes(StandardCharsets.ISO_8859_1);
        for (int from = 0; from < bytes.length; from += 8) {
            int n = Math.min(8, bytes.length - from);
            x.type(pack(bytes, from, n), n);
        }
    }

    static long pack(byte[] bytes, int from, int n) {
        long v = 0;
        for (int i = 0; i < n; i++) {
            v = v << 8 | bytes[from + i] & 255;
        }
        return v;
    }

    static int tell(GuestParties x, String text) {
        x.clear();
        type(x, text);
        return x.room();
    }

    /** So many bytes: blanks come between what is at the beginning and what is at the end. */
    static String filled(String ahead, String behind, int length) {
        return ahead + " ".repeat(length - ahead.length() - behind.length()) + behind;
    }

    /** A new object whose room is told so. */
    static GuestParties room(String text) {
        GuestParties x = new GuestParties();
        if (tell(x, text) < 0) {
            throw new IllegalArgumentException("a text with a fault: " + text);
        }
        return x;
    }

    /** NOW becomes the standing of this row. */
    static GuestParties stand(GuestParties x, String row) {
        for (int g = 0; g < row.length(); g++) {
            x.goes(g, g);
        }
        for (int g = 0; g < row.length(); g++) {
            x.goes(g, row.indexOf(row.charAt(g)));
        }
        return x;
    }

    static String row(GuestParties x) {
        StringBuilder row = new StringBuilder();
        for (int g = 0; g < x.count(0); g++) {
            row.append(x.party(g));
        }
        return row.toString();
    }
}
