import java.util.List;
import java.util.function.Supplier;

/**
 * An object as it is behind some calls, the same each time it is made, and what
 * is so in it: NOW's row, how many ways are lawful, which IMAGES are kept.
 */
final class Scene {
    static final int SPACE = 300;

    final String name;
    final String row;
    final int ways;
    private final String kept;
    private final Supplier<GuestParties> maker;

    private Scene(String name, String row, int ways, String kept, Supplier<GuestParties> maker) {
        this.name = name;
        this.row = row;
        this.ways = ways;
        this.kept = kept;
        this.maker = maker;
    }

    static List<Scene> all() {
        return List.of(
                new Scene("new", "0123", 15, "", GuestParties::new),
                new Scene("busy", "010213", 10, "01", Scene::busy),
                new Scene("one image", "00112", 52, "0", Scene::oneImage),
                new Scene("full", "0010", 15, "1", Scene::full),
                new Scene("one guest", "0", 1, "0", Scene::oneGuest),
                new Scene("eight guests", "01201201", 4140, "01", Scene::eightGuests),
                new Scene("none lawful", "00", 0, "1", Scene::noneLawful));
    }

    GuestParties make() {
        return maker.get();
    }

    int guests() {
        return row.length();
    }

    int parties() {
        return (int) row.chars().distinct().count();
    }

    boolean isKept(int image) {
        return kept.indexOf('0' + image) >= 0;
    }

    int setOf(int p) {
        int set = 0;
        for (int g = 0; g < guests(); g++) {
            set |= row.charAt(g) - '0' == p ? 1 << g : 0;
        }
        return set;
    }

    private static void keep(GuestParties x, int image, String row, int lot) {
        Texts.stand(x, row);
        x.lot(lot);
        x.keep(image);
    }

    private static GuestParties busy() {
        GuestParties x = Texts.room("guests 6;hat 0 1;hat 5 4;hat 3 2;least 1;most 3;ring;together 0 2;apart 1 2;"
                + "worth 0 1 4;cost 3 4 7;worth 2 5 9;");
        x.saw(4, 5, 0);
        keep(x, 0, "010223", -77);
        x.saw(0, 5, 1);
        keep(x, 1, "012345", 1 << 30);
        x.rate(3, 2);
        Texts.type(x, "guests 3;most 2;apart 0 1;");
        Texts.stand(x, "010213");
        x.lot(123456789);
        return x;
    }

    private static GuestParties oneImage() {
        GuestParties x = Texts.room("guests 5;hat 4 5;worth 0 1 9;cost 2 3 9;");
        keep(x, 0, "01111", 5);
        x.saw(0, 4, 0);
        Texts.stand(x, "00112");
        Texts.type(x, "unlike");
        return x;
    }

    private static GuestParties full() {
        GuestParties x = new GuestParties();
        for (int i = 0; i < 10; i++) {
            x.saw(i % 2, 2, i % 2 ^ 1);
        }
        keep(x, 1, "0111", 9);
        Texts.type(x, Texts.filled("guests 7;", "ring;together 0 6;", SPACE));
        Texts.stand(x, "0010");
        x.rate(5, 1);
        return x;
    }

    private static GuestParties oneGuest() {
        GuestParties x = Texts.room("guests 1;hat 0 5;parties 1;unlike;");
        keep(x, 0, "0", -1);
        Texts.type(x, "ring;ring;");
        return x;
    }

    private static GuestParties eightGuests() {
        GuestParties x = Texts.room("guests 8;hat 7 5;hat 0 5;worth 0 7 9;cost 6 7 9;");
        keep(x, 0, "00000000", Integer.MIN_VALUE);
        x.saw(7, 0, 1);
        keep(x, 1, "01234567", Integer.MAX_VALUE);
        x.saw(6, 7, 0);
        Texts.stand(x, "01201201");
        Texts.type(x, "parties 8;");
        return x;
    }

    private static GuestParties noneLawful() {
        GuestParties x = Texts.room("guests 2;parties 3;worth 0 1 9;");
        x.saw(0, 1, 1);
        keep(x, 1, "01", 31);
        x.join(0, 1);
        x.lot(32);
        return x;
    }
}
