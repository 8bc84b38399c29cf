import java.util.ArrayDeque;
import java.util.ArrayList;
import java.util.Arrays;
import java.util.HashMap;
import java.util.List;
import java.util.Map;
import java.util.TreeSet;
import java.util.regex.Matcher;
import java.util.regex.Pattern;

/**
 * The document once more, as slowly and plainly as can be: every standing is
 * looked at, every definition is followed by its words. A standing is its row
 * as a text ("0012").
 */
final class PlainParties {
    private static final Map<Integer, List<String>> ALL = new HashMap<>();

    private StringBuilder text = new StringBuilder();
    private int n = 4;
    private int[] hats = new int[8];
    private Map<String, Integer> laws = new HashMap<>();
    private TreeSet<String> together = new TreeSet<>();
    private TreeSet<String> apart = new TreeSet<>();
    private Map<String, Integer> worths = new HashMap<>();
    private String now = "0123";
    private List<int[]> seen = new ArrayList<>();
    private int lot = 1;
    private long trace = 0;
    private final Object[][] images = new Object[2][];
    private List<String> lawfulKept = null;

    // ---- standings

    static List<String> all(int n) {
        return ALL.computeIfAbsent(n, k -> {
            TreeSet<String> found = new TreeSet<>();
            grow("", k, found);
            return new ArrayList<>(found);
        });
    }

    private static void grow(String row, int n, TreeSet<String> found) {
        if (row.length() == n) {
            found.add(numbered(row));
            return;
        }
        for (int p = 0; p <= row.length(); p++) {
            if (p == 0 || row.indexOf('0' + p - 1) >= 0) {
                grow(row + p, n, found);
            }
        }
    }

    static String numbered(CharSequence labels) {
        Map<Character, Integer> numbers = new HashMap<>();
        StringBuilder row = new StringBuilder();
        for (int g = 0; g < labels.length(); g++) {
            numbers.putIfAbsent(labels.charAt(g), numbers.size());
            row.append(numbers.get(labels.charAt(g)));
        }
        return row.toString();
    }

    static boolean with(String row, int a, int b) {
        return row.charAt(a) == row.charAt(b);
    }

    static int partiesOf(String row) {
        return (int) row.chars().distinct().count();
    }

    static String gone(String row, int g, int to) {
        StringBuilder labels = new StringBuilder(row);
        labels.setCharAt(g, g == to ? 'x' : row.charAt(to));
        return numbered(labels);
    }

    private static int sizeOf(String row, int g) {
        return (int) row.chars().filter(p -> p == row.charAt(g)).count();
    }

    private static String key(int a, int b) {
        return Math.min(a, b) + " " + Math.max(a, b);
    }

    private int worth(int a, int b) {
        return worths.getOrDefault(key(a, b), 0);
    }

    private int worth(String row) {
        int sum = 0;
        for (int a = 0; a < n; a++) {
            for (int b = a + 1; b < n; b++) {
                sum += with(row, a, b) ? worth(a, b) : 0;
            }
        }
        return sum;
    }

    private boolean isLawful(String row) {
        if (laws.containsKey("parties") && laws.get("parties") != partiesOf(row)) {
            return false;
        }
        for (int g = 0; g < n; g++) {
            if (sizeOf(row, g) < laws.getOrDefault("least", 1) || sizeOf(row, g) > laws.getOrDefault("most", 8)) {
                return false;
            }
        }
        for (int a = 0; a < n; a++) {
            for (int b = a + 1; b < n; b++) {
                if (with(row, a, b) ? apart.contains(key(a, b)) : together.contains(key(a, b))) {
                    return false;
                }
                if (laws.containsKey("unlike") && with(row, a, b) && hats[a] == hats[b]) {
                    return false;
                }
            }
        }
        return !laws.containsKey("ring") || !crosses(row);
    }

    private boolean crosses(String row) {
        for (int a = 0; a < n; a++) {
            for (int b = a + 1; b < n; b++) {
                for (int c = b + 1; c < n; c++) {
                    for (int d = c + 1; d < n; d++) {
                        if (with(row, a, c) && with(row, b, d) && !with(row, a, b)) {
                            return true;
                        }
                    }
                }
            }
        }
        return false;
    }

    private List<String> lawful() {
        if (lawfulKept == null) {
            lawfulKept = new ArrayList<>();
            for (String row : all(n)) {
                if (isLawful(row)) {
                    lawfulKept.add(row);
                }
            }
        }
        return lawfulKept;
    }

    private List<String> fitting() {
        List<String> fit = new ArrayList<>();
        for (String row : lawful()) {
            if (seen.stream().allMatch(s -> with(row, s[0], s[1]) == (s[2] == 1))) {
                fit.add(row);
            }
        }
        return fit;
    }

    private boolean guest(int g) {
        return 0 <= g && g < n;
    }

    private boolean guests(int a, int b) {
        return guest(a) && guest(b) && a != b;
    }

    // ---- the room

    public int type(long v, int k) {
        if (k < 1 || k > 8) {
            return -1;
        }
        if (text.length() + k > 300) {
            return -3;
        }
        for (int i = k; i > 0; i--) {
            text.append((char) (v >> 8 * (i - 1) & 255));
        }
        return text.length();
    }

    public int clear() {
        int had = text.length();
        text = new StringBuilder();
        return had;
    }

    public int room() {
        PlainParties other = new PlainParties();
        int items = other.read(text.toString());
        if (items < 0) {
            return items;
        }
        n = other.n;
        hats = other.hats;
        laws = other.laws;
        together = other.together;
        apart = other.apart;
        worths = other.worths;
        lawfulKept = null;
        now = "01234567".substring(0, n);
        seen = new ArrayList<>();
        Arrays.fill(images, null);
        text = new StringBuilder();
        return items;
    }

    private static final Pattern TOKEN = Pattern.compile("[a-z]+|[0-9]+|[^ ]", Pattern.DOTALL);

    private static String formOf(String word) {
        switch (word) {
            case "guests": return "N";
            case "hat": return "GH";
            case "parties": case "least": case "most": return "P";
            case "unlike": case "ring": return "";
            case "together": case "apart": return "GB";
            case "worth": case "cost": return "GBV";
            default: return null;
        }
    }

    private int read(String told) {
        Matcher tokens = TOKEN.matcher(told);
        int items = 0;
        while (tokens.find()) {
            String word = tokens.group();
            String form = formOf(word);
            boolean again = form != null && "parties least most unlike ring".contains(word) && laws.containsKey(word);
            if (form == null || again || word.equals("guests") && items > 0) {
                return -10 - tokens.start();
            }
            List<Integer> numbers = new ArrayList<>();
            for (char kind : (form + ";").toCharArray()) {
                if (!tokens.find()) {
                    return -10 - told.length();
                }
                if (!stands(kind, tokens.group(), numbers)) {
                    return -10 - tokens.start();
                }
            }
            tell(word, numbers);
            items++;
        }
        return items;
    }

    private boolean stands(char kind, String token, List<Integer> numbers) {
        if (kind == ';') {
            return token.equals(";");
        }
        if (!token.matches("0|[1-9][0-9]?")) {
            return false;
        }
        int number = Integer.parseInt(token);
        numbers.add(number);
        switch (kind) {
            case 'N': case 'P': return number >= 1 && number <= 8;
            case 'G': return number < n;
            case 'B': return number < n && number != numbers.get(0);
            case 'H': return number <= 5;
            default: return number <= 9;
        }
    }

    private void tell(String word, List<Integer> numbers) {
        switch (word) {
            case "guests": n = numbers.get(0); break;
            case "hat": hats[numbers.get(0)] = numbers.get(1); break;
            case "together": together.add(key(numbers.get(0), numbers.get(1))); break;
            case "apart": apart.add(key(numbers.get(0), numbers.get(1))); break;
            case "worth": worths.put(key(numbers.get(0), numbers.get(1)), numbers.get(2)); break;
            case "cost": worths.put(key(numbers.get(0), numbers.get(1)), -numbers.get(2)); break;
            default: laws.put(word, numbers.isEmpty() ? 1 : numbers.get(0));
        }
    }

    public int law(int what) {
        List<String> names = List.of("parties", "least", "most", "unlike", "ring");
        return what < 0 || what >= names.size() ? -1 : laws.getOrDefault(names.get(what), 0);
    }

    public int pair(int a, int b, int what) {
        if (!guests(a, b) || what < 0 || what > 2) {
            return -1000000;
        }
        return what == 2 ? worth(a, b) : (what == 0 ? together : apart).contains(key(a, b)) ? 1 : 0;
    }

    // ---- now

    public int party(int g) {
        return guest(g) ? now.charAt(g) - '0' : -1;
    }

    public int goes(int g, int to) {
        if (!guest(g) || !guest(to)) {
            return -1;
        }
        String then = gone(now, g, to);
        if (then.equals(now)) {
            return -2;
        }
        now = then;
        return party(g);
    }

    public int join(int p, int q) {
        int parties = partiesOf(now);
        if (p < 0 || p >= parties || q < 0 || q >= parties || p == q) {
            return -1;
        }
        now = numbered(now.replace((char) ('0' + q), (char) ('0' + p)));
        return parties - 1;
    }

    public int part(int p, int set) {
        if (p < 0 || p >= partiesOf(now)) {
            return -1;
        }
        StringBuilder labels = new StringBuilder(now);
        int parting = 0;
        for (int g = 0; g < 32; g++) {
            if ((set >> g & 1) == 1) {
                if (g >= n || party(g) != p) {
                    return -2;
                }
                labels.setCharAt(g, 'x');
                parting++;
            }
        }
        if (parting == 0 || labels.indexOf("" + p) < 0) {
            return -2;
        }
        now = numbered(labels);
        return partiesOf(now);
    }

    public int now(int what) {
        switch (what) {
            case 0: return partiesOf(now);
            case 1: return isLawful(now) ? 1 : 0;
            case 2: return worth(now);
            case 3: return alone();
            default: return -1000000;
        }
    }

    private int alone() {
        int alone = 0;
        for (int g = 0; g < n; g++) {
            alone += sizeOf(now, g) == 1 ? 1 : 0;
        }
        return alone;
    }

    // ---- all ways

    public int many(int parties) {
        if (parties < 0 || parties > 8) {
            return -1;
        }
        return (int) lawful().stream().filter(row -> parties == 0 || partiesOf(row) == parties).count();
    }

    public int rank() {
        return isLawful(now) ? (int) lawful().stream().filter(row -> row.compareTo(now) < 0).count() : -9;
    }

    public int nth(int i, int g) {
        if (i < 0 || !guest(g)) {
            return -1;
        }
        return i < lawful().size() ? lawful().get(i).charAt(g) - '0' : -5;
    }

    private int drawBelow(int bound) {
        lot = (int) ((lot & 0xffffffffL) * 1103515245L + 12345L);
        return (int) ((lot & 0xffffffffL) / 65536 % bound);
    }

    public int draw() {
        if (lawful().isEmpty()) {
            return -2;
        }
        int number = drawBelow(lawful().size());
        now = lawful().get(number);
        return number;
    }

    public int lot(int v) {
        int was = lot;
        lot = v;
        return was;
    }

    public int saw(int a, int b, int is) {
        if (!guests(a, b) || is != 0 && is != 1) {
            return -1;
        }
        if (seen.size() == 10) {
            return -3;
        }
        seen.add(new int[] {a, b, is});
        return seen.size();
    }

    public int forget() {
        int had = seen.size();
        seen = new ArrayList<>();
        return had;
    }

    public int left() {
        return fitting().size();
    }

    public int sure(int a, int b) {
        if (!guests(a, b)) {
            return -1;
        }
        List<String> fit = fitting();
        if (fit.isEmpty()) {
            return -9;
        }
        long so = fit.stream().filter(row -> with(row, a, b)).count();
        return so == fit.size() ? 1 : so == 0 ? 0 : -9;
    }

    // ---- two standings

    private int refuses(int image) {
        return image < 0 || image > 1 ? -1 : images[image] == null ? -2 : 0;
    }

    private String finer(String other) {
        StringBuilder labels = new StringBuilder();
        for (int g = 0; g < n; g++) {
            labels.append((char) (100 + 10 * now.charAt(g) + other.charAt(g)));
        }
        return numbered(labels);
    }

    private String coarser(String other) {
        boolean[][] reach = new boolean[n][n];
        for (int a = 0; a < n; a++) {
            for (int b = 0; b < n; b++) {
                reach[a][b] = with(now, a, b) || with(other, a, b);
            }
        }
        for (int via = 0; via < n; via++) {
            for (int a = 0; a < n; a++) {
                for (int b = 0; b < n; b++) {
                    reach[a][b] |= reach[a][via] && reach[via][b];
                }
            }
        }
        StringBuilder labels = new StringBuilder();
        for (int g = 0; g < n; g++) {
            int least = 0;
            while (!reach[g][least]) {
                least++;
            }
            labels.append(least);
        }
        return numbered(labels);
    }

    private static boolean within(String fine, String coarse) {
        for (int a = 0; a < fine.length(); a++) {
            for (int b = 0; b < a; b++) {
                if (with(fine, a, b) && !with(coarse, a, b)) {
                    return false;
                }
            }
        }
        return true;
    }

    public int two(int image, int what, int g) {
        if (what < 0 || what > 1 || !guest(g) || refuses(image) == -1) {
            return -1;
        }
        if (refuses(image) != 0) {
            return refuses(image);
        }
        String other = (String) images[image][0];
        return (what == 0 ? finer(other) : coarser(other)).charAt(g) - '0';
    }

    public int between(int image) {
        if (refuses(image) != 0) {
            return refuses(image);
        }
        String fine = finer((String) images[image][0]);
        String coarse = coarser((String) images[image][0]);
        return (int) all(n).stream().filter(row -> within(fine, row) && within(row, coarse)).count();
    }

    /** Step by step through all standings that can be come to. */
    public int fewest(int image) {
        if (refuses(image) != 0) {
            return refuses(image);
        }
        Map<String, Integer> steps = new HashMap<>();
        ArrayDeque<String> waiting = new ArrayDeque<>();
        steps.put(now, 0);
        waiting.add(now);
        while (!steps.containsKey((String) images[image][0])) {
            String row = waiting.remove();
            for (int g = 0; g < n; g++) {
                for (int to = 0; to < n; to++) {
                    String then = gone(row, g, to);
                    if (steps.putIfAbsent(then, steps.get(row) + 1) == null) {
                        waiting.add(then);
                    }
                }
            }
        }
        return steps.get((String) images[image][0]);
    }

    // ---- worths, leaving, evenings

    public int best(int g) {
        if (g != -1 && !guest(g) || lawful().isEmpty()) {
            return -1000000;
        }
        String best = lawful().get(0);
        for (String row : lawful()) {
            best = worth(row) > worth(best) ? row : best;
        }
        return g == -1 ? worth(best) : best.charAt(g) - '0';
    }

    public int leaving(int g) {
        if (g != -1 && !guest(g)) {
            return -1;
        }
        String row = now;
        int goings = 0;
        boolean anyGoes = true;
        while (anyGoes && goings < 60) {
            anyGoes = false;
            for (int who = 0; who < n && goings < 60; who++) {
                String then = whereItGoes(row, who);
                if (!then.equals(row)) {
                    row = then;
                    goings++;
                    anyGoes = true;
                }
            }
        }
        return g >= 0 ? row.charAt(g) - '0' : goings < 60 ? goings : -9;
    }

    // The standing's worth changes by just what the one who goes gains.
    private String whereItGoes(String row, int who) {
        List<String> choices = new ArrayList<>();
        choices.add(gone(row, who, who));
        for (int p = 0; p < partiesOf(row); p++) {
            int least = row.indexOf('0' + p);
            if (least != who) {
                choices.add(gone(row, who, least));
            }
        }
        String aim = row;
        for (String choice : choices) {
            aim = worth(choice) > worth(aim) ? choice : aim;
        }
        return aim;
    }

    public int evening(int steps) {
        if (steps < 1 || steps > 99) {
            return -1;
        }
        int with = 0;
        for (int i = 0; i < steps; i++) {
            int g = drawBelow(n);
            int to = drawBelow(n);
            now = gone(now, g, to);
            with += alone() > 0 ? 1 : 0;
        }
        return with;
    }

    // ---- kinds, images

    private class Guest {
        int rate(int g) {
            trace += 1;
            return sizeOf(now, g);
        }
    }

    private class Talker extends Guest {
        @Override int rate(int g) {
            trace += 10;
            int sum = super.rate(g);
            for (int b = 0; b < n; b++) {
                sum += b != g && with(now, g, b) ? worth(g, b) : 0;
            }
            return sum;
        }
    }

    private class Listener extends Guest {
        @Override int rate(int g) {
            trace += 100;
            return super.rate(g) - hats[g];
        }
    }

    private class Singer extends Talker {
        @Override int rate(int g) {
            trace += 1000;
            return 2 * super.rate(g);
        }
    }

    private class Dog extends Listener {
        @Override int rate(int g) {
            trace += 10000;
            return super.rate(g) + party(g);
        }
    }

    private class Hostess extends Guest {
        @Override int rate(int g) {
            trace += 100000;
            return super.rate(g) + partiesOf(now);
        }
    }

    public int rate(int kind, int g) {
        if (kind < 0 || kind > 5 || !guest(g)) {
            return -1000000;
        }
        Guest[] kinds = {new Guest(), new Talker(), new Listener(), new Singer(), new Dog(), new Hostess()};
        return kinds[kind].rate(g);
    }

    public int keep(int image) {
        if (image < 0 || image > 1) {
            return -1;
        }
        images[image] = new Object[] {now, new ArrayList<>(seen), lot};
        return partiesOf(now);
    }

    @SuppressWarnings("unchecked")
    public int back(int image) {
        if (refuses(image) != 0) {
            return refuses(image);
        }
        now = (String) images[image][0];
        seen = new ArrayList<>((List<int[]>) images[image][1]);
        lot = (Integer) images[image][2];
        return partiesOf(now);
    }

    public int count(int what) {
        int[] counts = {n, seen.size(), together.size(), apart.size(), text.length()};
        return what < 0 || what >= counts.length ? -1 : counts[what];
    }

    public long trace() {
        return trace;
    }
}
