import java.util.ArrayList;
import java.util.Collections;
import java.util.Comparator;
import java.util.List;
import java.util.TreeMap;
import java.util.regex.Matcher;
import java.util.regex.Pattern;

/** The document written a second time with the whole library at hand, slow and plain, to compare with. */
final class Model {
    private static final String[] RIGHTS = {"starboard", "leeward", "ahead"};
    private static final int[][] WAYS = {{0, -1}, {1, -1}, {1, 0}, {1, 1}, {0, 1}, {-1, 1}, {-1, 0}, {-1, -1}};

    private record Leg(int foot, int head, int length) { }

    private static final class Fault extends Exception {
        private static final long serialVersionUID = 1L;
        final int kind;
        final int place;

        Fault(int kind, int place) {
            this.kind = kind;
            this.place = place;
        }
    }

    private static final class RuleTold {
        int clauses = 0;
        int ice = 150;
        int drops = 0;
        int from = 0;
        List<String> rights = new ArrayList<>();
    }

    private static final class Boat {
        int x;
        int y;
        int way;
        int fleet;
    }

    private final int[][] bounds = new int[144][];
    private final boolean[] cracked = new boolean[144];
    private int wind = 0;
    private Leg raced = null;
    private final StringBuilder tape = new StringBuilder();
    private RuleTold told = new RuleTold();
    private int faultPlace = -1;
    private final List<Boat> boats = new ArrayList<>();
    private List<Integer> finishers = new ArrayList<>();
    private final List<TreeMap<Integer, Integer>> races = new ArrayList<>();
    private final List<Long> noises = new ArrayList<>();
    private List<Integer> lots = new ArrayList<>();

    Model() {
        for (int i = 0; i < 144; i++) {
            bounds[i] = new int[] {0, 5000};
        }
    }

    private static void index(boolean good) {
        if (!good) {
            throw new IndexOutOfBoundsException();
        }
    }

    private static void argument(boolean good) {
        if (!good) {
            throw new IllegalArgumentException();
        }
    }

    private static boolean among(int n, int from, int to) {
        return from <= n && n <= to;
    }

    private static int clamp(int n) {
        return n < 0 ? 0 : n > 5000 ? 5000 : n;
    }

    int sound(int cell, int t, int d) {
        index(among(cell, 0, 143));
        argument(among(t, 0, 5000) && among(d, 0, 5000));
        bounds[cell] = new int[] {clamp(t - d), clamp(t + d)};
        return bounds[cell][0];
    }

    int soundRow(int y, int t, int d) {
        index(among(y, 0, 11));
        argument(among(t, 0, 5000) && among(d, 0, 5000));
        int low = 0;
        for (int cell = 12 * y; cell < 12 * y + 12; cell++) {
            low = sound(cell, t, d);
        }
        return low;
    }

    boolean crack(int cell, boolean is) {
        index(among(cell, 0, 143));
        boolean was = cracked[cell];
        cracked[cell] = is;
        return was;
    }

    private static int[] anHourLater(int[] of, int t) {
        if (t > 0) {
            return new int[] {clamp(of[0] - 3 * t), clamp(of[1] - t)};
        }
        double fourth = -t / 4.0;
        return new int[] {clamp(of[0] + (int) Math.floor(fourth)), clamp(of[1] + (int) Math.ceil(fourth))};
    }

    int hour(int t) {
        argument(among(t, -40, 20));
        for (int cell = 0; cell < 144; cell++) {
            bounds[cell] = anHourLater(bounds[cell], t);
        }
        return count(3);
    }

    private boolean safe(int cell) {
        return bounds[cell][0] >= told.ice && !cracked[cell];
    }

    int ice(int cell, int what) {
        index(among(cell, 0, 143));
        argument(among(what, 0, 2));
        return what == 2 ? (safe(cell) ? 1 : 0) : bounds[cell][what];
    }

    int lasts(int cell, int t) {
        index(among(cell, 0, 143));
        argument(among(t, -40, 20));
        int[] kept = bounds[cell];
        int hours = 0;
        while (safe(cell) && hours < 6000) {
            bounds[cell] = anHourLater(bounds[cell], t);
            hours++;
        }
        bounds[cell] = kept;
        return hours == 6000 ? -1 : Math.max(0, hours - 1);
    }

    int wind(int way) {
        argument(among(way, 0, 7));
        int was = wind;
        wind = way;
        return was;
    }

    private List<Leg> legs(int least) {
        List<Leg> all = new ArrayList<>();
        for (int foot = 0; foot < 144; foot++) {
            int x = foot % 12;
            int y = foot / 12;
            for (int length = 0; among(x, 0, 11) && among(y, 0, 11) && safe(12 * y + x); length++) {
                if (length >= least) {
                    all.add(new Leg(foot, 12 * y + x, length));
                }
                x += WAYS[wind][0];
                y += WAYS[wind][1];
            }
        }
        return all;
    }

    private int unlike(Leg leg) {
        return (leg.foot == raced.foot ? 0 : 1) + (leg.head == raced.head ? 0 : 1);
    }

    int course() {
        List<Leg> all = legs(1);
        if (all.isEmpty()) {
            return -1;
        }
        all.sort(Comparator.comparingInt((Leg leg) -> -leg.length).thenComparingInt(leg -> leg.foot));
        raced = all.get(0);
        return raced.length;
    }

    int move(int least) {
        argument(among(least, 1, 11));
        List<Leg> all = legs(least);
        if (raced == null || all.isEmpty()) {
            return -1;
        }
        all.sort(Comparator.comparingInt((Leg leg) -> unlike(leg)).thenComparingInt(leg -> -leg.length)
            .thenComparingInt(leg -> leg.foot));
        int others = unlike(all.get(0));
        raced = all.get(0);
        return others;
    }

    int mark(int which) {
        argument(among(which, 0, 1));
        return raced == null ? -1 : which == 0 ? raced.foot : raced.head;
    }

    boolean holds() {
        return raced != null && legs(1).contains(raced);
    }

    int feed(int a, int b, int c, int d, int e) {
        if (tape.length() > 180) {
            return -1;
        }
        for (int number : new int[] {a, b, c, d, e}) {
            for (byte one : java.nio.ByteBuffer.allocate(4).putInt(number).array()) {
                tape.append((char) (one & 255));
            }
        }
        return tape.length();
    }

    int rule(int n) {
        argument(among(n, 0, tape.length()));
        String text = tape.substring(0, n);
        tape.setLength(0);
        try {
            told = read(text);
            faultPlace = -1;
            return told.clauses;
        } catch (Fault f) {
            faultPlace = f.place;
            return f.kind - 10;
        }
    }

    private record Token(String text, int place) { }

    private static List<Token> tokens(String text) {
        List<Token> all = new ArrayList<>();
        Matcher m = Pattern.compile("[a-z]+|[0-9]+|[^ ]", Pattern.DOTALL).matcher(text);
        while (m.find()) {
            all.add(new Token(m.group(), m.start()));
        }
        all.add(new Token("", text.length()));
        return all;
    }

    private static int number(Token token) throws Fault {
        if (!token.text.matches("[0-9]+")) {
            throw new Fault(1, token.place);
        }
        if (new java.math.BigInteger(token.text).compareTo(java.math.BigInteger.valueOf(5000)) > 0) {
            throw new Fault(2, token.place);
        }
        return Integer.parseInt(token.text.replaceFirst("^0+(?=.)", ""));
    }

    private static void word(Token token, String word) throws Fault {
        if (!token.text.equals(word)) {
            throw new Fault(1, token.place);
        }
    }

    private static RuleTold read(String text) throws Fault {
        RuleTold r = new RuleTold();
        List<Token> rest = tokens(text);
        while (rest.size() > 1) {
            Token first = rest.remove(0);
            if (!List.of("ice", "drop", "way").contains(first.text)) {
                throw new Fault(1, first.place);
            }
            if (r.clauses == 10) {
                throw new Fault(3, first.place);
            }
            r.clauses++;
            if (first.text.equals("ice")) {
                r.ice = number(rest.remove(0));
            } else if (first.text.equals("drop")) {
                r.drops = number(rest.remove(0));
                word(rest.remove(0), "from");
                r.from = number(rest.remove(0));
            } else {
                r.rights = new ArrayList<>();
                do {
                    Token right = rest.remove(0);
                    if (!List.of(RIGHTS).contains(right.text) || r.rights.contains(right.text)) {
                        throw new Fault(1, right.place);
                    }
                    r.rights.add(right.text);
                } while (!rest.get(0).text.equals(";"));
            }
            word(rest.remove(0), ";");
        }
        return r;
    }

    int fault() {
        return faultPlace;
    }

    int boat() {
        if (boats.size() == 16) {
            throw new IllegalStateException();
        }
        boats.add(new Boat());
        return boats.size() - 1;
    }

    int place(int boat, int x, int y, int way) {
        index(among(boat, 0, boats.size() - 1));
        argument(among(x, 0, 1000) && among(y, 0, 1000) && among(way, 0, 7));
        Boat b = boats.get(boat);
        b.x = x;
        b.y = y;
        b.way = way;
        return tack(b);
    }

    private int tack(Boat b) {
        return "01110222".charAt((wind + 8 - b.way) % 8) - '0';
    }

    private static int along(Boat b, int way) {
        return b.x * WAYS[way][0] + b.y * WAYS[way][1];
    }

    int clear(int boat, int other) {
        index(among(boat, 0, boats.size() - 1));
        index(among(other, 0, boats.size() - 1));
        for (String right : told.rights) {
            if (applies(right, boats.get(boat), boats.get(other))) {
                return boat;
            }
            if (applies(right, boats.get(other), boats.get(boat))) {
                return other;
            }
        }
        return -1;
    }

    /** Whether by a right the first one of two must keep clear. */
    private boolean applies(String right, Boat a, Boat b) {
        if (right.equals("starboard")) {
            return tack(a) == 2 && tack(b) == 1;
        }
        if (right.equals("leeward")) {
            return tack(a) != 0 && tack(a) == tack(b) && along(a, wind) > along(b, wind);
        }
        return a.way == b.way && along(a, a.way) < along(b, a.way);
    }

    int finish(int boat) {
        index(among(boat, 0, boats.size() - 1));
        if (races.size() == 20) {
            return -2;
        }
        if (finishers.contains(boat)) {
            return -1;
        }
        finishers.add(boat);
        return finishers.size();
    }

    int end() {
        if (races.size() == 20 || boats.isEmpty()) {
            return -1;
        }
        TreeMap<Integer, Integer> race = new TreeMap<>();
        race.put(-1, boats.size() + 1);
        for (int i = 0; i < finishers.size(); i++) {
            race.put(finishers.get(i), i + 1);
        }
        races.add(race);
        finishers = new ArrayList<>();
        return races.size() - 1;
    }

    int points(int boat, int race) {
        index(among(boat, 0, boats.size() - 1));
        index(among(race, 0, races.size() - 1));
        return races.get(race).getOrDefault(boat, races.get(race).get(-1));
    }

    int score(int boat) {
        index(among(boat, 0, boats.size() - 1));
        List<Integer> all = new ArrayList<>();
        for (int race = 0; race < races.size(); race++) {
            all.add(points(boat, race));
        }
        Collections.sort(all);
        int kept = races.size() >= told.from ? Math.max(0, all.size() - told.drops) : all.size();
        return all.subList(0, kept).stream().mapToInt(Integer::intValue).sum();
    }

    private List<Integer> ranked() {
        List<Integer> all = new ArrayList<>();
        for (int boat = 0; boat < boats.size(); boat++) {
            all.add(boat);
        }
        Comparator<Integer> by = Comparator.comparingInt(this::score);
        for (int race = races.size() - 1; race >= 0; race--) {
            int r = race;
            by = by.thenComparingInt(boat -> points(boat, r));
        }
        all.sort(by);
        return all;
    }

    int rank(int k) {
        return among(k, 0, boats.size() - 1) ? ranked().get(k) : -1;
    }

    int part(int n) {
        argument(among(n, 0, 16));
        List<Integer> all = ranked();
        all.forEach(boat -> boats.get(boat).fleet = all.indexOf(boat) < n ? 0 : 1);
        return (int) boats.stream().filter(b -> b.fleet == 0).count();
    }

    int promote(int k) {
        argument(among(k, 0, 16));
        List<Integer> first = new ArrayList<>(ranked());
        List<Integer> second = new ArrayList<>(first);
        first.removeIf(boat -> boats.get(boat).fleet != 0);
        second.removeIf(boat -> boats.get(boat).fleet != 1);
        int many = Math.min(k, Math.min(first.size(), second.size()));
        first.subList(first.size() - many, first.size()).forEach(boat -> boats.get(boat).fleet = 1);
        second.subList(0, many).forEach(boat -> boats.get(boat).fleet = 0);
        return many;
    }

    int fleet(int boat) {
        index(among(boat, 0, boats.size() - 1));
        return boats.get(boat).fleet;
    }

    int noise(int v) {
        if (noises.size() == 20) {
            return -1;
        }
        noises.add(Integer.toUnsignedLong(v));
        return noises.size();
    }

    int draw() {
        if (boats.isEmpty() || noises.size() < boats.size() - 1) {
            return -1;
        }
        lots = new ArrayList<>();
        for (int boat = 0; boat < boats.size(); boat++) {
            lots.add(boat);
        }
        for (int i = boats.size() - 1; i >= 1; i--) {
            Collections.swap(lots, i, (int) (noises.remove(0) % (i + 1)));
        }
        noises.clear();
        return lots.size();
    }

    int lot(int k) {
        return among(k, 0, lots.size() - 1) ? lots.get(k) : -1;
    }

    int count(int what) {
        int safe = 0;
        for (int cell = 0; cell < 144; cell++) {
            safe += safe(cell) ? 1 : 0;
        }
        int[] all = {boats.size(), races.size(), told.clauses, safe, noises.size(), tape.length(), finishers.size()};
        return among(what, 0, 6) ? all[what] : -1;
    }
}
