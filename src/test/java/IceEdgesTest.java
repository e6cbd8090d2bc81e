/** The boundary cases that the terms of the LAKE and promises 1 to 7 name, sentence by sentence. */
public final class IceEdgesTest {
    private static final Check C = new Check();

    public static void main(String[] args) {
        cellsOfRows();
        boundsAtFirst();
        soundingWithinTheBounds();
        hourBelowNought();
        hourAboveNought();
        hourAtNought();
        hourWithinTheBounds();
        manyHours();
        safeByIce();
        safeUnlessCracked();
        newObject();
        soundCell();
        soundNumbers();
        soundRowNumbers();
        crackCell();
        hourDegrees();
        hourSafeCells();
        iceOfWhat();
        lastsNotSafe();
        lastsForEver();
        lastsToTheHour();
        lastsDegrees();
        fiveHundredAndTwelveCalls();
        C.end();
    }

    private static String bounds(IceRegatta x, int cell) {
        return x.ice(cell, 0) + " " + x.ice(cell, 1);
    }

    private static void cellsOfRows() {
        C.part("The LAKE has 144 CELLS, 12 y + x for x and y from 0 to 11");
        for (int y = 0; y < 12; y++) {
            IceRegatta x = new IceRegatta();
            int row = y;
            C.due(700, () -> x.soundRow(row, 700, 0));
            for (int cell = 0; cell < 144; cell++) {
                int c = cell;
                C.due(c / 12 == row ? "700 700" : "0 5000", () -> bounds(x, c));
            }
        }
    }

    private static void boundsAtFirst() {
        C.part("Each has a LOW and a HIGH (0 to 5,000 mm; 0 and 5,000 at first), and may be CRACKED");
        IceRegatta x = new IceRegatta();
        for (int cell = 0; cell < 144; cell++) {
            int c = cell;
            C.due("0 5000", () -> bounds(x, c));
            C.due(false, () -> x.crack(c, true));
        }
        IceRegatta y = new IceRegatta();
        for (int cell = 0; cell < 144; cell++) {
            int c = cell;
            C.due(0, () -> y.ice(c, 2));
        }
    }

    private static void soundingWithinTheBounds() {
        C.part("LOW is t less d, HIGH t and d (within 0 and 5,000)");
        int[][] soundings = {
            {0, 0, 0, 0}, {0, 1, 0, 1}, {0, 5000, 0, 5000}, {1, 0, 1, 1}, {1, 1, 0, 2}, {1, 2, 0, 3}, {300, 299, 1, 599},
            {300, 300, 0, 600}, {300, 301, 0, 601}, {2500, 2500, 0, 5000}, {2501, 2500, 1, 5000}, {2499, 2500, 0, 4999},
            {4999, 0, 4999, 4999}, {4999, 1, 4998, 5000}, {4999, 2, 4997, 5000}, {4999, 5000, 0, 5000},
            {5000, 0, 5000, 5000}, {5000, 1, 4999, 5000}, {5000, 4999, 1, 5000}, {5000, 5000, 0, 5000},
        };
        IceRegatta x = new IceRegatta();
        for (int[] s : soundings) {
            C.due(s[2], () -> x.sound(77, s[0], s[1]));
            C.due(s[2] + " " + s[3], () -> bounds(x, 77));
            C.due(s[2], () -> x.soundRow(11, s[0], s[1]));
            C.due(s[2] + " " + s[3], () -> bounds(x, 132));
            C.due(s[2] + " " + s[3], () -> bounds(x, 143));
        }
    }

    private static void dueBehindHour(int t, int lowMore, int highMore) {
        IceRegatta x = new IceRegatta();
        x.sound(0, 2500, 100);
        x.sound(143, 2500, 100);
        x.hour(t);
        C.due((2400 + lowMore) + " " + (2600 + highMore), () -> bounds(x, 0));
        C.due((2400 + lowMore) + " " + (2600 + highMore), () -> bounds(x, 143));
    }

    private static void hourBelowNought() {
        C.part("below 0: LOW is more by a fourth of what T is below 0, cut, HIGH by a fourth, rounded up");
        int[] cut = {0, 0, 0, 1, 1, 1, 1, 2, 2, 2, 2, 3, 3, 3, 3, 4, 4, 4, 4, 5, 5, 5, 5, 6, 6, 6, 6, 7, 7, 7, 7, 8, 8, 8, 8, 9, 9, 9, 9, 10};
        int[] up = {1, 1, 1, 1, 2, 2, 2, 2, 3, 3, 3, 3, 4, 4, 4, 4, 5, 5, 5, 5, 6, 6, 6, 6, 7, 7, 7, 7, 8, 8, 8, 8, 9, 9, 9, 9, 10, 10, 10, 10};
        for (int below = 1; below <= 40; below++) {
            dueBehindHour(-below, cut[below - 1], up[below - 1]);
        }
    }

    private static void hourAboveNought() {
        C.part("above 0: LOW is less by 3 T, HIGH by T");
        for (int t = 1; t <= 20; t++) {
            dueBehindHour(t, -3 * t, -t);
        }
    }

    private static void hourAtNought() {
        C.part("An HOUR at T degrees: below 0 .. above 0 ..: at 0 nothing goes on");
        dueBehindHour(0, 0, 0);
    }

    private static void hourWithinTheBounds() {
        C.part("LOW is more .. less .. (within 0 and 5,000)");
        int[][] hours = {
            // t and d of the sounding, T, LOW and HIGH behind it
            {4989, 0, -40, 4999, 4999}, {4990, 0, -40, 5000, 5000}, {4991, 0, -40, 5000, 5000}, {5000, 0, -40, 5000, 5000},
            {4999, 0, -3, 4999, 5000}, {5000, 0, -1, 5000, 5000}, {4999, 0, -4, 5000, 5000}, {4998, 1, -5, 4998, 5000},
            {61, 0, 20, 1, 41}, {60, 0, 20, 0, 40}, {59, 0, 20, 0, 39}, {21, 0, 20, 0, 1}, {20, 0, 20, 0, 0}, {19, 0, 20, 0, 0},
            {0, 0, 20, 0, 0}, {0, 0, 1, 0, 0}, {1, 0, 1, 0, 0}, {2, 0, 1, 0, 1}, {3, 0, 1, 0, 2}, {4, 0, 1, 1, 3},
            {0, 5000, -40, 10, 5000}, {0, 5000, 20, 0, 4980}, {0, 0, -40, 10, 10}, {0, 0, -1, 0, 1}, {5000, 0, 20, 4940, 4980},
        };
        for (int[] h : hours) {
            IceRegatta x = new IceRegatta();
            x.sound(5, h[0], h[1]);
            x.hour(h[2]);
            C.due(h[3] + " " + h[4], () -> bounds(x, 5));
        }
    }

    private static void manyHours() {
        C.part("within 0 and 5,000, hour by hour");
        IceRegatta x = new IceRegatta();
        x.sound(0, 10, 0);
        for (int hour = 0; hour < 499; hour++) {
            x.hour(-40);
        }
        C.due("5000 5000", () -> bounds(x, 0));
        C.due("4990 5000", () -> bounds(x, 1));
        C.due(144, () -> x.hour(-40));
        C.due("5000 5000", () -> bounds(x, 1));
        IceRegatta y = new IceRegatta();
        for (int hour = 0; hour < 249; hour++) {
            y.hour(20);
        }
        C.due("0 20", () -> bounds(y, 143));
        y.hour(19);
        C.due("0 1", () -> bounds(y, 143));
        y.hour(2);
        C.due("0 0", () -> bounds(y, 143));
        y.hour(1);
        C.due("0 0", () -> bounds(y, 143));
    }

    private static void safeByIce() {
        C.part("SAFE is a CELL whose LOW is ICE (by the RULE) or more");
        int[][] ices = {{150, 149, 0}, {150, 150, 1}, {150, 151, 1}, {0, 0, 1}, {1, 0, 0}, {1, 1, 1},
            {4999, 4998, 0}, {4999, 4999, 1}, {5000, 4999, 0}, {5000, 5000, 1}};
        for (int[] i : ices) {
            IceRegatta x = new IceRegatta();
            if (i[0] != 150) {
                C.due(1, () -> Check.tell(x, "ice " + i[0] + ";"));
            }
            x.soundRow(11, i[1], 0);
            C.due(i[2], () -> x.ice(143, 2));
            C.due(i[2], () -> x.ice(132, 2));
            C.due(i[0] == 0 ? 144 : 12 * i[2], () -> x.count(3));
        }
        IceRegatta doubted = new IceRegatta();
        doubted.sound(0, 5000, 4850);
        C.due(1, () -> doubted.ice(0, 2));
        doubted.sound(0, 5000, 4851);
        C.due(0, () -> doubted.ice(0, 2));
    }

    private static void safeUnlessCracked() {
        C.part("SAFE .. and that is not CRACKED");
        IceRegatta x = new IceRegatta();
        Check.tell(x, "ice 0;");
        x.sound(143, 5000, 0);
        C.due(144, () -> x.count(3));
        for (int cell = 0; cell < 144; cell++) {
            x.crack(cell, true);
        }
        C.due(0, () -> x.count(3));
        C.due(0, () -> x.ice(143, 2));
        x.crack(143, false);
        C.due(1, () -> x.ice(143, 2));
        C.due(0, () -> x.ice(142, 2));
        C.due(1, () -> x.count(3));
    }

    private static void newObject() {
        C.part("promise 1: Nothing sounded, no RULE, no course, no BOATS");
        IceRegatta x = new IceRegatta();
        for (int what = 0; what <= 6; what++) {
            int w = what;
            C.due(0, () -> x.count(w));
        }
        C.due(Check.ARGUMENT, () -> x.rule(1));
        C.due("-1 -1 false", () -> x.mark(0) + " " + x.mark(1) + " " + x.holds());
        C.due(-1, () -> x.move(1));
        C.due(-1, () -> x.course());
        C.due(-1, () -> x.fault());
        C.due(Check.BOUNDS, () -> x.place(0, 0, 0, 0));
        C.due(Check.BOUNDS, () -> x.clear(0, 0));
        C.due(Check.BOUNDS, () -> x.finish(0));
        C.due(Check.BOUNDS, () -> x.points(0, 0));
        C.due(Check.BOUNDS, () -> x.score(0));
        C.due(Check.BOUNDS, () -> x.fleet(0));
        C.due(-1, () -> x.rank(0));
        C.due(-1, () -> x.lot(0));
        C.due(-1, () -> x.end());
        C.due(-1, () -> x.draw());
        C.due(0, () -> x.wind(0));
        IceRegatta other = new IceRegatta();
        other.boat();
        other.soundRow(0, 5000, 0);
        C.due("0 0", () -> x.count(0) + " " + x.count(3));
    }

    private static void soundCell() {
        C.part("promise 2: IndexOutOfBoundsException: no such CELL (so below)");
        IceRegatta x = new IceRegatta();
        C.takes(0, 143, Check.BOUNDS, cell -> x.sound(cell, 200, 0));
        C.takes(0, 143, Check.BOUNDS, cell -> x.sound(cell, 5000, 5000));
        C.due(Check.BOUNDS, () -> x.sound(-1, -1, -1));
        C.due(Check.BOUNDS, () -> x.sound(144, 5001, 5001));
    }

    private static void soundNumbers() {
        C.part("promise 2: IllegalArgumentException: t or d is not 0 to 5,000");
        IceRegatta x = new IceRegatta();
        C.takes(0, 5000, Check.ARGUMENT, t -> x.sound(9, t, 0));
        C.takes(0, 5000, Check.ARGUMENT, t -> x.sound(9, t, 5000));
        C.takes(0, 5000, Check.ARGUMENT, d -> x.sound(9, 0, d));
        C.takes(0, 5000, Check.ARGUMENT, d -> x.sound(9, 5000, d));
        x.sound(9, 1234, 4);
        C.due(Check.ARGUMENT, () -> x.sound(9, 5001, 0));
        C.due(Check.ARGUMENT, () -> x.sound(9, -1, 0));
        C.due(Check.ARGUMENT, () -> x.sound(9, 0, 5001));
        C.due(Check.ARGUMENT, () -> x.sound(9, 0, -1));
        C.due(Check.ARGUMENT, () -> x.sound(9, -1, 1));
        C.due(Check.ARGUMENT, () -> x.sound(9, 5001, 5001));
        C.due("1230 1238", () -> bounds(x, 9));
    }

    private static void soundRowNumbers() {
        C.part("promise 3: IndexOutOfBoundsException: no such row");
        IceRegatta x = new IceRegatta();
        C.takes(0, 11, Check.BOUNDS, y -> x.soundRow(y, 200, 0));
        C.due(24, () -> x.count(3));
        C.due(Check.BOUNDS, () -> x.soundRow(12, 5001, -1));
        C.part("promise 3: IllegalArgumentException likewise");
        C.takes(0, 5000, Check.ARGUMENT, t -> x.soundRow(11, t, 0));
        C.takes(0, 5000, Check.ARGUMENT, t -> x.soundRow(11, t, 5000));
        C.takes(0, 5000, Check.ARGUMENT, d -> x.soundRow(11, 0, d));
        C.takes(0, 5000, Check.ARGUMENT, d -> x.soundRow(11, 5000, d));
        x.soundRow(11, 1234, 4);
        C.due(Check.ARGUMENT, () -> x.soundRow(11, 5001, 0));
        C.due(Check.ARGUMENT, () -> x.soundRow(11, 0, -1));
        C.due(Check.ARGUMENT, () -> x.soundRow(11, -1, 5001));
        for (int cell = 132; cell < 144; cell++) {
            int c = cell;
            C.due("1230 1238", () -> bounds(x, c));
        }
    }

    private static void crackCell() {
        C.part("promise 4: CRACKED, or not: what it was");
        IceRegatta x = new IceRegatta();
        for (int cell : new int[] {0, 143}) {
            C.due(false, () -> x.crack(cell, false));
            C.due(false, () -> x.crack(cell, true));
            C.due(true, () -> x.crack(cell, true));
            C.due(true, () -> x.crack(cell, false));
            C.due(false, () -> x.crack(cell, false));
        }
        C.part("promise 4: IndexOutOfBoundsException");
        C.takes(0, 143, Check.BOUNDS, cell -> x.crack(cell, true));
        C.takes(0, 143, Check.BOUNDS, cell -> x.crack(cell, false));
        C.due(Check.BOUNDS, () -> x.crack(144, true));
        C.due(Check.BOUNDS, () -> x.crack(-1, true));
        for (int cell = 0; cell < 144; cell++) {
            int c = cell;
            C.due(false, () -> x.crack(c, false));
        }
    }

    private static void hourDegrees() {
        C.part("promise 5: IllegalArgumentException: T (-40 to 20)");
        IceRegatta x = new IceRegatta();
        C.takes(-40, 20, Check.ARGUMENT, t -> x.hour(t));
        x.sound(0, 500, 100);
        C.due(Check.ARGUMENT, () -> x.hour(-41));
        C.due(Check.ARGUMENT, () -> x.hour(21));
        C.due("400 600", () -> bounds(x, 0));
    }

    private static void hourSafeCells() {
        C.part("promise 5: how many CELLS are SAFE behind it");
        IceRegatta x = new IceRegatta();
        C.due(0, () -> x.hour(20));
        C.due(0, () -> x.hour(-40));
        for (int y = 0; y < 12; y++) {
            x.soundRow(y, 152, 0);
        }
        C.due(144, () -> x.hour(0));
        x.sound(7, 153, 0);
        x.sound(8, 154, 0);
        C.due(2, () -> x.hour(1));
        x.crack(8, true);
        C.due(1, () -> x.hour(-3));
        C.due(143, () -> x.hour(-4));
        x.crack(8, false);
        C.due(144, () -> x.hour(-1));
        C.due(0, () -> x.hour(20));
    }

    private static void iceOfWhat() {
        C.part("promise 6: IllegalArgumentException: another what");
        IceRegatta x = new IceRegatta();
        C.takes(0, 2, Check.ARGUMENT, what -> x.ice(0, what));
        C.takes(0, 2, Check.ARGUMENT, what -> x.ice(143, what));
        C.part("promise 6: no such CELL");
        for (int what = 0; what <= 2; what++) {
            int w = what;
            C.takes(0, 143, Check.BOUNDS, cell -> x.ice(cell, w));
        }
        C.due(Check.BOUNDS, () -> x.ice(144, 3));
        C.due(Check.BOUNDS, () -> x.ice(-1, -1));
    }

    private static void lastsNotSafe() {
        C.part("promise 7: 0: it isn't SAFE");
        IceRegatta x = new IceRegatta();
        x.sound(0, 149, 0);
        x.sound(1, 5000, 0);
        x.crack(1, true);
        for (int t = -40; t <= 20; t++) {
            int degrees = t;
            C.due(0, () -> x.lasts(0, degrees));
            C.due(0, () -> x.lasts(1, degrees));
            C.due(0, () -> x.lasts(143, degrees));
        }
        Check.tell(x, "ice 0;");
        C.due(0, () -> x.lasts(1, 20));
        C.due(0, () -> x.lasts(1, -1));
    }

    private static void lastsForEver() {
        C.part("promise 7: NONE: for ever");
        IceRegatta x = new IceRegatta();
        x.sound(0, 150, 0);
        x.sound(1, 5000, 0);
        for (int t = -40; t <= 0; t++) {
            int degrees = t;
            C.due(-1, () -> x.lasts(0, degrees));
            C.due(-1, () -> x.lasts(1, degrees));
        }
        C.due(0, () -> x.lasts(0, 1));
        Check.tell(x, "ice 0;");
        for (int t = 1; t <= 20; t++) {
            int degrees = t;
            C.due(-1, () -> x.lasts(1, degrees));
            C.due(-1, () -> x.lasts(2, degrees));
        }
        Check.tell(x, "ice 1;");
        C.due(1666, () -> x.lasts(1, 1));
        C.due(0, () -> x.lasts(2, 1));
    }

    private static void lastsToTheHour() {
        C.part("promise 7: How many HOURS at T a CELL that is SAFE stays so at least");
        int[][] cases = {
            // LOW, T, hours
            {150, 1, 0}, {152, 1, 0}, {153, 1, 1}, {155, 1, 1}, {156, 1, 2}, {150, 20, 0}, {209, 20, 0}, {210, 20, 1}, {211, 20, 1},
            {269, 20, 1}, {270, 20, 2}, {5000, 20, 80}, {5000, 19, 85}, {5000, 2, 808}, {5000, 1, 1616},
        };
        for (int[] c : cases) {
            IceRegatta x = new IceRegatta();
            x.sound(50, c[0], 0);
            C.due(c[2], () -> x.lasts(50, c[1]));
            C.due(c[0] + " " + c[0], () -> bounds(x, 50));
            if (c[2] > 400) {
                continue;
            }
            for (int hour = 0; hour < c[2]; hour++) {
                C.due(1, () -> x.hour(c[1]));
            }
            C.due(0, () -> x.lasts(50, c[1]));
            C.due(1, () -> x.ice(50, 2));
            C.due(0, () -> x.hour(c[1]));
        }
    }

    private static void lastsDegrees() {
        C.part("promise 7: IllegalArgumentException: T");
        IceRegatta x = new IceRegatta();
        x.sound(0, 300, 0);
        C.takes(-40, 20, Check.ARGUMENT, t -> x.lasts(0, t));
        C.takes(-40, 20, Check.ARGUMENT, t -> x.lasts(1, t));
        x.crack(0, true);
        C.takes(-40, 20, Check.ARGUMENT, t -> x.lasts(0, t));
        C.part("promise 7: no such CELL");
        C.takes(0, 143, Check.BOUNDS, cell -> x.lasts(cell, 20));
        C.due(Check.BOUNDS, () -> x.lasts(144, 21));
        C.due(Check.BOUNDS, () -> x.lasts(-1, -41));
    }

    private static void fiveHundredAndTwelveCalls() {
        C.part("An object is used for at most 512 calls after it has been made");
        IceRegatta x = new IceRegatta();
        for (int call = 1; call <= 510; call++) {
            int low = call % 2 == 0 ? 5000 : 0;
            C.due(low, () -> x.sound(143, low, 0));
        }
        C.due(1, () -> x.hour(-40));
        C.due(5000, () -> x.ice(143, 0));
    }
}
