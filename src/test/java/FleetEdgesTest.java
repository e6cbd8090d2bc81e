/** The boundary cases that the terms of FLEETS and LOTS and promises 24 to 30 name, sentence by sentence. */
public final class FleetEdgesTest {
    private static final Check C = new Check();

    public static void main(String[] args) {
        partNumber();
        partFirstInRank();
        partRefused();
        promoteNumber();
        promoteAsManyAsBothHave();
        promoteByRankNow();
        promoteRefused();
        fleetAtFirst();
        fleetBoat();
        twentyNumbers();
        refusedNoise();
        drawWithTooFew();
        drawWithoutBoats();
        drawEmptiesNoise();
        numberWithoutSign();
        whatIsLeft();
        oneNumberAfterTheOther();
        lotNumber();
        lotOfTheLatest();
        countOfOthers();
        countFromNoneToFull();
        C.end();
    }

    private static String fleets(IceRegatta x) {
        StringBuilder all = new StringBuilder();
        int boats = x.count(0);
        for (int boat = 0; boat < boats; boat++) {
            all.append(x.fleet(boat));
        }
        return all.toString();
    }

    private static String lots(IceRegatta x) {
        StringBuilder all = new StringBuilder();
        for (int k = 0; k < 17 && x.lot(k) != -1; k++) {
            all.append(x.lot(k)).append(' ');
        }
        return all.toString().trim();
    }

    private static IceRegatta withNoise(int boats, int... numbers) {
        IceRegatta x = Check.with(boats);
        for (int number : numbers) {
            x.noise(number);
        }
        return x;
    }

    private static void partNumber() {
        C.part("promise 24: IllegalArgumentException: n is not 0 to 16");
        for (int boats : new int[] {0, 1, 16}) {
            IceRegatta x = Check.with(boats);
            C.takes(0, 16, Check.ARGUMENT, n -> x.part(n));
        }
    }

    private static void partFirstInRank() {
        C.part("FLEETS: parted by RANK: the first n are in FLEET 0, the others in FLEET 1; promise 24: how many are in FLEET 0");
        for (int boats : new int[] {0, 1, 5, 16}) {
            for (int n = 0; n <= 16; n++) {
                IceRegatta x = Check.with(boats);
                int first = Math.min(n, boats);
                int asked = n;
                C.due(first, () -> x.part(asked));
                C.due("0".repeat(first) + "1".repeat(boats - first), () -> fleets(x));
            }
        }
        IceRegatta x = Check.with(3);
        Check.race(x, 2, 0, 1);
        String[] parted = {"111", "110", "010", "000", "000"};
        for (int n = 0; n < parted.length; n++) {
            int asked = n;
            C.due(Math.min(3, n), () -> x.part(asked));
            C.due(parted[n], () -> fleets(x));
        }
        C.due(0, () -> x.part(0));
        C.due("111", () -> fleets(x));
    }

    private static void partRefused() {
        C.part("promise 24: a refused part()");
        IceRegatta x = Check.with(3);
        x.part(1);
        C.due(Check.ARGUMENT, () -> x.part(17));
        C.due(Check.ARGUMENT, () -> x.part(-1));
        C.due("011", () -> fleets(x));
    }

    private static void promoteNumber() {
        C.part("promise 25: IllegalArgumentException: k is not 0 to 16");
        for (int boats : new int[] {0, 1, 16}) {
            IceRegatta x = Check.with(boats);
            x.part(boats / 2);
            C.takes(0, 16, Check.ARGUMENT, k -> x.promote(k));
        }
    }

    private static void promoteAsManyAsBothHave() {
        C.part("the last k of FLEET 0 and the first k of FLEET 1 change their FLEETS (as many as both have at most)");
        for (int first = 0; first <= 16; first++) {
            for (int k = 0; k <= 16; k++) {
                IceRegatta x = Check.with(16);
                x.part(first);
                int many = Math.min(k, Math.min(first, 16 - first));
                int asked = k;
                C.due(many, () -> x.promote(asked));
                String due = "0".repeat(first - many) + "1".repeat(many) + "0".repeat(many) + "1".repeat(16 - first - many);
                C.due(due, () -> fleets(x));
            }
        }
        C.due(0, () -> new IceRegatta().promote(0));
        C.due(0, () -> new IceRegatta().promote(16));
        IceRegatta one = Check.with(1);
        C.due(0, () -> one.promote(1));
        C.due("0", () -> fleets(one));
        one.part(0);
        C.due(0, () -> one.promote(16));
        C.due("1", () -> fleets(one));
    }

    private static void promoteByRankNow() {
        C.part("PROMOTED: .. by RANK now");
        IceRegatta x = Check.with(4);
        x.part(2);
        Check.race(x, 3, 1, 0, 2);
        C.due("0011", () -> fleets(x));
        C.due(1, () -> x.promote(1));
        C.due("1010", () -> fleets(x));
        C.due(1, () -> x.promote(1));
        // The last of FLEET 0 is 1, the first of FLEET 1 is 0.
        C.due("0110", () -> fleets(x));
        C.due(2, () -> x.promote(16));
        C.due("1001", () -> fleets(x));
        C.due(2, () -> x.promote(2));
        C.due("0110", () -> fleets(x));
    }

    private static void promoteRefused() {
        C.part("promise 25: a refused promote()");
        IceRegatta x = Check.with(4);
        x.part(2);
        C.due(Check.ARGUMENT, () -> x.promote(17));
        C.due(Check.ARGUMENT, () -> x.promote(-1));
        C.due("0011", () -> fleets(x));
        C.due(0, () -> x.promote(0));
        C.due("0011", () -> fleets(x));
    }

    private static void fleetAtFirst() {
        C.part("promise 26: The FLEET of a BOAT (0 at first)");
        IceRegatta x = Check.with(16);
        C.due("0".repeat(16), () -> fleets(x));
        C.due(0, () -> x.promote(16));
        C.due("0".repeat(16), () -> fleets(x));
        IceRegatta later = Check.with(15);
        later.part(0);
        C.due(15, () -> later.boat());
        C.due("1".repeat(15) + "0", () -> fleets(later));
        C.due(Check.STATE, () -> later.boat());
        C.due("1".repeat(15) + "0", () -> fleets(later));
        IceRegatta ahead = new IceRegatta();
        C.due(0, () -> ahead.part(0));
        ahead.boat();
        C.due("0", () -> fleets(ahead));
    }

    private static void fleetBoat() {
        C.part("promise 26: IndexOutOfBoundsException: no such BOAT");
        C.due(Check.BOUNDS, () -> new IceRegatta().fleet(0));
        for (int boats : new int[] {1, 2, 15, 16}) {
            IceRegatta x = Check.with(boats);
            C.takes(0, boats - 1, Check.BOUNDS, boat -> x.fleet(boat));
        }
    }

    private static void twentyNumbers() {
        C.part("numbers of NOISE, 20 at most; promise 27: how many there are; NONE, doing nothing: there are 20");
        for (int v : new int[] {0, 1, -1, Integer.MIN_VALUE, Integer.MAX_VALUE}) {
            IceRegatta x = new IceRegatta();
            for (int many = 1; many <= 20; many++) {
                int m = many;
                C.due(m - 1, () -> x.count(4));
                C.due(m, () -> x.noise(v));
            }
            C.due(20, () -> x.count(4));
            C.due(-1, () -> x.noise(v));
            C.due(-1, () -> x.noise(v));
            C.due(20, () -> x.count(4));
        }
    }

    private static void refusedNoise() {
        C.part("promise 27: NONE, doing nothing");
        IceRegatta x = Check.with(16);
        for (int many = 1; many <= 20; many++) {
            x.noise(15);
        }
        for (int i = 0; i < 20; i++) {
            C.due(-1, () -> x.noise(0));
        }
        C.due(16, () -> x.draw());
        // 15 leaves 15 by 16, then 0 by 15, 1 by 14, 2 by 13, 3 by 12, 4 by 11, 5 by 10, 6 by 9, 7 by 8, 1 by 7, 3 by 6, 0, 3, 0, 1.
        C.due(orderBy(16, 15), () -> lots(x));
        C.due(0, () -> x.count(4));
        C.due(1, () -> x.noise(0));
    }

    /** The row when all numbers are one, by the words of the document. */
    private static String orderBy(int boats, long number) {
        int[] row = new int[boats];
        for (int i = 0; i < boats; i++) {
            row[i] = i;
        }
        for (int i = boats - 1; i >= 1; i--) {
            int at = (int) (number % (i + 1));
            int kept = row[i];
            row[i] = row[at];
            row[at] = kept;
        }
        StringBuilder all = new StringBuilder();
        for (int boat : row) {
            all.append(boat).append(' ');
        }
        return all.toString().trim();
    }

    private static void drawWithTooFew() {
        C.part("promise 28: NONE, and NOISE stays: it has fewer numbers than BOATS less one");
        for (int boats = 1; boats <= 16; boats++) {
            int b = boats;
            for (int many = 0; many < boats - 1; many++) {
                IceRegatta x = withNoise(boats, new int[many]);
                int m = many;
                C.due(-1, () -> x.draw());
                C.due(m, () -> x.count(4));
                C.due(-1, () -> x.lot(0));
            }
            IceRegatta x = withNoise(boats, new int[boats - 1]);
            C.due(b, () -> x.draw());
            C.due(0, () -> x.count(4));
            C.due(orderBy(b, 0), () -> lots(x));
        }
        IceRegatta x = withNoise(3, 1);
        C.due(-1, () -> x.draw());
        x.noise(0);
        C.due(3, () -> x.draw());
        C.due("2 0 1", () -> lots(x));
        x.noise(7);
        C.due(-1, () -> x.draw());
        C.due("2 0 1", () -> lots(x));
        C.due(1, () -> x.count(4));
    }

    private static void drawWithoutBoats() {
        C.part("promise 28: NONE, and NOISE stays: .. or there are no BOATS");
        C.due(-1, () -> new IceRegatta().draw());
        IceRegatta x = withNoise(0, new int[20]);
        C.due(-1, () -> x.draw());
        C.due(20, () -> x.count(4));
        C.due(-1, () -> x.lot(0));
        x.boat();
        C.due(1, () -> x.draw());
        C.due("0", () -> lots(x));
        C.due(0, () -> x.count(4));
        C.due(1, () -> x.draw());
        C.due("0", () -> lots(x));
    }

    private static void drawEmptiesNoise() {
        C.part("promise 28: LOTS (NOISE is empty then): how many BOATS");
        for (int many : new int[] {1, 2, 19, 20}) {
            IceRegatta x = withNoise(2, new int[many]);
            C.due(2, () -> x.draw());
            C.due(0, () -> x.count(4));
            C.due(-1, () -> x.draw());
            C.due("1 0", () -> lots(x));
            for (int i = 1; i <= 20; i++) {
                int m = i;
                C.due(m, () -> x.noise(1));
            }
            C.due(-1, () -> x.noise(0));
            C.due(2, () -> x.draw());
            C.due("0 1", () -> lots(x));
        }
    }

    private static void numberWithoutSign() {
        C.part("the number (without sign: 0 to 4,294,967,295)");
        int[] numbers = {0, 1, 2, Integer.MAX_VALUE, Integer.MIN_VALUE, Integer.MIN_VALUE + 1, -2, -1};
        // What each leaves by 3, and by 2.
        int[] byThree = {0, 1, 2, 1, 2, 0, 2, 0};
        int[] byTwo = {0, 1, 0, 1, 0, 1, 0, 1};
        String[][] rows = {{"1 2 0", "2 1 0"}, {"2 0 1", "0 2 1"}, {"1 0 2", "0 1 2"}};
        for (int first = 0; first < numbers.length; first++) {
            for (int second = 0; second < numbers.length; second++) {
                IceRegatta x = withNoise(3, numbers[first], numbers[second]);
                C.due(3, () -> x.draw());
                String due = rows[byThree[first]][byTwo[second]];
                C.due(due, () -> lots(x));
            }
        }
        for (int number : numbers) {
            int[] all = new int[15];
            java.util.Arrays.fill(all, number);
            IceRegatta x = withNoise(16, all);
            C.due(16, () -> x.draw());
            C.due(orderBy(16, number & 0xFFFFFFFFL), () -> lots(x));
        }
    }

    private static void whatIsLeft() {
        C.part("the place that the number leaves by i + 1");
        for (int number = 0; number <= 32; number++) {
            int[] all = new int[15];
            for (int i = 0; i < 15; i++) {
                // All but the first leave their own place, so that only place 15 changes.
                all[i] = i == 0 ? number : 15 - i;
            }
            IceRegatta x = withNoise(16, all);
            C.due(16, () -> x.draw());
            int n = number % 16;
            C.due(n, () -> x.lot(15));
            C.due(15, () -> x.lot(n));
            if (n != 7 && n != 15) {
                C.due(7, () -> x.lot(7));
            }
        }
    }

    private static void oneNumberAfterTheOther() {
        C.part("for i from the last place down to 1, with one number after the other");
        for (int place = 1; place <= 15; place++) {
            int[] all = new int[20];
            for (int i = 0; i < 15; i++) {
                all[i] = 15 - i == place ? 0 : 15 - i;
            }
            IceRegatta x = withNoise(16, all);
            C.due(16, () -> x.draw());
            int p = place;
            C.due(p, () -> x.lot(0));
            C.due(0, () -> x.lot(p));
            for (int k = 1; k < 16; k++) {
                int other = k;
                if (other != p) {
                    C.due(other, () -> x.lot(other));
                }
            }
        }
    }

    private static void lotNumber() {
        C.part("promise 29: The k-th BOAT of the latest LOTS; NONE");
        for (int boats : new int[] {1, 2, 15, 16}) {
            IceRegatta x = withNoise(boats, new int[boats - 1]);
            C.due(-1, () -> x.lot(0));
            x.draw();
            C.due(true, () -> x.lot(0) >= 0);
            C.due(0, () -> x.lot(boats - 1));
            for (int k : new int[] {-1, boats, 16, 17, -256, 256, 65536, Integer.MIN_VALUE, Integer.MAX_VALUE}) {
                C.due(-1, () -> x.lot(k));
            }
        }
        C.due(-1, () -> new IceRegatta().lot(0));
    }

    private static void lotOfTheLatest() {
        C.part("promise 29: the latest LOTS");
        IceRegatta x = withNoise(2, 0);
        x.draw();
        C.due("1 0", () -> lots(x));
        x.boat();
        C.due("1 0", () -> lots(x));
        C.due(-1, () -> x.lot(2));
        x.noise(0);
        C.due(-1, () -> x.draw());
        C.due("1 0", () -> lots(x));
        x.noise(0);
        C.due("1 0", () -> lots(x));
        C.due(3, () -> x.draw());
        C.due("1 2 0", () -> lots(x));
    }

    private static void countOfOthers() {
        C.part("promise 30: NONE for others");
        for (IceRegatta x : new IceRegatta[] {new IceRegatta(), Check.with(16)}) {
            for (int what : new int[] {-1, 7, 8, -256, 256, 65536, 1 << 24, Integer.MIN_VALUE, Integer.MIN_VALUE + 6, Integer.MAX_VALUE}) {
                C.due(-1, () -> x.count(what));
            }
            C.due(0, () -> x.count(6));
        }
    }

    private static void countFromNoneToFull() {
        C.part("promise 30: from none to as many as there may be");
        IceRegatta x = new IceRegatta();
        C.due("0 0 0 0 0 0 0", () -> counts(x));
        for (int boat = 0; boat < 16; boat++) {
            x.boat();
        }
        for (int race = 0; race < 19; race++) {
            x.end();
        }
        Check.tell(x, "ice 0;".repeat(10));
        for (int i = 0; i < 20; i++) {
            x.noise(i);
        }
        for (int i = 0; i < 10; i++) {
            x.feed(0, 0, 0, 0, 0);
        }
        for (int boat = 0; boat < 16; boat++) {
            x.finish(boat);
        }
        C.due("16 19 10 144 20 200 16", () -> counts(x));
        x.end();
        x.end();
        C.due("16 20 10 144 20 200 0", () -> counts(x));
        x.draw();
        x.rule(0);
        C.due("16 20 0 0 0 0 0", () -> counts(x));
    }

    private static String counts(IceRegatta x) {
        StringBuilder all = new StringBuilder();
        for (int what = 0; what <= 6; what++) {
            all.append(x.count(what)).append(' ');
        }
        return all.toString().trim();
    }
}
