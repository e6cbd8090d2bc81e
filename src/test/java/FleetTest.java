/** Promises 24 to 30: fleets, lots and counts. */
public final class FleetTest {
    private static final Check C = new Check();

    public static void main(String[] args) {
        part();
        promote();
        promoteByRankNow();
        fleet();
        noise();
        draw();
        lot();
        count();
        C.end();
    }

    private static String fleets(IceRegatta x) {
        StringBuilder all = new StringBuilder();
        for (int boat = 0; boat < x.count(0); boat++) {
            all.append(x.fleet(boat));
        }
        return all.toString();
    }

    private static String lots(IceRegatta x) {
        StringBuilder all = new StringBuilder();
        for (int k = 0; x.lot(k) != -1; k++) {
            all.append(x.lot(k)).append(' ');
        }
        return all.toString().trim();
    }

    private static void part() {
        C.part("promise 24");
        IceRegatta x = Check.with(0);
        C.due(0, () -> x.part(16));
        IceRegatta five = Check.with(5);
        Check.race(five, 4, 2, 0, 1, 3);
        C.due(2, () -> five.part(2));
        C.due("11010", () -> fleets(five));
        C.due(0, () -> five.part(0));
        C.due("11111", () -> fleets(five));
        C.due(5, () -> five.part(5));
        C.due("00000", () -> fleets(five));
        C.due(4, () -> five.part(4));
        C.due("00010", () -> fleets(five));
        C.due(5, () -> five.part(16));
        C.due("00000", () -> fleets(five));
        C.due(1, () -> five.part(1));
        C.due(Check.ARGUMENT, () -> five.part(17));
        C.due(Check.ARGUMENT, () -> five.part(-1));
        C.due("11110", () -> fleets(five));
    }

    private static void promote() {
        C.part("promise 25");
        IceRegatta x = Check.with(0);
        C.due(0, () -> x.promote(16));
        IceRegatta six = Check.with(6);
        Check.race(six, 5, 4, 3, 2, 1, 0);
        C.due(0, () -> six.promote(3));
        C.due(4, () -> six.part(4));
        C.due("110000", () -> fleets(six));
        C.due(0, () -> six.promote(0));
        C.due("110000", () -> fleets(six));
        C.due(1, () -> six.promote(1));
        C.due("101000", () -> fleets(six));
        six.part(4);
        C.due(2, () -> six.promote(2));
        C.due("001100", () -> fleets(six));
        six.part(4);
        C.due(2, () -> six.promote(16));
        C.due("001100", () -> fleets(six));
        six.part(1);
        C.due(1, () -> six.promote(5));
        C.due("111101", () -> fleets(six));
        six.part(6);
        C.due(0, () -> six.promote(5));
        six.part(0);
        C.due(0, () -> six.promote(5));
        C.due("111111", () -> fleets(six));
        C.due(Check.ARGUMENT, () -> six.promote(17));
        C.due(Check.ARGUMENT, () -> six.promote(-1));
    }

    private static void promoteByRankNow() {
        C.part("promise 25");
        IceRegatta x = Check.with(6);
        C.due(3, () -> x.part(3));
        C.due("000111", () -> fleets(x));
        Check.race(x, 5, 0, 4, 2, 1, 3);
        C.due(1, () -> x.promote(1));
        C.due("010110", () -> fleets(x));
        C.due(2, () -> x.promote(2));
        C.due("101100", () -> fleets(x));
    }

    private static void fleet() {
        C.part("promise 26");
        IceRegatta x = Check.with(2);
        C.due("00", () -> fleets(x));
        x.part(0);
        C.due("11", () -> fleets(x));
        x.boat();
        C.due("110", () -> fleets(x));
        C.due(1, () -> x.promote(1));
        C.due("011", () -> fleets(x));
        C.due(Check.BOUNDS, () -> x.fleet(3));
        C.due(Check.BOUNDS, () -> x.fleet(-1));
    }

    private static void noise() {
        C.part("promise 27");
        IceRegatta x = Check.with(0);
        for (int i = 1; i <= 20; i++) {
            int many = i;
            C.due(many, () -> x.noise(-many));
            C.due(many, () -> x.count(4));
        }
        C.due(-1, () -> x.noise(7));
        C.due(20, () -> x.count(4));
    }

    private static void draw() {
        C.part("promise 28");
        IceRegatta x = Check.with(0);
        C.due(-1, () -> x.draw());
        x.noise(5);
        C.due(-1, () -> x.draw());
        C.due(1, () -> x.count(4));
        x.boat();
        C.due(1, () -> x.draw());
        C.due("0", () -> lots(x));
        C.due(0, () -> x.count(4));
        C.due(1, () -> x.draw());
        x.boat();
        x.boat();
        x.noise(1);
        C.due(-1, () -> x.draw());
        C.due(1, () -> x.count(4));
        C.due("0", () -> lots(x));
        x.noise(0);
        C.due(3, () -> x.draw());
        C.due("2 0 1", () -> lots(x));
        x.noise(-1);
        x.noise(-1);
        x.noise(99);
        C.due(3, () -> x.draw());
        C.due("2 1 0", () -> lots(x));
        C.due(0, () -> x.count(4));
        C.due(-1, () -> x.draw());
    }

    private static void lot() {
        C.part("promise 29");
        IceRegatta x = Check.with(16);
        C.due(-1, () -> x.lot(0));
        for (int i = 0; i < 15; i++) {
            x.noise(0);
        }
        C.due(16, () -> x.draw());
        C.due("1 2 3 4 5 6 7 8 9 10 11 12 13 14 15 0", () -> lots(x));
        C.due(0, () -> x.lot(15));
        C.due(-1, () -> x.lot(16));
        C.due(-1, () -> x.lot(-1));
        C.due(-1, () -> x.lot(Integer.MIN_VALUE));
        IceRegatta later = Check.with(2);
        later.noise(1);
        later.draw();
        later.boat();
        C.due("0 1", () -> lots(later));
        C.due(-1, () -> later.lot(2));
    }

    private static void count() {
        C.part("promise 30");
        IceRegatta x = Check.with(3);
        x.end();
        x.end();
        Check.tell(x, "ice 9;ice 8;ice 7;ice 6;");
        x.soundRow(3, 100, 0);
        x.sound(0, 6, 0);
        x.sound(1, 5, 0);
        x.crack(36, true);
        for (int i = 0; i < 5; i++) {
            x.noise(i);
        }
        Check.feed(x, "ice");
        x.finish(2);
        int[] due = {3, 2, 4, 12, 5, 20, 1};
        for (int what = 0; what < due.length; what++) {
            int w = what;
            C.due(due[w], () -> x.count(w));
        }
        C.due(-1, () -> x.count(7));
        C.due(-1, () -> x.count(-1));
        C.due(-1, () -> x.count(Integer.MAX_VALUE));
    }
}
