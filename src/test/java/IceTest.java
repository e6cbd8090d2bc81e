/** Promises 1 to 7: a new object, and the ice of the lake. */
public final class IceTest {
    private static final Check C = new Check();

    public static void main(String[] args) {
        newObject();
        sound();
        soundRow();
        crack();
        hour();
        ice();
        lasts();
        C.end();
    }

    private static void newObject() {
        C.part("promise 1");
        IceRegatta x = new IceRegatta();
        for (int what = 0; what <= 6; what++) {
            int w = what;
            C.due(0, () -> x.count(w));
        }
        for (int cell = 0; cell < 144; cell++) {
            int c = cell;
            C.due(0, () -> x.ice(c, 0));
            C.due(5000, () -> x.ice(c, 1));
        }
        C.due(false, () -> x.crack(77, false));
        C.due(-1, () -> x.mark(0));
        C.due(-1, () -> x.mark(1));
        C.due(false, () -> x.holds());
        C.due(-1, () -> x.fault());
        C.due(-1, () -> x.rank(0));
        C.due(-1, () -> x.lot(0));
        C.due(0, () -> x.wind(3));
        C.due(Check.BOUNDS, () -> x.fleet(0));
        C.due(-1, () -> IceRegatta.NONE);
    }

    private static void sound() {
        C.part("promise 2");
        IceRegatta x = new IceRegatta();
        C.due(140, () -> x.sound(0, 200, 60));
        C.due(260, () -> x.ice(0, 1));
        C.due(0, () -> x.sound(143, 60, 60));
        C.due(120, () -> x.ice(143, 1));
        C.due(0, () -> x.sound(143, 60, 61));
        C.due(0, () -> x.ice(143, 0));
        C.due(5000, () -> x.sound(5, 5000, 0));
        C.due(0, () -> x.sound(5, 5000, 5000));
        C.due(5000, () -> x.ice(5, 1));
        C.due(0, () -> x.sound(5, 0, 0));
        C.due(0, () -> x.ice(5, 1));
        C.due(4999, () -> x.sound(5, 4999, 0));
        C.due(4999, () -> x.ice(5, 1));
        C.due(4998, () -> x.sound(5, 4999, 1));
        C.due(5000, () -> x.ice(5, 1));
        C.due(0, () -> x.ice(4, 0));
        C.due(5000, () -> x.ice(6, 1));
        C.due(Check.BOUNDS, () -> x.sound(-1, 200, 0));
        C.due(Check.BOUNDS, () -> x.sound(144, 200, 0));
        C.due(Check.BOUNDS, () -> x.sound(144, -1, 0));
        C.due(Check.BOUNDS, () -> x.sound(Integer.MIN_VALUE, 1, 1));
        C.due(Check.ARGUMENT, () -> x.sound(5, -1, 0));
        C.due(Check.ARGUMENT, () -> x.sound(5, 5001, 0));
        C.due(Check.ARGUMENT, () -> x.sound(5, 0, -1));
        C.due(Check.ARGUMENT, () -> x.sound(5, 0, 5001));
        C.due(Check.ARGUMENT, () -> x.sound(5, Integer.MAX_VALUE, Integer.MAX_VALUE));
        C.due(4998, () -> x.ice(5, 0));
    }

    private static void soundRow() {
        C.part("promise 3");
        IceRegatta x = new IceRegatta();
        C.due(250, () -> x.soundRow(0, 300, 50));
        C.due(250, () -> x.ice(0, 0));
        C.due(250, () -> x.ice(11, 0));
        C.due(350, () -> x.ice(11, 1));
        C.due(0, () -> x.ice(12, 0));
        C.due(12, () -> x.count(3));
        C.due(0, () -> x.soundRow(11, 20, 30));
        C.due(50, () -> x.ice(143, 1));
        C.due(5000, () -> x.ice(131, 1));
        C.due(100, () -> x.soundRow(5, 100, 0));
        C.due(100, () -> x.ice(60, 1));
        C.due(Check.BOUNDS, () -> x.soundRow(-1, 1, 1));
        C.due(Check.BOUNDS, () -> x.soundRow(12, 1, 1));
        C.due(Check.BOUNDS, () -> x.soundRow(12, -1, 1));
        C.due(Check.ARGUMENT, () -> x.soundRow(5, 5001, 0));
        C.due(Check.ARGUMENT, () -> x.soundRow(5, -1, 0));
        C.due(Check.ARGUMENT, () -> x.soundRow(5, 1, 5001));
        C.due(Check.ARGUMENT, () -> x.soundRow(5, 1, -1));
        C.due(100, () -> x.ice(60, 0));
    }

    private static void crack() {
        C.part("promise 4");
        IceRegatta x = new IceRegatta();
        x.sound(143, 500, 0);
        C.due(false, () -> x.crack(143, true));
        C.due(true, () -> x.crack(143, true));
        C.due(0, () -> x.ice(143, 2));
        C.due(0, () -> x.count(3));
        C.due(500, () -> x.ice(143, 0));
        C.due(true, () -> x.crack(143, false));
        C.due(1, () -> x.ice(143, 2));
        C.due(false, () -> x.crack(142, false));
        C.due(Check.BOUNDS, () -> x.crack(-1, true));
        C.due(Check.BOUNDS, () -> x.crack(144, false));
        x.crack(143, true);
        x.sound(143, 600, 0);
        C.due(true, () -> x.crack(143, true));
    }

    private static void hour() {
        C.part("promise 5");
        IceRegatta x = new IceRegatta();
        x.sound(0, 149, 0);
        x.sound(1, 148, 0);
        C.due(1, () -> x.hour(-4));
        C.due("150 150", () -> x.ice(0, 0) + " " + x.ice(0, 1));
        C.due(1, () -> x.hour(-3));
        C.due("150 151", () -> x.ice(0, 0) + " " + x.ice(0, 1));
        C.due(2, () -> x.hour(-5));
        C.due("151 153", () -> x.ice(0, 0) + " " + x.ice(0, 1));
        C.due("150 152", () -> x.ice(1, 0) + " " + x.ice(1, 1));
        C.due(2, () -> x.hour(0));
        C.due("151 153", () -> x.ice(0, 0) + " " + x.ice(0, 1));
        C.due(0, () -> x.hour(1));
        C.due("148 152", () -> x.ice(0, 0) + " " + x.ice(0, 1));
        C.due(2, () -> x.hour(-40));
        C.due("158 162", () -> x.ice(0, 0) + " " + x.ice(0, 1));
        C.due("10 5000", () -> x.ice(143, 0) + " " + x.ice(143, 1));
        C.due(0, () -> x.hour(20));
        C.due("98 142", () -> x.ice(0, 0) + " " + x.ice(0, 1));
        C.due("0 4980", () -> x.ice(143, 0) + " " + x.ice(143, 1));
        x.sound(7, 10, 5);
        C.due(0, () -> x.hour(20));
        C.due("0 0", () -> x.ice(7, 0) + " " + x.ice(7, 1));
        x.sound(7, 4995, 0);
        C.due(1, () -> x.hour(-40));
        C.due("5000 5000", () -> x.ice(7, 0) + " " + x.ice(7, 1));
        x.crack(7, true);
        C.due(0, () -> x.hour(0));
        x.sound(7, 30, 0);
        x.hour(-1);
        C.due("30 31", () -> x.ice(7, 0) + " " + x.ice(7, 1));
        x.sound(7, 5000, 0);
        C.due(Check.ARGUMENT, () -> x.hour(21));
        C.due(Check.ARGUMENT, () -> x.hour(-41));
        C.due(Check.ARGUMENT, () -> x.hour(Integer.MIN_VALUE));
        C.due("5000 5000", () -> x.ice(7, 0) + " " + x.ice(7, 1));
    }

    private static void ice() {
        C.part("promise 6");
        IceRegatta x = new IceRegatta();
        x.sound(10, 160, 10);
        C.due(150, () -> x.ice(10, 0));
        C.due(170, () -> x.ice(10, 1));
        C.due(1, () -> x.ice(10, 2));
        x.sound(10, 160, 11);
        C.due(0, () -> x.ice(10, 2));
        C.due(1, () -> Check.tell(x, "ice 149;"));
        C.due(1, () -> x.ice(10, 2));
        C.due(1, () -> Check.tell(x, "ice 0;"));
        C.due(1, () -> x.ice(11, 2));
        C.due(144, () -> x.count(3));
        C.due(Check.BOUNDS, () -> x.ice(-1, 0));
        C.due(Check.BOUNDS, () -> x.ice(144, 0));
        C.due(Check.BOUNDS, () -> x.ice(144, 3));
        C.due(Check.ARGUMENT, () -> x.ice(10, 3));
        C.due(Check.ARGUMENT, () -> x.ice(10, -1));
    }

    private static void lasts() {
        C.part("promise 7");
        IceRegatta x = new IceRegatta();
        x.sound(3, 162, 0);
        C.due(4, () -> x.lasts(3, 1));
        C.due(2, () -> x.lasts(3, 2));
        C.due(0, () -> x.lasts(3, 20));
        C.due(-1, () -> x.lasts(3, 0));
        C.due(-1, () -> x.lasts(3, -40));
        C.due(0, () -> x.lasts(4, 0));
        C.due(0, () -> x.lasts(4, -40));
        C.due(0, () -> x.lasts(4, 1));
        x.sound(3, 161, 0);
        C.due(3, () -> x.lasts(3, 1));
        x.sound(3, 5000, 0);
        C.due(80, () -> x.lasts(3, 20));
        x.crack(3, true);
        C.due(0, () -> x.lasts(3, 1));
        C.due(0, () -> x.lasts(3, -1));
        x.crack(3, false);
        Check.tell(x, "ice 1;");
        C.due(1666, () -> x.lasts(3, 1));
        Check.tell(x, "ice 0;");
        C.due(-1, () -> x.lasts(3, 20));
        C.due(-1, () -> x.lasts(4, 1));
        C.due(5000, () -> x.ice(3, 0));
        C.due(Check.BOUNDS, () -> x.lasts(-1, 0));
        C.due(Check.BOUNDS, () -> x.lasts(144, 21));
        C.due(Check.ARGUMENT, () -> x.lasts(4, 21));
        C.due(Check.ARGUMENT, () -> x.lasts(3, -41));
    }
}
