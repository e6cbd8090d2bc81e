/** Promises 8 to 12: the wind and the course. */
public final class CourseTest {
    private static final Check C = new Check();
    private static final int[] STEPS_X = {0, 1, 1, 1, 0, -1, -1, -1};
    private static final int[] STEPS_Y = {-1, -1, 0, 1, 1, 1, 0, -1};

    public static void main(String[] args) {
        wind();
        courseByEachWay();
        courseAmongLegs();
        move();
        moveWhenTheWindTurns();
        mark();
        holds();
        C.end();
    }

    private static String marks(IceRegatta x) {
        return x.mark(0) + " to " + x.mark(1);
    }

    private static void safe(IceRegatta x, int... cells) {
        for (int cell : cells) {
            x.sound(cell, 150, 0);
        }
    }

    private static void wind() {
        C.part("promise 8");
        IceRegatta x = new IceRegatta();
        C.due(0, () -> x.wind(7));
        C.due(7, () -> x.wind(0));
        C.due(Check.ARGUMENT, () -> x.wind(8));
        C.due(Check.ARGUMENT, () -> x.wind(-1));
        C.due(0, () -> x.wind(4));
        C.due(4, () -> x.wind(4));
    }

    private static void courseByEachWay() {
        C.part("promise 9");
        for (int way = 0; way < 8; way++) {
            IceRegatta x = new IceRegatta();
            x.wind(way);
            int foot = 12 * 6 + 6;
            int head = foot + 3 * (12 * STEPS_Y[way] + STEPS_X[way]);
            for (int step = 0; step <= 3; step++) {
                safe(x, foot + step * (12 * STEPS_Y[way] + STEPS_X[way]));
            }
            C.due(3, () -> x.course());
            C.due(foot + " to " + head, () -> marks(x));
        }
    }

    private static void courseAmongLegs() {
        C.part("promise 9");
        IceRegatta x = new IceRegatta();
        C.due(-1, () -> x.course());
        safe(x, 50);
        C.due(-1, () -> x.course());
        C.due("-1 to -1", () -> marks(x));
        safe(x, 38, 100, 88);
        C.due(1, () -> x.course());
        C.due("50 to 38", () -> marks(x));
        safe(x, 76);
        C.due(2, () -> x.course());
        C.due("100 to 76", () -> marks(x));
        x.wind(2);
        C.due(-1, () -> x.course());
        C.due("100 to 76", () -> marks(x));
        safe(x, 11, 12);
        C.due(-1, () -> x.course());
        safe(x, 10);
        C.due(1, () -> x.course());
        C.due("10 to 11", () -> marks(x));
        IceRegatta whole = new IceRegatta();
        for (int y = 0; y < 12; y++) {
            whole.soundRow(y, 200, 0);
        }
        String[] marks = {"132 to 0", "132 to 11", "0 to 11", "0 to 143", "0 to 132", "11 to 132", "11 to 0", "143 to 0"};
        for (int way = 0; way < 8; way++) {
            whole.wind(way);
            C.due(11, () -> whole.course());
            C.due(marks[way], () -> marks(whole));
        }
    }

    private static void move() {
        C.part("promise 10");
        IceRegatta x = new IceRegatta();
        x.wind(2);
        x.soundRow(4, 150, 0);
        C.due(-1, () -> x.move(1));
        C.due(11, () -> x.course());
        C.due(0, () -> x.move(11));
        x.soundRow(4, 0, 0);
        C.due(-1, () -> x.move(1));
        C.due("48 to 59", () -> marks(x));
        safe(x, 52, 53, 54, 55);
        C.due(2, () -> x.move(1));
        C.due("52 to 55", () -> marks(x));
        x.soundRow(4, 150, 0);
        C.due(0, () -> x.move(1));
        C.due(0, () -> x.move(3));
        C.due("52 to 55", () -> marks(x));
        C.due(1, () -> x.move(4));
        C.due("48 to 55", () -> marks(x));
        C.due(1, () -> x.move(8));
        C.due("48 to 59", () -> marks(x));
        safe(x, 24, 25, 0, 1);
        x.soundRow(4, 0, 0);
        C.due(-1, () -> x.move(2));
        C.due(2, () -> x.move(1));
        C.due("0 to 1", () -> marks(x));
        x.sound(0, 0, 0);
        C.due(2, () -> x.move(1));
        C.due("24 to 25", () -> marks(x));
        C.due(Check.ARGUMENT, () -> x.move(0));
        C.due(Check.ARGUMENT, () -> x.move(12));
        C.due(Check.ARGUMENT, () -> x.move(-5));
        C.due(Check.ARGUMENT, () -> new IceRegatta().move(12));
        C.due("24 to 25", () -> marks(x));
        fewestGoesAheadOfLength();
    }

    private static void fewestGoesAheadOfLength() {
        IceRegatta x = new IceRegatta();
        x.wind(2);
        safe(x, 48, 49, 50);
        C.due(2, () -> x.course());
        x.soundRow(0, 150, 0);
        x.crack(48, true);
        C.due(1, () -> x.move(1));
        C.due("49 to 50", () -> marks(x));
        x.crack(48, false);
        x.crack(50, true);
        C.due(2, () -> x.move(1));
        C.due("0 to 11", () -> marks(x));
    }

    private static void moveWhenTheWindTurns() {
        C.part("promise 10");
        IceRegatta x = new IceRegatta();
        for (int y = 0; y < 12; y++) {
            x.soundRow(y, 200, 0);
        }
        C.due(11, () -> x.course());
        C.due("132 to 0", () -> marks(x));
        x.wind(2);
        C.due(1, () -> x.move(5));
        C.due("132 to 143", () -> marks(x));
        x.wind(7);
        C.due(2, () -> x.move(1));
        C.due("143 to 0", () -> marks(x));
        x.wind(0);
        C.due(1, () -> x.move(1));
        C.due("132 to 0", () -> marks(x));
        x.wind(4);
        C.due(2, () -> x.move(11));
        C.due("0 to 132", () -> marks(x));
    }

    private static void mark() {
        C.part("promise 11");
        IceRegatta x = new IceRegatta();
        C.due(-1, () -> x.mark(0));
        C.due(-1, () -> x.mark(1));
        C.due(Check.ARGUMENT, () -> x.mark(2));
        C.due(Check.ARGUMENT, () -> x.mark(-1));
        safe(x, 0, 12, 24);
        C.due(2, () -> x.course());
        C.due(24, () -> x.mark(0));
        C.due(0, () -> x.mark(1));
        x.wind(4);
        x.crack(0, true);
        C.due(24, () -> x.mark(0));
        C.due(0, () -> x.mark(1));
        C.due(Check.ARGUMENT, () -> x.mark(2));
    }

    private static void holds() {
        C.part("promise 12");
        IceRegatta x = new IceRegatta();
        C.due(false, () -> x.holds());
        safe(x, 0, 12, 24);
        C.due(false, () -> x.holds());
        C.due(2, () -> x.course());
        C.due(true, () -> x.holds());
        safe(x, 36);
        C.due(true, () -> x.holds());
        for (int way = 1; way < 8; way++) {
            x.wind(way);
            C.due(false, () -> x.holds());
        }
        x.wind(0);
        C.due(true, () -> x.holds());
        for (int cell = 0; cell <= 24; cell += 12) {
            x.crack(cell, true);
            C.due(false, () -> x.holds());
            x.crack(cell, false);
            C.due(true, () -> x.holds());
        }
        x.hour(1);
        C.due(false, () -> x.holds());
        Check.tell(x, "ice 147;");
        C.due(true, () -> x.holds());
        IceRegatta least = new IceRegatta();
        safe(least, 0, 12);
        C.due(1, () -> least.course());
        C.due(true, () -> least.holds());
    }
}
