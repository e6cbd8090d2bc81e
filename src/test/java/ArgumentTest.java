/** Every call with every edge of its arguments, crossed with one another, on a new, a half full and a full object, against the Model. */
public final class ArgumentTest {
    private static final int LEAST = Integer.MIN_VALUE;
    private static final int MOST = Integer.MAX_VALUE;
    private static final int[] CELLS = {LEAST, -1, 0, 1, 11, 12, 131, 132, 143, 144, 156, MOST};
    private static final int[] ROWS = {LEAST, -12, -1, 0, 1, 10, 11, 12, 143, MOST};
    private static final int[] THICK = {LEAST, -5000, -1, 0, 1, 149, 150, 2500, 4999, 5000, 5001, 10000, MOST - 1, MOST};
    private static final int[] DEGREES = {LEAST, LEAST + 1, -44, -41, -40, -39, -5, -4, -3, -1, 0, 1, 2, 19, 20, 21, 40, MOST};
    private static final int[] SMALL = {LEAST, -256, -2, -1, 0, 1, 2, 3, 6, 7, 8, 10, 11, 12, 256, MOST};
    private static final int[] BOATS = {LEAST, -16, -1, 0, 1, 4, 5, 6, 14, 15, 16, 17, 32, MOST};
    private static final int[] RACES = {LEAST, -1, 0, 1, 2, 3, 4, 18, 19, 20, 21, MOST};
    private static final int[] POINTS = {LEAST, -1, 0, 1, 500, 999, 1000, 1001, MOST};
    private static final int[] WAYS = {LEAST, -8, -1, 0, 1, 3, 4, 5, 7, 8, MOST};
    private static final int[] BYTES = {LEAST, -1, 0, 1, 6, 19, 20, 21, 40, 41, 180, 199, 200, 201, 256, MOST};
    private static final int[] NUMBERS = {LEAST, LEAST + 1, -2, -1, 0, 1, 15, 16, MOST - 1, MOST};
    /** Calls on one pair of objects, with those that make it, stay below 512. */
    private static final int CALLS_OF_ONE = 250;

    private IceRegatta x;
    private Model model;
    private final int fill;
    private int used = CALLS_OF_ONE;
    private static int calls = 0;
    private static int wrong = 0;

    private ArgumentTest(int fill) {
        this.fill = fill;
    }

    public static void main(String[] args) {
        for (int fill = 0; fill < 3; fill++) {
            ArgumentTest test = new ArgumentTest(fill);
            test.lake();
            test.course();
            test.rule();
            test.boats();
            test.races();
            test.fleetsAndLots();
        }
        System.out.println(calls + " calls, " + wrong + " wrong");
        if (wrong != 0 || calls == 0) {
            System.exit(1);
        }
    }

    private void both(String call, Check.Call got, Check.Call want) {
        calls++;
        used++;
        String answer = Check.answerOf(got);
        String due = Check.answerOf(want);
        if (!answer.equals(due)) {
            wrong++;
            System.out.println("fill " + fill + ": " + call + " answered " + answer + ", due is " + due);
        }
    }

    /** Makes both objects anew when they have been used enough, filled as this test has it. */
    private void ready() {
        if (used < CALLS_OF_ONE) {
            return;
        }
        used = 0;
        x = new IceRegatta();
        model = new Model();
        int boats = fill == 0 ? 0 : fill == 1 ? 5 : 16;
        int races = fill == 0 ? 0 : fill == 1 ? 3 : 20;
        for (int boat = 0; boat < boats; boat++) {
            x.boat();
            model.boat();
        }
        for (int race = 0; race < races; race++) {
            x.finish(race % boats);
            model.finish(race % boats);
            x.end();
            model.end();
        }
        for (int y = 0; y < 4 * fill; y++) {
            x.soundRow(y, 200, 3 * y);
            model.soundRow(y, 200, 3 * y);
        }
        both("course()", () -> x.course(), () -> model.course());
        for (int i = 0; i < 10 * fill; i++) {
            x.noise(-i);
            model.noise(-i);
        }
        tell(fill == 0 ? "" : "way ahead leeward starboard;drop 1 from 3;");
        for (int i = 0; i < 5 * fill; i++) {
            x.feed(0x69636531, 0x3b202020, 0x20202020, 0x20202020, 0x20202020);
            model.feed(0x69636531, 0x3b202020, 0x20202020, 0x20202020, 0x20202020);
        }
    }

    private void tell(String text) {
        Check.feed(x, text);
        StringBuilder all = new StringBuilder(text);
        while (all.length() % 20 != 0) {
            all.append(' ');
        }
        for (int at = 0; at < all.length(); at += 20) {
            int[] n = new int[5];
            for (int i = 0; i < 20; i++) {
                n[i / 4] = n[i / 4] << 8 | all.charAt(at + i);
            }
            model.feed(n[0], n[1], n[2], n[3], n[4]);
        }
        both("rule of " + text, () -> x.rule(text.length()), () -> model.rule(text.length()));
    }

    private void lake() {
        for (int t : THICK) {
            for (int d : THICK) {
                for (int cell : CELLS) {
                    ready();
                    both("sound(" + cell + ", " + t + ", " + d + ")", () -> x.sound(cell, t, d), () -> model.sound(cell, t, d));
                }
                for (int y : ROWS) {
                    ready();
                    both("soundRow(" + y + ", " + t + ", " + d + ")", () -> x.soundRow(y, t, d), () -> model.soundRow(y, t, d));
                }
            }
        }
        for (int cell : CELLS) {
            for (int what : SMALL) {
                ready();
                both("ice(" + cell + ", " + what + ")", () -> x.ice(cell, what), () -> model.ice(cell, what));
            }
            for (int t : DEGREES) {
                ready();
                both("lasts(" + cell + ", " + t + ")", () -> x.lasts(cell, t), () -> model.lasts(cell, t));
                both("hour(" + t + ")", () -> x.hour(t), () -> model.hour(t));
            }
            for (int i = 0; i < 4; i++) {
                ready();
                boolean is = i < 2;
                both("crack(" + cell + ", " + is + ")", () -> x.crack(cell, is), () -> model.crack(cell, is));
            }
        }
    }

    private void course() {
        for (int way : WAYS) {
            for (int least : SMALL) {
                ready();
                both("wind(" + way + ")", () -> x.wind(way), () -> model.wind(way));
                both("move(" + least + ")", () -> x.move(least), () -> model.move(least));
                both("mark(" + least + ")", () -> x.mark(least), () -> model.mark(least));
                both("holds()", () -> x.holds(), () -> model.holds());
            }
        }
    }

    private void rule() {
        for (int n : BYTES) {
            for (int feeds = 0; feeds < 4; feeds++) {
                ready();
                both("rule(" + n + ")", () -> x.rule(n), () -> model.rule(n));
                both("fault()", () -> x.fault(), () -> model.fault());
                int number = NUMBERS[feeds];
                both("feed(" + number + ", ..)", () -> x.feed(number, n, 0x20202020, n, number),
                    () -> model.feed(number, n, 0x20202020, n, number));
                both("count(5)", () -> x.count(5), () -> model.count(5));
            }
            used = CALLS_OF_ONE;
        }
    }

    private void boats() {
        for (int boat : BOATS) {
            for (int way : WAYS) {
                for (int p : POINTS) {
                    for (int q : POINTS) {
                        ready();
                        both("place(" + boat + ", " + p + ", " + q + ", " + way + ")", () -> x.place(boat, p, q, way),
                            () -> model.place(boat, p, q, way));
                    }
                }
            }
            for (int other : BOATS) {
                ready();
                both("clear(" + boat + ", " + other + ")", () -> x.clear(boat, other), () -> model.clear(boat, other));
            }
        }
    }

    private void races() {
        for (int boat : BOATS) {
            for (int race : RACES) {
                ready();
                both("points(" + boat + ", " + race + ")", () -> x.points(boat, race), () -> model.points(boat, race));
            }
            ready();
            both("score(" + boat + ")", () -> x.score(boat), () -> model.score(boat));
            both("finish(" + boat + ")", () -> x.finish(boat), () -> model.finish(boat));
            both("finish(" + boat + ")", () -> x.finish(boat), () -> model.finish(boat));
            both("rank(" + boat + ")", () -> x.rank(boat), () -> model.rank(boat));
            both("end()", () -> x.end(), () -> model.end());
        }
    }

    private void fleetsAndLots() {
        for (int n : BOATS) {
            for (int k : BOATS) {
                ready();
                both("part(" + n + ")", () -> x.part(n), () -> model.part(n));
                both("promote(" + k + ")", () -> x.promote(k), () -> model.promote(k));
                both("fleet(" + k + ")", () -> x.fleet(k), () -> model.fleet(k));
            }
        }
        for (int v : NUMBERS) {
            for (int k : BOATS) {
                ready();
                both("noise(" + v + ")", () -> x.noise(v), () -> model.noise(v));
                both("draw()", () -> x.draw(), () -> model.draw());
                both("lot(" + k + ")", () -> x.lot(k), () -> model.lot(k));
            }
        }
        for (int what : SMALL) {
            ready();
            both("count(" + what + ")", () -> x.count(what), () -> model.count(what));
        }
    }
}
