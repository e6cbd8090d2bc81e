/** Refused calls, and calls that only tell, leave all as it was; each is tried on objects that are new, half full and full. */
public final class StateTest {
    private static final Check C = new Check();
    private static final int LEAST = Integer.MIN_VALUE;
    private static final int MOST = Integer.MAX_VALUE;

    private static State.Maker maker;
    private static String before;

    public static void main(String[] args) {
        State.Maker[] makers = {IceRegatta::new, StateTest::half, StateTest::full, StateTest::thawed};
        String[] names = {"a new object", "a half full object", "a full object", "a thawed lake"};
        for (int i = 0; i < makers.length; i++) {
            maker = makers[i];
            before = State.of(maker);
            C.part(names[i]);
            refusedOnTheLake();
            refusedOfTheCourse();
            refusedOfTheRule();
            refusedOfBoats();
            refusedOfRaces();
            refusedOfFleets();
            callsThatOnlyTell();
        }
        whereNothingIs();
        whereAllIsFull();
        whereSomethingLacks();
        whatChangesIsSeen();
        placesAreSeen();
        C.end();
    }

    /** 5 boats, 3 races and one that is on, a rule and a later fault, a course, lots, noise and a tape. */
    private static IceRegatta half() {
        IceRegatta x = Check.with(5);
        for (int y = 0; y < 12; y += 2) {
            x.soundRow(y, 200 + y, 30 + y);
        }
        x.sound(143, 4000, 1500);
        x.crack(27, true);
        x.crack(100, true);
        x.wind(2);
        x.course();
        for (int boat = 0; boat < 5; boat++) {
            x.place(boat, 200 * boat, 900 - 100 * boat, 3 * boat % 8);
        }
        Check.race(x, 4, 2, 0);
        Check.race(x, 1);
        Check.race(x, 3, 4, 2, 1);
        Check.tell(x, "ice 165;drop 1 from 2;way leeward ahead starboard;");
        Check.tell(x, "   what");
        x.finish(3);
        x.finish(0);
        x.part(2);
        fillNoise(x, 4);
        x.draw();
        fillNoise(x, 3);
        Check.feed(x, "ice 7;ice 8; way ahead;   drop 1 from 2;");
        return x;
    }

    /** As many of all as there may be. */
    private static IceRegatta full() {
        IceRegatta x = Check.with(16);
        for (int y = 0; y < 12; y++) {
            x.soundRow(y, 5000 - y, y);
        }
        x.crack(0, true);
        x.crack(143, true);
        x.wind(7);
        x.course();
        for (int boat = 0; boat < 16; boat++) {
            x.place(boat, 1000 - 60 * boat, 7 * boat, boat % 8);
        }
        for (int race = 0; race < 20; race++) {
            Check.race(x, race % 16, (race + 5) % 16);
        }
        Check.tell(x, "ice 4980;drop 3 from 20;way ahead leeward;" + "ice 4990;".repeat(7));
        x.part(7);
        fillNoise(x, 15);
        x.draw();
        fillNoise(x, 20);
        Check.feed(x, "ice 7; drop 1 from 2; way ahead;".repeat(6));
        return x;
    }

    /** A course, but no LEG any more. */
    private static IceRegatta thawed() {
        IceRegatta x = Check.with(2);
        x.soundRow(4, 160, 0);
        x.wind(6);
        x.course();
        x.hour(10);
        return x;
    }

    private static void fillNoise(IceRegatta x, int many) {
        for (int i = 0; i < many; i++) {
            x.noise(-1000003 * i - 1);
        }
    }

    private static void stays(Object want, State.Use use) {
        C.due(want, () -> use.on(maker.make()));
        if (!State.of(maker, use).equals(before)) {
            C.fail(" the state is another one");
        }
    }

    /** A call that is refused, if at all, by one of the document's exceptions, and that changes nothing. */
    private static void onlyTells(State.Use use) {
        if (!State.of(maker, use).equals(before)) {
            C.fail(" the state is another one");
        }
        C.due(true, () -> {
            String answer = Check.answerOf(() -> use.on(maker.make()));
            return !answer.startsWith("throws.") || answer.equals(Check.BOUNDS) || answer.equals(Check.ARGUMENT);
        });
    }

    private static void refusedOnTheLake() {
        for (int cell : new int[] {-1, 144, LEAST, MOST}) {
            stays(Check.BOUNDS, x -> x.sound(cell, 10, 10));
            stays(Check.BOUNDS, x -> x.crack(cell, true));
            stays(Check.BOUNDS, x -> x.crack(cell, false));
            stays(Check.BOUNDS, x -> x.ice(cell, 0));
            stays(Check.BOUNDS, x -> x.lasts(cell, 0));
        }
        for (int y : new int[] {-1, 12, LEAST, MOST}) {
            stays(Check.BOUNDS, x -> x.soundRow(y, 10, 10));
        }
        for (int n : new int[] {-1, 5001, LEAST, MOST}) {
            stays(Check.ARGUMENT, x -> x.sound(27, n, 10));
            stays(Check.ARGUMENT, x -> x.sound(27, 10, n));
            stays(Check.ARGUMENT, x -> x.soundRow(4, n, 10));
            stays(Check.ARGUMENT, x -> x.soundRow(4, 10, n));
        }
        for (int t : new int[] {-41, 21, LEAST, MOST}) {
            stays(Check.ARGUMENT, x -> x.hour(t));
            stays(Check.ARGUMENT, x -> x.lasts(27, t));
        }
        stays(Check.ARGUMENT, x -> x.ice(27, 3));
        stays(Check.ARGUMENT, x -> x.ice(27, -1));
    }

    private static void refusedOfTheCourse() {
        for (int way : new int[] {-1, 8, LEAST, MOST}) {
            stays(Check.ARGUMENT, x -> x.wind(way));
        }
        for (int least : new int[] {0, -1, 12, LEAST, MOST}) {
            stays(Check.ARGUMENT, x -> x.move(least));
        }
        for (int which : new int[] {-1, 2, LEAST, MOST}) {
            stays(Check.ARGUMENT, x -> x.mark(which));
        }
    }

    private static void refusedOfTheRule() {
        for (int n : new int[] {-1, 201, LEAST, MOST}) {
            stays(Check.ARGUMENT, x -> x.rule(n));
        }
        stays(Check.ARGUMENT, x -> x.rule(x.count(5) + 1));
    }

    private static void refusedOfBoats() {
        for (int boat : new int[] {-1, 16, LEAST, MOST}) {
            stays(Check.BOUNDS, x -> x.place(boat, 1, 1, 1));
            stays(Check.BOUNDS, x -> x.clear(boat, 0));
            stays(Check.BOUNDS, x -> x.clear(0, boat));
            stays(Check.BOUNDS, x -> x.finish(boat));
            stays(Check.BOUNDS, x -> x.points(boat, 0));
            stays(Check.BOUNDS, x -> x.score(boat));
            stays(Check.BOUNDS, x -> x.fleet(boat));
        }
        stays(Check.BOUNDS, x -> x.place(x.count(0), 1, 1, 1));
        stays(Check.BOUNDS, x -> x.finish(x.count(0)));
        if (maker.make().count(0) == 0) {
            return;
        }
        for (int n : new int[] {-1, 1001, LEAST, MOST}) {
            stays(Check.ARGUMENT, x -> x.place(1, n, 1, 1));
            stays(Check.ARGUMENT, x -> x.place(1, 1, n, 1));
        }
        for (int way : new int[] {-1, 8, LEAST, MOST}) {
            stays(Check.ARGUMENT, x -> x.place(1, 1, 1, way));
        }
    }

    private static void refusedOfRaces() {
        stays(Check.BOUNDS, x -> x.points(0, -1));
        stays(Check.BOUNDS, x -> x.points(0, x.count(1)));
        stays(Check.BOUNDS, x -> x.points(0, MOST));
        stays(Check.BOUNDS, x -> x.points(0, LEAST));
    }

    private static void refusedOfFleets() {
        for (int n : new int[] {-1, 17, LEAST, MOST}) {
            stays(Check.ARGUMENT, x -> x.part(n));
            stays(Check.ARGUMENT, x -> x.promote(n));
        }
        stays(0, x -> x.promote(0));
    }

    private static void callsThatOnlyTell() {
        for (int n : new int[] {LEAST, -1, 0, 1, 2, 3, 4, 5, 6, 7, 11, 15, 16, 19, 20, 143, 144, MOST}) {
            onlyTells(x -> x.ice(n, 0));
            onlyTells(x -> x.ice(n, 1));
            onlyTells(x -> x.ice(n, 2));
            onlyTells(x -> x.lasts(n, 20));
            onlyTells(x -> x.lasts(0, n));
            onlyTells(x -> x.lasts(n, -40));
            onlyTells(x -> x.mark(n));
            onlyTells(x -> x.clear(n, 0));
            onlyTells(x -> x.clear(1, n));
            onlyTells(x -> x.points(n, 0));
            onlyTells(x -> x.points(0, n));
            onlyTells(x -> x.score(n));
            onlyTells(x -> x.rank(n));
            onlyTells(x -> x.fleet(n));
            onlyTells(x -> x.lot(n));
            onlyTells(x -> x.count(n));
        }
        onlyTells(x -> x.holds());
        onlyTells(x -> x.fault());
    }

    private static void use(State.Maker other, String name) {
        maker = other;
        before = State.of(other);
        C.part(name);
    }

    private static void whereNothingIs() {
        use(IceRegatta::new, "a new object");
        stays(-1, x -> x.course());
        for (int least = 1; least <= 11; least++) {
            int l = least;
            stays(-1, x -> x.move(l));
        }
        stays(-1, x -> x.end());
        stays(-1, x -> x.draw());
        stays(0, x -> x.part(0));
        stays(0, x -> x.part(16));
        stays(0, x -> x.promote(16));
        stays(0, x -> x.rule(0));
        use(() -> {
            IceRegatta x = new IceRegatta();
            fillNoise(x, 20);
            return x;
        }, "noise without boats");
        stays(-1, x -> x.draw());
        stays(-1, x -> x.noise(5));
    }

    private static void whereAllIsFull() {
        use(StateTest::full, "a full object");
        stays(-1, x -> x.feed(-1, -1, -1, -1, -1));
        stays(-1, x -> x.feed(0x69636531, 0x3b202020, 0x20202020, 0x20202020, 0x20202020));
        stays(Check.STATE, x -> x.boat());
        for (int boat = 0; boat < 16; boat++) {
            int b = boat;
            stays(-2, x -> x.finish(b));
        }
        stays(-1, x -> x.end());
        stays(-1, x -> x.noise(0));
        stays(-1, x -> x.noise(-1));
    }

    private static void whereSomethingLacks() {
        use(StateTest::half, "a half full object");
        stays(-1, x -> x.finish(3));
        stays(-1, x -> x.finish(0));
        stays(-1, x -> x.draw());
        use(StateTest::thawed, "a thawed lake");
        stays(-1, x -> x.course());
        for (int least = 1; least <= 11; least++) {
            int l = least;
            stays(-1, x -> x.move(l));
        }
        stays(-1, x -> x.draw());
        stays(0, x -> x.promote(16));
        use(() -> {
            IceRegatta x = thawed();
            x.hour(-40);
            x.sound(48, 150, 0);
            x.sound(49, 150, 0);
            return x;
        }, "a lake with a short leg");
        for (int least = 2; least <= 11; least++) {
            int l = least;
            stays(-1, x -> x.move(l));
        }
    }

    /** That State sees a change at all, part by part. */
    private static void whatChangesIsSeen() {
        use(StateTest::half, "a change that State must see");
        State.Use[] changes = {
            x -> x.sound(143, 4000, 1501), x -> x.soundRow(1, 1, 1), x -> x.crack(143, true), x -> x.crack(27, false), x -> x.hour(-1),
            x -> x.wind(3), x -> x.wind(6) + x.course() + x.wind(2), x -> x.feed(0, 0, 0, 0, 0), x -> x.rule(0), x -> x.rule(6), x -> x.boat(),
            x -> x.place(1, 201, 800, 3), x -> x.place(1, 200, 801, 3), x -> x.place(1, 200, 800, 2), x -> x.finish(1), x -> x.end(), x -> x.part(3), x -> x.promote(1),
            x -> x.noise(5), x -> x.noise(5) + x.draw(),
        };
        for (int i = 0; i < changes.length; i++) {
            State.Use change = changes[i];
            String name = "change " + i;
            C.due(name + " false", () -> name + " " + State.of(maker, change).equals(before));
        }
    }

    private static void placesAreSeen() {
        C.part("a place that State must see");
        for (int way = 0; way < 8; way++) {
            for (int[] point : new int[][] {{0, 0}, {1000, 1000}, {0, 1000}, {1000, 0}, {500, 500}, {333, 777}}) {
                int w = way;
                String text = State.of(() -> {
                    IceRegatta x = Check.with(1);
                    x.place(0, point[0], point[1], w);
                    return x;
                });
                C.due(true, () -> text.contains("place of 0 " + point[0] + ", " + point[1] + " by " + w));
            }
        }
    }
}
