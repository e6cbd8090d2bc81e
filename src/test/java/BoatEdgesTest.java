/** The boundary cases that the terms of BOATS and promises 16 to 18 name, sentence by sentence. */
public final class BoatEdgesTest {
    private static final Check C = new Check();

    public static void main(String[] args) {
        sixteenBoats();
        refusedBoatDoesNothing();
        placeBoat();
        placePoint();
        placeWay();
        placeAtFirst();
        refusedPlace();
        tackByWhatIsLeft();
        starboardAgainstPort();
        leewardOnOneTack();
        leewardFurther();
        aheadOnOneWay();
        aheadLessFar();
        firstRightThatApplies();
        lastRightThatApplies();
        noRightApplies();
        bothAreOne();
        clearBoats();
        C.end();
    }

    private static IceRegatta two(String rule) {
        IceRegatta x = Check.with(2);
        Check.tell(x, rule);
        return x;
    }

    private static void sixteenBoats() {
        C.part("BOATS, numbered from 0 on, 16 at most; promise 16: IllegalStateException: there are 16");
        IceRegatta x = new IceRegatta();
        for (int boat = 0; boat < 16; boat++) {
            int number = boat;
            C.due(number, () -> x.count(0));
            C.due(number, () -> x.boat());
        }
        C.due(16, () -> x.count(0));
        C.due(Check.STATE, () -> x.boat());
        C.due(Check.STATE, () -> x.boat());
        C.due(16, () -> x.count(0));
    }

    private static void refusedBoatDoesNothing() {
        C.part("promise 16: a refused boat()");
        IceRegatta x = Check.with(16);
        x.place(15, 1000, 1000, 7);
        C.due(Check.STATE, () -> x.boat());
        C.due(Check.BOUNDS, () -> x.place(16, 0, 0, 0));
        C.due(Check.BOUNDS, () -> x.fleet(16));
        C.due(-1, () -> x.rank(16));
        C.due("15", () -> "" + x.rank(15));
        Check.tell(x, "way ahead;");
        x.place(14, 1000, 999, 7);
        C.due(15, () -> x.clear(14, 15));
    }

    private static void placeBoat() {
        C.part("promise 17: IndexOutOfBoundsException: no such BOAT (so below)");
        C.due(Check.BOUNDS, () -> new IceRegatta().place(0, 0, 0, 0));
        for (int boats : new int[] {1, 2, 15, 16}) {
            IceRegatta x = Check.with(boats);
            C.takes(0, boats - 1, Check.BOUNDS, boat -> x.place(boat, 0, 0, 0));
            C.takes(0, boats - 1, Check.BOUNDS, boat -> x.place(boat, 1000, 1000, 7));
            C.due(Check.BOUNDS, () -> x.place(boats, 1001, -1, 8));
            C.due(Check.BOUNDS, () -> x.place(-1, -1, 1001, -1));
        }
    }

    private static void placePoint() {
        C.part("at a point (0 to 1,000 each); promise 17: IllegalArgumentException: the point");
        IceRegatta x = Check.with(1);
        C.takes(0, 1000, Check.ARGUMENT, p -> x.place(0, p, 0, 0));
        C.takes(0, 1000, Check.ARGUMENT, p -> x.place(0, p, 1000, 7));
        C.takes(0, 1000, Check.ARGUMENT, p -> x.place(0, 0, p, 0));
        C.takes(0, 1000, Check.ARGUMENT, p -> x.place(0, 1000, p, 7));
        C.due(Check.ARGUMENT, () -> x.place(0, 1001, 1001, 8));
        C.due(Check.ARGUMENT, () -> x.place(0, -1, -1, -1));
    }

    private static void placeWay() {
        C.part("promise 17: IllegalArgumentException: .. the WAY");
        IceRegatta x = Check.with(1);
        C.takes(0, 7, Check.ARGUMENT, way -> x.place(0, 0, 0, way));
        C.takes(0, 7, Check.ARGUMENT, way -> x.place(0, 1000, 1000, way));
    }

    private static void placeAtFirst() {
        C.part("promise 17: A BOAT is at a point ((0, 0) at first) and goes by a WAY (0 at first)");
        for (int way = 0; way < 8; way++) {
            IceRegatta x = two("way ahead;");
            int w = way;
            x.place(1, 0, 0, w);
            C.due(-1, () -> x.clear(0, 1));
            x.place(1, 0, 1, w);
            // Only by WAY 0 the other goes as a new one does; the farther down, the less far by it.
            C.due(w == 0 ? 1 : -1, () -> x.clear(0, 1));
        }
        IceRegatta x = two("way starboard leeward ahead;");
        C.due(-1, () -> x.clear(0, 1));
        for (int wind = 1; wind < 8; wind++) {
            x.wind(wind);
            C.due(-1, () -> x.clear(0, 1));
        }
        x.wind(2);
        x.place(1, 1, 0, 0);
        C.due(1, () -> x.clear(0, 1));
    }

    private static void refusedPlace() {
        C.part("promise 17: a refused place()");
        IceRegatta x = two("way ahead;");
        x.place(0, 500, 500, 3);
        x.place(1, 501, 500, 3);
        C.due(0, () -> x.clear(0, 1));
        C.due(Check.ARGUMENT, () -> x.place(0, 1001, 700, 3));
        C.due(Check.ARGUMENT, () -> x.place(0, 700, 1001, 3));
        C.due(Check.ARGUMENT, () -> x.place(0, 700, 700, 8));
        C.due(Check.ARGUMENT, () -> x.place(0, -1, 700, 2));
        C.due(Check.ARGUMENT, () -> x.place(0, 700, -1, 2));
        C.due(Check.ARGUMENT, () -> x.place(0, 700, 700, -1));
        C.due(Check.BOUNDS, () -> x.place(2, 700, 700, 3));
        C.due(0, () -> x.clear(0, 1));
        x.place(1, 500, 500, 3);
        C.due(-1, () -> x.clear(0, 1));
        x.place(1, 499, 500, 3);
        C.due(1, () -> x.clear(0, 1));
    }

    private static void tackByWhatIsLeft() {
        C.part("TACK: by the WIND's WAY less the boat's, by 8 what is left: 1 to 3 STARBOARD, 5 to 7 PORT, else none");
        // A row for each wind, a digit for each way of the boat.
        String[] tacks = {"02220111", "10222011", "11022201", "11102220", "01110222", "20111022", "22011102", "22201110"};
        IceRegatta x = Check.with(16);
        for (int wind = 0; wind < 8; wind++) {
            x.wind(wind);
            for (int way = 0; way < 8; way++) {
                int due = tacks[wind].charAt(way) - '0';
                int w = way;
                C.due(due, () -> x.place(0, 0, 0, w));
                C.due(due, () -> x.place(15, 1000, 1000, w));
            }
        }
    }

    private static void starboardAgainstPort() {
        C.part("starboard: one is on STARBOARD, the other on PORT: this one");
        String tacks = "02220111";
        for (int way = 0; way < 8; way++) {
            for (int other = 0; other < 8; other++) {
                IceRegatta x = two("way starboard;");
                x.place(0, 0, 1000, way);
                x.place(1, 1000, 0, other);
                char a = tacks.charAt(way);
                char b = tacks.charAt(other);
                int due = a == '2' && b == '1' ? 0 : a == '1' && b == '2' ? 1 : -1;
                C.due(due, () -> x.clear(0, 1));
                C.due(due, () -> x.clear(1, 0));
            }
        }
    }

    private static void leewardOnOneTack() {
        C.part("leeward: both on one TACK");
        String tacks = "02220111";
        for (int way = 0; way < 8; way++) {
            for (int other = 0; other < 8; other++) {
                IceRegatta x = two("way leeward;");
                x.place(0, 0, 500, way);
                x.place(1, 0, 499, other);
                boolean isOne = tacks.charAt(way) == tacks.charAt(other) && tacks.charAt(way) != '0';
                C.due(isOne ? 1 : -1, () -> x.clear(0, 1));
                C.due(isOne ? 1 : -1, () -> x.clear(1, 0));
            }
        }
    }

    private static void leewardFurther() {
        C.part("one further than the other to where the WIND comes from (its point times the WIND's way is more): this one");
        int[][] more = {{0, -1}, {1, -1}, {1, 0}, {1, 1}, {0, 1}, {-1, 1}, {-1, 0}, {-1, -1}};
        for (int wind = 0; wind < 8; wind++) {
            IceRegatta x = two("way leeward;");
            x.wind(wind);
            int way = (wind + 2) % 8;
            x.place(0, 500, 500, way);
            // By as little as can be to the wind, away from it, and across it.
            x.place(1, 500 + more[wind][0], 500 + more[wind][1], way);
            C.due(1, () -> x.clear(0, 1));
            x.place(1, 500 - more[wind][0], 500 - more[wind][1], way);
            C.due(0, () -> x.clear(0, 1));
            x.place(1, 500 + 500 * more[wind][1], 500 - 500 * more[wind][0], way);
            C.due(-1, () -> x.clear(0, 1));
            x.place(1, 500, 500, way);
            C.due(-1, () -> x.clear(0, 1));
        }
        IceRegatta corners = two("way leeward;");
        corners.wind(3);
        corners.place(0, 1000, 1000, 1);
        corners.place(1, 0, 0, 1);
        C.due(0, () -> corners.clear(0, 1));
        corners.wind(7);
        corners.place(0, 1000, 1000, 5);
        corners.place(1, 0, 0, 5);
        C.due(1, () -> corners.clear(0, 1));
    }

    private static void aheadOnOneWay() {
        C.part("ahead: both go by one WAY");
        for (int way = 0; way < 8; way++) {
            for (int other = 0; other < 8; other++) {
                IceRegatta x = two("way ahead;");
                x.place(0, 10, 999, way);
                x.place(1, 999, 500, other);
                int[] due = {0, 0, 0, 0, 1, 1, 1, 1};
                int w = way;
                boolean isOne = way == other;
                C.due(isOne ? due[w] : -1, () -> x.clear(0, 1));
                C.due(isOne ? due[w] : -1, () -> x.clear(1, 0));
            }
        }
    }

    private static void aheadLessFar() {
        C.part("one is less far by it than the other one: this one");
        int[][] more = {{0, -1}, {1, -1}, {1, 0}, {1, 1}, {0, 1}, {-1, 1}, {-1, 0}, {-1, -1}};
        for (int way = 0; way < 8; way++) {
            IceRegatta x = two("way ahead;");
            x.place(0, 500, 500, way);
            x.place(1, 500 + more[way][0], 500 + more[way][1], way);
            C.due(0, () -> x.clear(0, 1));
            C.due(0, () -> x.clear(1, 0));
            x.place(1, 500 - more[way][0], 500 - more[way][1], way);
            C.due(1, () -> x.clear(0, 1));
            x.place(1, 500 + 500 * more[way][1], 500 - 500 * more[way][0], way);
            C.due(-1, () -> x.clear(0, 1));
            x.place(1, 500, 500, way);
            C.due(-1, () -> x.clear(0, 1));
        }
    }

    private static void firstRightThatApplies() {
        C.part("who must KEEP CLEAR tells the first W of the RULE that applies");
        // On one tack and one way: 1 is further to the wind, 0 is less far by the way.
        IceRegatta x = two("");
        x.place(0, 500, 500, 2);
        x.place(1, 501, 499, 2);
        String[] rules = {"way leeward ahead;", "way ahead leeward;", "way starboard leeward ahead;", "way starboard ahead leeward;",
            "way leeward starboard ahead;", "way ahead starboard leeward;", "way starboard;", "way leeward;", "way ahead;"};
        int[] due = {1, 0, 1, 0, 1, 0, -1, 1, 0};
        for (int i = 0; i < rules.length; i++) {
            Check.tell(x, rules[i]);
            int keeper = due[i];
            C.due(keeper, () -> x.clear(0, 1));
            C.due(keeper, () -> x.clear(1, 0));
        }
    }

    private static void lastRightThatApplies() {
        C.part("the first W of the RULE that applies: also the third one");
        IceRegatta x = two("way starboard leeward ahead;");
        // On no tack, by one way: only "ahead" applies.
        x.place(0, 500, 500, 4);
        x.place(1, 500, 501, 4);
        C.due(0, () -> x.clear(0, 1));
        Check.tell(x, "way leeward starboard ahead;");
        C.due(0, () -> x.clear(0, 1));
        // On one tack, by two ways: only "leeward" applies.
        x.place(0, 500, 500, 2);
        x.place(1, 500, 501, 3);
        for (String rule : new String[] {"way starboard ahead leeward;", "way ahead starboard leeward;"}) {
            Check.tell(x, rule);
            C.due(0, () -> x.clear(0, 1));
        }
        // On two tacks: only "starboard" applies.
        x.place(1, 500, 501, 6);
        for (String rule : new String[] {"way leeward ahead starboard;", "way ahead leeward starboard;"}) {
            Check.tell(x, rule);
            C.due(0, () -> x.clear(0, 1));
        }
        Check.tell(x, "way ahead leeward;");
        C.due(-1, () -> x.clear(0, 1));
    }

    private static void noRightApplies() {
        C.part("promise 18: NONE: no W applies");
        IceRegatta x = two("");
        x.place(0, 500, 500, 7);
        x.place(1, 501, 499, 1);
        C.due(-1, () -> x.clear(0, 1));
        Check.tell(x, "way leeward ahead;");
        C.due(-1, () -> x.clear(0, 1));
        Check.tell(x, "way leeward ahead starboard;");
        C.due(1, () -> x.clear(0, 1));
        x.wind(1);
        C.due(-1, () -> x.clear(0, 1));
        Check.tell(x, "ice 1;drop 1 from 1;");
        x.wind(0);
        C.due(-1, () -> x.clear(0, 1));
    }

    private static void bothAreOne() {
        C.part("promise 18: NONE: .. or both are one");
        IceRegatta x = Check.with(16);
        Check.tell(x, "way starboard leeward ahead;");
        for (int boat = 0; boat < 16; boat++) {
            int b = boat;
            x.place(b, 10 * b, 1000 - 10 * b, b % 8);
            C.due(-1, () -> x.clear(b, b));
        }
    }

    private static void clearBoats() {
        C.part("promise 18: IndexOutOfBoundsException: no such BOAT");
        C.due(Check.BOUNDS, () -> new IceRegatta().clear(0, 0));
        for (int boats : new int[] {1, 2, 15, 16}) {
            IceRegatta x = Check.with(boats);
            C.takes(0, boats - 1, Check.BOUNDS, boat -> x.clear(boat, 0));
            C.takes(0, boats - 1, Check.BOUNDS, boat -> x.clear(0, boat));
            C.due(Check.BOUNDS, () -> x.clear(boats, boats));
            C.due(Check.BOUNDS, () -> x.clear(-1, -1));
            C.due(Check.BOUNDS, () -> x.clear(boats, boats - 1));
        }
    }
}
