/** Promises 16 to 18: boats and their rights of way. */
public final class BoatTest {
    private static final Check C = new Check();

    public static void main(String[] args) {
        boat();
        place();
        starboard();
        leeward();
        ahead();
        firstThatApplies();
        withoutRights();
        clearEdges();
        C.end();
    }

    private static IceRegatta two(String rule) {
        IceRegatta x = Check.with(2);
        Check.tell(x, rule);
        return x;
    }

    private static void boat() {
        C.part("promise 16");
        IceRegatta x = new IceRegatta();
        for (int i = 0; i < 16; i++) {
            C.due(i, () -> x.boat());
        }
        C.due(Check.STATE, () -> x.boat());
        C.due(16, () -> x.count(0));
        C.due(0, () -> x.place(15, 0, 0, 0));
        C.due(Check.BOUNDS, () -> x.place(16, 0, 0, 0));
    }

    private static void place() {
        C.part("promise 17");
        IceRegatta x = two("");
        int[] tacks = {0, 1, 1, 1, 0, 2, 2, 2};
        for (int wind = 0; wind < 8; wind++) {
            x.wind(wind);
            for (int way = 0; way < 8; way++) {
                int w = way;
                C.due(tacks[(wind - way + 8) % 8], () -> x.place(1, 5, 5, w));
            }
        }
        C.due(Check.BOUNDS, () -> x.place(2, 0, 0, 0));
        C.due(Check.BOUNDS, () -> x.place(-1, 0, 0, 0));
        C.due(Check.BOUNDS, () -> x.place(2, -1, 0, 9));
        C.due(Check.ARGUMENT, () -> x.place(1, -1, 0, 0));
        C.due(Check.ARGUMENT, () -> x.place(1, 1001, 0, 0));
        C.due(Check.ARGUMENT, () -> x.place(1, 0, -1, 0));
        C.due(Check.ARGUMENT, () -> x.place(1, 0, 1001, 0));
        C.due(Check.ARGUMENT, () -> x.place(1, 0, 0, -1));
        C.due(Check.ARGUMENT, () -> x.place(1, 0, 0, 8));
        x.wind(0);
        C.due(0, () -> x.place(1, 1000, 1000, 0));
        C.due(0, () -> x.place(1, 0, 0, 4));
    }

    private static void starboard() {
        C.part("promise 18");
        IceRegatta x = two("way starboard;");
        x.wind(0);
        x.place(0, 0, 0, 7);
        x.place(1, 0, 0, 1);
        C.due(1, () -> x.clear(0, 1));
        C.due(1, () -> x.clear(1, 0));
        x.place(0, 0, 0, 3);
        x.place(1, 0, 0, 5);
        C.due(0, () -> x.clear(0, 1));
        x.wind(4);
        C.due(1, () -> x.clear(0, 1));
        x.place(0, 0, 9, 6);
        C.due(-1, () -> x.clear(0, 1));
        x.place(1, 0, 0, 4);
        C.due(-1, () -> x.clear(0, 1));
    }

    private static void leeward() {
        C.part("promise 18");
        IceRegatta x = two("way leeward;");
        x.place(0, 10, 400, 7);
        x.place(1, 900, 300, 6);
        C.due(1, () -> x.clear(0, 1));
        C.due(1, () -> x.clear(1, 0));
        x.place(0, 10, 300, 7);
        C.due(-1, () -> x.clear(0, 1));
        x.place(0, 10, 299, 5);
        C.due(0, () -> x.clear(0, 1));
        x.place(0, 10, 299, 3);
        C.due(-1, () -> x.clear(0, 1));
        x.place(0, 10, 299, 0);
        x.place(1, 10, 300, 0);
        C.due(-1, () -> x.clear(0, 1));
        x.place(0, 10, 299, 4);
        C.due(-1, () -> x.clear(0, 1));
        x.wind(3);
        x.place(0, 500, 300, 1);
        x.place(1, 400, 401, 2);
        C.due(1, () -> x.clear(0, 1));
        x.place(1, 400, 400, 2);
        C.due(-1, () -> x.clear(0, 1));
        x.wind(7);
        x.place(0, 500, 300, 5);
        x.place(1, 400, 401, 6);
        C.due(0, () -> x.clear(0, 1));
    }

    private static void ahead() {
        C.part("promise 18");
        IceRegatta x = two("way ahead;");
        x.place(0, 100, 100, 2);
        x.place(1, 101, 0, 2);
        C.due(0, () -> x.clear(0, 1));
        C.due(0, () -> x.clear(1, 0));
        x.place(1, 100, 900, 2);
        C.due(-1, () -> x.clear(0, 1));
        x.place(1, 99, 900, 2);
        C.due(1, () -> x.clear(0, 1));
        x.place(1, 101, 0, 1);
        C.due(-1, () -> x.clear(0, 1));
        x.place(0, 100, 100, 0);
        x.place(1, 100, 101, 0);
        C.due(1, () -> x.clear(0, 1));
        x.place(0, 100, 100, 5);
        x.place(1, 101, 102, 5);
        C.due(0, () -> x.clear(0, 1));
    }

    private static void firstThatApplies() {
        C.part("promise 18");
        IceRegatta x = two("way leeward ahead;");
        x.place(0, 500, 100, 2);
        x.place(1, 400, 200, 2);
        C.due(0, () -> x.clear(0, 1));
        Check.tell(x, "way ahead leeward;");
        C.due(1, () -> x.clear(0, 1));
        x.place(1, 500, 200, 2);
        C.due(0, () -> x.clear(0, 1));
        Check.tell(x, "way starboard ahead leeward;");
        C.due(0, () -> x.clear(0, 1));
        x.place(1, 500, 200, 6);
        C.due(0, () -> x.clear(0, 1));
        Check.tell(x, "way ahead leeward;");
        C.due(-1, () -> x.clear(0, 1));
    }

    private static void withoutRights() {
        C.part("promise 18");
        IceRegatta x = Check.with(2);
        x.place(0, 0, 0, 7);
        x.place(1, 0, 0, 1);
        C.due(-1, () -> x.clear(0, 1));
        Check.tell(x, "ice 5;");
        C.due(-1, () -> x.clear(0, 1));
        Check.tell(x, "way leeward starboard;");
        C.due(1, () -> x.clear(0, 1));
        Check.tell(x, "ice 5;");
        C.due(-1, () -> x.clear(0, 1));
        Check.tell(x, "way starboard;");
        C.due(1, () -> x.clear(0, 1));
        Check.tell(x, "");
        C.due(-1, () -> x.clear(0, 1));
    }

    private static void clearEdges() {
        C.part("promise 18");
        IceRegatta x = two("");
        x.place(0, 500, 100, 2);
        x.place(1, 400, 200, 2);
        C.due(-1, () -> x.clear(0, 1));
        Check.tell(x, "way starboard leeward ahead;");
        C.due(0, () -> x.clear(0, 1));
        C.due(-1, () -> x.clear(1, 1));
        C.due(Check.BOUNDS, () -> x.clear(0, 2));
        C.due(Check.BOUNDS, () -> x.clear(2, 0));
        C.due(Check.BOUNDS, () -> x.clear(-1, 0));
        C.due(Check.BOUNDS, () -> x.clear(0, -1));
        C.due(Check.BOUNDS, () -> x.clear(2, 2));
        x.boat();
        x.boat();
        C.due(-1, () -> x.clear(2, 3));
        x.place(2, 0, 1, 0);
        C.due(2, () -> x.clear(2, 3));
    }
}
