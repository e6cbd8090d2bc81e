/** Promises 19 to 23: races, points, score and rank. */
public final class RaceTest {
    private static final Check C = new Check();

    public static void main(String[] args) {
        finish();
        end();
        points();
        score();
        rank();
        rankByLaterRaces();
        C.end();
    }

    private static String ranks(IceRegatta x) {
        StringBuilder all = new StringBuilder();
        for (int k = 0; k < x.count(0); k++) {
            all.append(x.rank(k)).append(' ');
        }
        return all.toString().trim();
    }

    private static void finish() {
        C.part("promise 19");
        IceRegatta x = Check.with(3);
        C.due(1, () -> x.finish(2));
        C.due(-1, () -> x.finish(2));
        C.due(2, () -> x.finish(0));
        C.due(2, () -> x.count(6));
        C.due(Check.BOUNDS, () -> x.finish(3));
        C.due(Check.BOUNDS, () -> x.finish(-1));
        C.due(3, () -> x.boat());
        C.due(3, () -> x.finish(3));
        C.due(0, () -> x.end());
        C.due(0, () -> x.count(6));
        C.due(1, () -> x.finish(2));
        for (int race = 1; race < 20; race++) {
            x.end();
        }
        C.due(-2, () -> x.finish(2));
        C.due(Check.BOUNDS, () -> x.finish(4));
        C.due(0, () -> x.count(6));
    }

    private static void end() {
        C.part("promise 20");
        IceRegatta x = Check.with(0);
        C.due(-1, () -> x.end());
        C.due(0, () -> x.count(1));
        x.boat();
        for (int race = 0; race < 20; race++) {
            int r = race;
            C.due(r, () -> x.end());
            C.due(r + 1, () -> x.count(1));
        }
        C.due(-1, () -> x.end());
        C.due(20, () -> x.count(1));
        C.due(2, () -> x.points(0, 19));
    }

    private static void points() {
        C.part("promise 21");
        IceRegatta x = Check.with(3);
        Check.race(x, 2, 0);
        C.due(2, () -> x.points(0, 0));
        C.due(4, () -> x.points(1, 0));
        C.due(1, () -> x.points(2, 0));
        x.boat();
        x.boat();
        C.due(4, () -> x.points(3, 0));
        C.due(4, () -> x.points(4, 0));
        x.finish(4);
        x.boat();
        C.due(Check.BOUNDS, () -> x.points(0, 1));
        C.due(1, () -> x.end());
        C.due(1, () -> x.points(4, 1));
        C.due(7, () -> x.points(0, 1));
        C.due(7, () -> x.points(5, 1));
        C.due(Check.BOUNDS, () -> x.points(6, 0));
        C.due(Check.BOUNDS, () -> x.points(-1, 0));
        C.due(Check.BOUNDS, () -> x.points(0, 2));
        C.due(Check.BOUNDS, () -> x.points(0, -1));
        IceRegatta full = Check.with(16);
        Check.race(full, 15);
        C.due(17, () -> full.points(0, 0));
        C.due(1, () -> full.points(15, 0));
    }

    private static void score() {
        C.part("promise 22");
        IceRegatta x = Check.with(3);
        C.due(0, () -> x.score(0));
        Check.race(x, 0, 1, 2);
        Check.race(x, 1, 0);
        Check.race(x, 0);
        C.due(4, () -> x.score(0));
        C.due(7, () -> x.score(1));
        C.due(11, () -> x.score(2));
        Check.tell(x, "drop 1 from 4;");
        C.due(4, () -> x.score(0));
        Check.tell(x, "drop 1 from 3;");
        C.due(2, () -> x.score(0));
        C.due(3, () -> x.score(1));
        C.due(7, () -> x.score(2));
        Check.tell(x, "drop 2 from 0;");
        C.due(1, () -> x.score(0));
        C.due(1, () -> x.score(1));
        C.due(3, () -> x.score(2));
        Check.tell(x, "drop 3 from 1;");
        C.due(0, () -> x.score(2));
        Check.tell(x, "drop 5000 from 0;");
        C.due(0, () -> x.score(2));
        Check.tell(x, "drop 0 from 0;");
        C.due(11, () -> x.score(2));
        x.boat();
        C.due(12, () -> x.score(3));
        C.due(Check.BOUNDS, () -> x.score(4));
        C.due(Check.BOUNDS, () -> x.score(-1));
        IceRegatta long20 = Check.with(16);
        for (int race = 0; race < 20; race++) {
            Check.race(long20);
        }
        C.due(340, () -> long20.score(7));
        Check.tell(long20, "drop 19 from 20;");
        C.due(17, () -> long20.score(7));
        IceRegatta unlike = Check.with(16);
        Check.race(unlike, 0);
        Check.race(unlike, 0);
        Check.tell(unlike, "drop 1 from 2;");
        C.due(17, () -> unlike.score(7));
        C.due(1, () -> unlike.score(0));
    }

    private static void rank() {
        C.part("promise 23");
        IceRegatta x = Check.with(4);
        C.due("0 1 2 3", () -> ranks(x));
        Check.race(x, 3, 1, 0, 2);
        C.due("3 1 0 2", () -> ranks(x));
        C.due(-1, () -> x.rank(4));
        C.due(-1, () -> x.rank(-1));
        C.due(-1, () -> x.rank(Integer.MAX_VALUE));
        C.due(-1, () -> x.rank(Integer.MIN_VALUE));
        Check.race(x, 2);
        C.due("2 3 1 0", () -> ranks(x));
        Check.tell(x, "drop 1 from 2;");
        C.due("2 3 1 0", () -> ranks(x));
        Check.race(x, 0, 3);
        C.due("3 0 2 1", () -> ranks(x));
        x.boat();
        C.due("3 0 2 1 4", () -> ranks(x));
    }

    private static void rankByLaterRaces() {
        C.part("promise 23");
        IceRegatta x = Check.with(3);
        Check.race(x, 0, 1, 2);
        Check.race(x, 2, 1, 0);
        C.due("2 1 0", () -> ranks(x));
        Check.race(x);
        C.due("2 1 0", () -> ranks(x));
        Check.race(x, 1, 0, 2);
        Check.race(x, 2, 0, 1);
        C.due("12 12 12", () -> x.score(0) + " " + x.score(1) + " " + x.score(2));
        C.due("2 0 1", () -> ranks(x));
        IceRegatta allDropped = Check.with(3);
        Check.tell(allDropped, "drop 9 from 1;");
        Check.race(allDropped, 2, 1, 0);
        C.due("2 1 0", () -> ranks(allDropped));
        Check.race(allDropped);
        C.due("2 1 0", () -> ranks(allDropped));
        Check.race(allDropped, 1);
        C.due("1 2 0", () -> ranks(allDropped));
        IceRegatta unfinished = Check.with(16);
        Check.race(unfinished);
        C.due("0 1 2 3 4 5 6 7 8 9 10 11 12 13 14 15", () -> ranks(unfinished));
        Check.race(unfinished, 15);
        Check.race(unfinished, 14);
        C.due("14 15 0 1 2 3 4 5 6 7 8 9 10 11 12 13", () -> ranks(unfinished));
    }
}
