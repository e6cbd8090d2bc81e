/** The boundary cases that the terms of RACES, SCORE and RANK and promises 19 to 23 name, sentence by sentence. */
public final class RaceEdgesTest {
    private static final Check C = new Check();

    public static void main(String[] args) {
        finishBoat();
        finishPlaces();
        finishTwice();
        finishBehindTwentyRaces();
        endWithoutFinishers();
        endWithoutBoats();
        twentyRaces();
        endBeginsAnew();
        pointsByPlace();
        pointsWithoutFinish();
        pointsOfLaterBoats();
        pointsBoatAndRace();
        scoreWithoutRaces();
        scoreDropsWorst();
        scoreDropsFrom();
        scoreDropsAll();
        scoreAtMost();
        scoreBoat();
        rankNumber();
        rankByScore();
        rankByLatestRace();
        rankByNumber();
        C.end();
    }

    private static String ranks(IceRegatta x) {
        StringBuilder all = new StringBuilder();
        int boats = x.count(0);
        for (int k = 0; k < boats; k++) {
            all.append(x.rank(k)).append(' ');
        }
        return all.toString().trim();
    }

    private static IceRegatta ended(int boats, int races) {
        IceRegatta x = Check.with(boats);
        for (int race = 0; race < races; race++) {
            x.end();
        }
        return x;
    }

    private static void finishBoat() {
        C.part("promise 19: IndexOutOfBoundsException: no such BOAT");
        C.due(Check.BOUNDS, () -> new IceRegatta().finish(0));
        for (int boats : new int[] {1, 2, 15, 16}) {
            IceRegatta x = Check.with(boats);
            C.takes(0, boats - 1, Check.BOUNDS, boat -> x.finish(boat));
            C.due(Math.min(2, boats), () -> x.count(6));
        }
        IceRegatta over = ended(16, 20);
        C.takes(0, 15, Check.BOUNDS, boat -> over.finish(boat));
        IceRegatta x = Check.with(1);
        C.due(Check.BOUNDS, () -> x.finish(1));
        C.due(1, () -> x.boat());
        C.due(1, () -> x.finish(1));
    }

    private static void finishPlaces() {
        C.part("BOATS finish one by one; its place, from 1 on");
        IceRegatta x = Check.with(16);
        for (int place = 1; place <= 16; place++) {
            int p = place;
            C.due(p - 1, () -> x.count(6));
            C.due(p, () -> x.finish(16 - p));
        }
        C.due(16, () -> x.count(6));
        C.due(0, () -> x.end());
        C.due("1 16", () -> x.points(15, 0) + " " + x.points(0, 0));
    }

    private static void finishTwice() {
        C.part("promise 19: -1: it had");
        IceRegatta x = Check.with(3);
        C.due(1, () -> x.finish(2));
        C.due(-1, () -> x.finish(2));
        C.due(-1, () -> x.finish(2));
        C.due(1, () -> x.count(6));
        C.due(2, () -> x.finish(0));
        C.due(-1, () -> x.finish(2));
        C.due(-1, () -> x.finish(0));
        C.due(3, () -> x.finish(1));
        C.due(-1, () -> x.finish(1));
        C.due(0, () -> x.end());
        C.due("2 3 1", () -> x.points(0, 0) + " " + x.points(1, 0) + " " + x.points(2, 0));
        C.due(1, () -> x.finish(2));
        IceRegatta last = ended(1, 19);
        C.due(1, () -> last.finish(0));
        C.due(-1, () -> last.finish(0));
    }

    private static void finishBehindTwentyRaces() {
        C.part("promise 19: -2: there were 20 RACES");
        IceRegatta x = ended(2, 19);
        C.due(1, () -> x.finish(1));
        C.due(19, () -> x.end());
        C.due(-2, () -> x.finish(1));
        C.due(-2, () -> x.finish(0));
        C.due(-2, () -> x.finish(0));
        C.due(0, () -> x.count(6));
        C.due(2, () -> x.boat());
        C.due(-2, () -> x.finish(2));
        C.due("1 3 3", () -> x.points(1, 19) + " " + x.points(0, 19) + " " + x.points(2, 19));
    }

    private static void endWithoutFinishers() {
        C.part("promise 20: The RACE ends (also without any that finished)");
        IceRegatta x = Check.with(1);
        C.due(0, () -> x.end());
        C.due(2, () -> x.points(0, 0));
        IceRegatta full = Check.with(16);
        C.due(0, () -> full.end());
        for (int boat = 0; boat < 16; boat++) {
            int b = boat;
            C.due(17, () -> full.points(b, 0));
        }
    }

    private static void endWithoutBoats() {
        C.part("promise 20: -1: .. or there are no BOATS");
        IceRegatta x = new IceRegatta();
        C.due(-1, () -> x.end());
        C.due(-1, () -> x.end());
        C.due(0, () -> x.count(1));
        x.boat();
        C.due(0, () -> x.end());
        C.due(1, () -> x.count(1));
    }

    private static void twentyRaces() {
        C.part("RACES, 20 at most; promise 20: its number, from 0 on; -1: there were 20");
        IceRegatta x = Check.with(2);
        for (int race = 0; race < 20; race++) {
            int r = race;
            C.due(r, () -> x.count(1));
            x.finish(r % 2);
            C.due(r, () -> x.end());
        }
        C.due(20, () -> x.count(1));
        C.due(-1, () -> x.end());
        C.due(-1, () -> x.end());
        C.due(20, () -> x.count(1));
        for (int race = 0; race < 20; race++) {
            int r = race;
            C.due(1, () -> x.points(r % 2, r));
            C.due(3, () -> x.points(1 - r % 2, r));
        }
        C.due("40 40", () -> x.score(0) + " " + x.score(1));
    }

    private static void endBeginsAnew() {
        C.part("promise 20: the RACE that is on is another one behind its end");
        IceRegatta x = Check.with(2);
        x.finish(0);
        x.finish(1);
        x.end();
        C.due(0, () -> x.count(6));
        C.due(1, () -> x.finish(1));
        C.due(1, () -> x.end());
        C.due("3 1", () -> x.points(0, 1) + " " + x.points(1, 1));
        C.due("1 2", () -> x.points(0, 0) + " " + x.points(1, 0));
    }

    private static void pointsByPlace() {
        C.part("at its end each has as many points as its place, from 1 on");
        IceRegatta x = Check.with(16);
        for (int boat = 0; boat < 16; boat++) {
            x.finish(7 * boat % 16);
        }
        x.end();
        for (int boat = 0; boat < 16; boat++) {
            int b = boat;
            C.due(b + 1, () -> x.points(7 * b % 16, 0));
        }
    }

    private static void pointsWithoutFinish() {
        C.part("one that did not finish as many as there are BOATS then, and one");
        for (int boats = 1; boats <= 16; boats++) {
            IceRegatta x = Check.with(boats);
            int last = boats - 1;
            x.finish(0);
            x.end();
            C.due(1, () -> x.points(0, 0));
            if (last > 0) {
                C.due(last + 2, () -> x.points(last, 0));
            }
        }
        IceRegatta x = Check.with(2);
        x.finish(0);
        x.boat();
        x.boat();
        x.end();
        C.due("1 5 5 5", () -> x.points(0, 0) + " " + x.points(1, 0) + " " + x.points(2, 0) + " " + x.points(3, 0));
    }

    private static void pointsOfLaterBoats() {
        C.part("(A BOAT that comes later has in elder RACES what one that did not finish has there.)");
        IceRegatta x = Check.with(1);
        Check.race(x, 0);
        x.boat();
        Check.race(x, 1);
        for (int boat = 2; boat < 15; boat++) {
            x.boat();
        }
        Check.race(x, 14);
        x.boat();
        C.due("2 3 16", () -> x.points(15, 0) + " " + x.points(15, 1) + " " + x.points(15, 2));
        C.due("2 1 16", () -> x.points(1, 0) + " " + x.points(1, 1) + " " + x.points(1, 2));
        C.due("1 3 16", () -> x.points(0, 0) + " " + x.points(0, 1) + " " + x.points(0, 2));
        C.due(21, () -> x.score(15));
        IceRegatta full = ended(1, 20);
        for (int boat = 1; boat < 16; boat++) {
            full.boat();
        }
        C.due("2 2", () -> full.points(15, 0) + " " + full.points(15, 19));
        C.due(40, () -> full.score(15));
    }

    private static void pointsBoatAndRace() {
        C.part("promise 21: IndexOutOfBoundsException: also no such RACE");
        for (int races : new int[] {1, 2, 19, 20}) {
            IceRegatta x = ended(2, races);
            C.takes(0, races - 1, Check.BOUNDS, race -> x.points(0, race));
            C.takes(0, races - 1, Check.BOUNDS, race -> x.points(1, race));
            C.takes(0, 1, Check.BOUNDS, boat -> x.points(boat, races - 1));
            C.due(Check.BOUNDS, () -> x.points(2, races));
        }
        IceRegatta x = Check.with(16);
        x.finish(0);
        C.due(Check.BOUNDS, () -> x.points(0, 0));
        C.due(Check.BOUNDS, () -> x.points(0, -1));
        x.end();
        C.takes(0, 15, Check.BOUNDS, boat -> x.points(boat, 0));
        C.due(Check.BOUNDS, () -> x.points(0, 1));
        // Taken for one row of numbers, these would be found in another race.
        x.end();
        C.due(Check.BOUNDS, () -> x.points(16, 0));
        C.due(Check.BOUNDS, () -> x.points(-1, 1));
        C.due(Check.BOUNDS, () -> x.points(-16, 2));
        C.due(Check.BOUNDS, () -> new IceRegatta().points(0, 0));
    }

    private static void scoreWithoutRaces() {
        C.part("promise 22: SCORE: all its points: none yet");
        IceRegatta x = Check.with(1);
        C.due(0, () -> x.score(0));
        Check.tell(x, "drop 1 from 0;");
        C.due(0, () -> x.score(0));
        x.finish(0);
        C.due(0, () -> x.score(0));
    }

    private static void scoreDropsWorst() {
        C.part("SCORE: less its worst N");
        IceRegatta x = Check.with(4);
        Check.race(x, 0, 1, 2, 3);
        Check.race(x, 1, 0, 2, 3);
        Check.race(x, 1, 2, 0, 3);
        Check.race(x, 1, 2, 3);
        // 0 has 1, 2, 3 and 5; 3 has 4, 4, 4 and 3.
        int[] first = {11, 6, 3, 1, 0};
        int[] last = {15, 11, 7, 3, 0};
        for (int drops = 0; drops <= 4; drops++) {
            Check.tell(x, "drop " + drops + " from 0;");
            int d = drops;
            C.due(first[d], () -> x.score(0));
            C.due(last[d], () -> x.score(3));
        }
        C.due("1 2 3 5", () -> x.points(0, 0) + " " + x.points(0, 1) + " " + x.points(0, 2) + " " + x.points(0, 3));
        IceRegatta full = Check.with(16);
        Check.race(full, 0);
        Check.race(full, 0);
        Check.race(full, 1);
        Check.tell(full, "drop 1 from 3;");
        // Most have 17 three times; what is worst of one is asked behind what is worst of another.
        for (int i = 0; i < 3; i++) {
            C.due(34, () -> full.score(15));
            C.due(2, () -> full.score(0));
            C.due(18, () -> full.score(1));
        }
        Check.tell(full, "drop 2 from 3;");
        C.due("17 1 1", () -> full.score(15) + " " + full.score(0) + " " + full.score(1));
    }

    private static void scoreDropsFrom() {
        C.part("if \"drop\" N \"from\" M is told, and RACES are M or more");
        for (int from : new int[] {0, 1, 2, 19, 20, 21, 5000}) {
            IceRegatta x = Check.with(1);
            Check.tell(x, "drop 1 from " + from + ";");
            for (int races = 1; races <= 20; races++) {
                x.end();
                int due = races >= from ? 2 * races - 2 : 2 * races;
                C.due(due, () -> x.score(0));
            }
        }
        IceRegatta x = ended(1, 2);
        C.due(4, () -> x.score(0));
        x.finish(0);
        Check.tell(x, "drop 1 from 3;");
        C.due(4, () -> x.score(0));
        x.end();
        C.due(3, () -> x.score(0));
    }

    private static void scoreDropsAll() {
        C.part("SCORE: less its worst N: of as many as there are, or fewer");
        for (int drops : new int[] {3, 4, 20, 21, 5000}) {
            IceRegatta x = ended(16, 3);
            Check.tell(x, "drop " + drops + " from 3;");
            C.due(0, () -> x.score(0));
            C.due(0, () -> x.score(15));
            x.end();
            int left = drops == 3 ? 17 : 0;
            C.due(left, () -> x.score(15));
        }
    }

    private static void scoreAtMost() {
        C.part("SCORE of 20 RACES with 16 BOATS");
        IceRegatta x = ended(16, 20);
        C.due(340, () -> x.score(0));
        C.due(340, () -> x.score(15));
        for (int drops = 0; drops <= 20; drops++) {
            Check.tell(x, "drop " + drops + " from 20;");
            int d = drops;
            C.due(340 - 17 * d, () -> x.score(15));
        }
    }

    private static void scoreBoat() {
        C.part("promise 22: IndexOutOfBoundsException: no such BOAT");
        C.due(Check.BOUNDS, () -> new IceRegatta().score(0));
        for (int boats : new int[] {1, 2, 15, 16}) {
            IceRegatta x = ended(boats, 1);
            C.takes(0, boats - 1, Check.BOUNDS, boat -> x.score(boat));
        }
    }

    private static void rankNumber() {
        C.part("promise 23: The k-th BOAT in RANK; NONE");
        C.due(-1, () -> new IceRegatta().rank(0));
        C.due(-1, () -> new IceRegatta().rank(-1));
        for (int boats : new int[] {1, 2, 15, 16}) {
            IceRegatta x = Check.with(boats);
            C.due(0, () -> x.rank(0));
            C.due(boats - 1, () -> x.rank(boats - 1));
            for (int k : new int[] {-1, boats, 16, 17, -256, 256, 65536, Integer.MIN_VALUE, Integer.MAX_VALUE}) {
                C.due(-1, () -> x.rank(k));
            }
        }
    }

    private static void rankByScore() {
        C.part("RANK: by SCORE, the least first");
        IceRegatta x = Check.with(16);
        Check.race(x, 15, 14, 13, 12, 11, 10, 9, 8, 7, 6, 5, 4, 3, 2, 1, 0);
        C.due("15 14 13 12 11 10 9 8 7 6 5 4 3 2 1 0", () -> ranks(x));
        Check.race(x, 0, 1, 2, 3, 4, 5, 6, 7, 8, 9, 10, 11, 12, 13, 14, 15);
        // All have 17 now: the latest race tells.
        C.due("0 1 2 3 4 5 6 7 8 9 10 11 12 13 14 15", () -> ranks(x));
        Check.tell(x, "drop 1 from 2;");
        // The best of both: 1, 2, .. 8, 8, .. 2, 1; of two alike the one that was better in the latest race.
        C.due("0 15 1 14 2 13 3 12 4 11 5 10 6 9 7 8", () -> ranks(x));
    }

    private static void rankByLatestRace() {
        C.part("then by points in the latest RACE, then in the one ahead of it, and so on");
        IceRegatta x = Check.with(2);
        Check.tell(x, "drop 5000 from 0;");
        // All is dropped: only the first of twenty races tells, then the later ones.
        Check.race(x, 1, 0);
        for (int race = 1; race < 19; race++) {
            Check.race(x);
            C.due("1 0", () -> ranks(x));
        }
        Check.race(x);
        C.due(20, () -> x.count(1));
        C.due("1 0", () -> ranks(x));
        for (int decisive = 0; decisive < 20; decisive++) {
            IceRegatta y = Check.with(3);
            Check.tell(y, "drop 5000 from 0;");
            for (int race = 0; race < 20; race++) {
                if (race < decisive) {
                    Check.race(y, 0, 1, 2);
                } else if (race == decisive) {
                    Check.race(y, 2, 1, 0);
                } else {
                    Check.race(y);
                }
            }
            C.due("2 1 0", () -> ranks(y));
        }
    }

    private static void rankByNumber() {
        C.part("then by number");
        IceRegatta x = Check.with(16);
        String byNumber = "0 1 2 3 4 5 6 7 8 9 10 11 12 13 14 15";
        C.due(byNumber, () -> ranks(x));
        for (int race = 0; race < 20; race++) {
            x.end();
        }
        C.due(byNumber, () -> ranks(x));
        IceRegatta later = Check.with(2);
        Check.race(later, 1);
        C.due("1 0", () -> ranks(later));
        later.boat();
        C.due("1 0 2", () -> ranks(later));
        C.due("3 1 3", () -> later.score(0) + " " + later.score(1) + " " + later.score(2));
    }
}
