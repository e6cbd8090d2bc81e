/** The boundary cases that the terms of WAYS, LEGS and COURSE and promises 8 to 12 name, sentence by sentence. */
public final class CourseEdgesTest {
    private static final Check C = new Check();
    private static final int[] STEP_X = {0, 1, 1, 1, 0, -1, -1, -1};
    private static final int[] STEP_Y = {-1, -1, 0, 1, 1, 1, 0, -1};

    public static void main(String[] args) {
        waysToNeighbours();
        noWayBeyondTheShore();
        windAtFirst();
        legOfSafeCells();
        shortestAndLongestCourse();
        courseOfTheLeastFoot();
        diagonalsInTheCorners();
        fewestUnlike();
        greatestLengthOfThese();
        leastFootOfThese();
        movedWithLeast();
        movedFromEachFoot();
        windWay();
        courseStays();
        moveStays();
        moveWithoutCourse();
        moveLeast();
        moveCounts();
        markWithout();
        markWhich();
        holdsOrNot();
        C.end();
    }

    private static String marks(IceRegatta x) {
        return x.mark(0) + " to " + x.mark(1);
    }

    private static IceRegatta lake(int wind, int... cells) {
        IceRegatta x = new IceRegatta();
        x.wind(wind);
        for (int cell : cells) {
            x.sound(cell, 150, 0);
        }
        return x;
    }

    private static IceRegatta wholeLake(int wind) {
        IceRegatta x = lake(wind);
        for (int y = 0; y < 12; y++) {
            x.soundRow(y, 150, 0);
        }
        return x;
    }

    private static void waysToNeighbours() {
        C.part("WAYS 0 to 7 go to a neighbour by (x, y)");
        for (int way = 0; way < 8; way++) {
            for (int cell = 0; cell < 144; cell++) {
                int nextX = cell % 12 + STEP_X[way];
                int nextY = cell / 12 + STEP_Y[way];
                if (nextX < 0 || nextX > 11 || nextY < 0 || nextY > 11) {
                    continue;
                }
                int next = 12 * nextY + nextX;
                IceRegatta x = lake(way, cell, next);
                C.due(1, () -> x.course());
                int from = cell;
                C.due(from + " to " + next, () -> marks(x));
            }
        }
    }

    private static void noWayBeyondTheShore() {
        C.part("CELLS .. for x and y from 0 to 11: no WAY goes round to another side");
        for (int way = 0; way < 8; way++) {
            for (int cell = 0; cell < 144; cell++) {
                int nextX = cell % 12 + STEP_X[way];
                int nextY = cell / 12 + STEP_Y[way];
                if (nextX >= 0 && nextX <= 11 && nextY >= 0 && nextY <= 11) {
                    continue;
                }
                int byNumber = 12 * nextY + nextX;
                if (byNumber >= 0 && byNumber < 144) {
                    IceRegatta x = lake(way, cell, byNumber);
                    C.due(-1, () -> x.course());
                }
                IceRegatta round = lake(way, cell, 12 * Math.floorMod(nextY, 12) + Math.floorMod(nextX, 12));
                C.due(-1, () -> round.course());
            }
        }
    }

    private static void windAtFirst() {
        C.part("The WIND comes from a WAY (0 at first)");
        IceRegatta x = new IceRegatta();
        x.sound(12, 150, 0);
        x.sound(0, 150, 0);
        C.due(1, () -> x.course());
        C.due("12 to 0", () -> marks(x));
        C.due(0, () -> x.wind(0));
    }

    private static void legOfSafeCells() {
        C.part("A LEG: CELLS that are SAFE, one behind another");
        IceRegatta x = lake(2, 60, 61, 63, 64);
        x.sound(62, 149, 0);
        C.due(1, () -> x.course());
        C.due("60 to 61", () -> marks(x));
        x.sound(62, 150, 0);
        C.due(4, () -> x.course());
        C.due("60 to 64", () -> marks(x));
        x.crack(60, true);
        C.due(3, () -> x.course());
        C.due("61 to 64", () -> marks(x));
        x.crack(64, true);
        C.due(2, () -> x.course());
        C.due("61 to 63", () -> marks(x));
        x.crack(62, true);
        C.due(-1, () -> x.course());
        C.due("61 to 63", () -> marks(x));
    }

    private static void shortestAndLongestCourse() {
        C.part("COURSE: the LEG of the greatest LENGTH, 1 at least");
        C.due(-1, () -> lake(2).course());
        C.due(-1, () -> lake(2, 60).course());
        C.due(-1, () -> lake(2, 60, 62).course());
        C.due(1, () -> lake(2, 60, 61).course());
        for (int many = 2; many <= 12; many++) {
            IceRegatta x = lake(6);
            for (int cell = 143; cell > 143 - many; cell--) {
                x.sound(cell, 150, 0);
            }
            int length = many - 1;
            C.due(length, () -> x.course());
            C.due("143 to " + (143 - length), () -> marks(x));
        }
        for (int way = 0; way < 8; way++) {
            IceRegatta x = wholeLake(way);
            C.due(11, () -> x.course());
            C.due(true, () -> x.holds());
        }
    }

    private static void courseOfTheLeastFoot() {
        C.part("of these the one with the least FOOT");
        IceRegatta x = lake(2, 12, 13, 34, 35, 0, 1, 142, 143);
        C.due(1, () -> x.course());
        C.due("0 to 1", () -> marks(x));
        x.wind(6);
        C.due(1, () -> x.course());
        C.due("1 to 0", () -> marks(x));
        x.sound(33, 150, 0);
        C.due(2, () -> x.course());
        C.due("35 to 33", () -> marks(x));
        x.sound(14, 150, 0);
        C.due(2, () -> x.course());
        C.due("14 to 12", () -> marks(x));
        x.sound(141, 150, 0);
        C.due("2 at 14", () -> x.course() + " at " + x.mark(0));
        String[] marks = {"132 to 0", "132 to 11", "0 to 11", "0 to 143", "0 to 132", "11 to 132", "11 to 0", "143 to 0"};
        for (int way = 0; way < 8; way++) {
            IceRegatta whole = wholeLake(way);
            whole.course();
            C.due(marks[way], () -> marks(whole));
        }
    }

    private static void diagonalsInTheCorners() {
        C.part("a LEG ends at the shore");
        IceRegatta x = wholeLake(1);
        // The greatest diagonal falls away, then the next ones.
        x.crack(132, true);
        x.crack(11, true);
        C.due(10, () -> x.course());
        C.due("120 to 10", () -> marks(x));
        x.crack(10, true);
        C.due(10, () -> x.course());
        C.due("133 to 23", () -> marks(x));
        IceRegatta corner = lake(1, 0, 12, 1, 143, 142, 131);
        C.due(1, () -> corner.course());
        C.due("12 to 1", () -> marks(corner));
        corner.crack(1, true);
        C.due(1, () -> corner.course());
        C.due("142 to 131", () -> marks(corner));
        IceRegatta other = lake(7, 11, 10, 23, 132, 120, 133);
        C.due(1, () -> other.course());
        C.due("23 to 10", () -> marks(other));
    }

    private static void fewestUnlike() {
        C.part("MOVED: those of which the fewest of FOOT and HEAD are unlike");
        IceRegatta x = lake(2, 60, 61, 62);
        x.course();
        x.soundRow(0, 150, 0);
        C.due(0, () -> x.move(1));
        C.due("60 to 62", () -> marks(x));
        x.sound(63, 150, 0);
        C.due(0, () -> x.move(2));
        C.due("60 to 62", () -> marks(x));
        C.due(1, () -> x.move(3));
        C.due("60 to 63", () -> marks(x));
        C.due(2, () -> x.move(4));
        C.due("0 to 11", () -> marks(x));
        C.due(0, () -> x.move(11));
        x.crack(11, true);
        C.due(1, () -> x.move(1));
        C.due("0 to 10", () -> marks(x));
        x.crack(0, true);
        C.due(1, () -> x.move(1));
        C.due("1 to 10", () -> marks(x));
    }

    private static void greatestLengthOfThese() {
        C.part("of these those of the greatest LENGTH");
        String[] marks = {"64 to 71", "60 to 66", "60 to 66", "64 to 70"};
        // Cells that are cracked: of 64 to 71 and 60 to 66 the longer one is due, of two alike the least FOOT.
        int[][] cracks = {{}, {71}, {70}, {60, 71}};
        for (int i = 0; i < marks.length; i++) {
            IceRegatta x = lake(2, 64, 65, 66);
            C.due(2, () -> x.course());
            x.soundRow(5, 150, 0);
            for (int cell : cracks[i]) {
                x.crack(cell, true);
            }
            C.due(0, () -> x.move(2));
            C.due("64 to 66", () -> marks(x));
            C.due(1, () -> x.move(3));
            C.due(marks[i], () -> marks(x));
        }
    }

    private static void leastFootOfThese() {
        C.part("of these the least FOOT");
        IceRegatta x = lake(2, 62, 63, 64);
        x.course();
        x.soundRow(5, 0, 0);
        for (int cell : new int[] {130, 131, 5, 6, 70, 71}) {
            x.sound(cell, 150, 0);
        }
        C.due(2, () -> x.move(1));
        C.due("5 to 6", () -> marks(x));
        IceRegatta both = lake(2, 62, 63, 64, 65, 66);
        both.sound(62, 0, 0);
        both.sound(66, 0, 0);
        C.due(2, () -> both.course());
        for (int cell : new int[] {61, 62, 66, 67}) {
            both.sound(cell, 150, 0);
        }
        // FOOT 63 with HEAD 67 and FOOT 61 with HEAD 65 are alike in all but the FOOT.
        C.due(1, () -> both.move(4));
        C.due("61 to 65", () -> marks(both));
    }

    private static void movedWithLeast() {
        C.part("MOVED with a least LENGTH: of all LEGS that have it or more");
        for (int length = 1; length <= 11; length++) {
            IceRegatta x = lake(2, 0, 1);
            x.course();
            x.soundRow(0, 0, 0);
            for (int cell = 132; cell <= 132 + length; cell++) {
                x.sound(cell, 150, 0);
            }
            int least = length;
            if (least < 11) {
                C.due(-1, () -> x.move(least + 1));
                C.due("0 to 1", () -> marks(x));
            }
            C.due(2, () -> x.move(least));
            C.due("132 to " + (132 + least), () -> marks(x));
            C.due(0, () -> x.move(1));
            C.due(0, () -> x.move(least));
        }
    }

    private static void movedFromEachFoot() {
        C.part("MOVED: of all LEGS: each CELL may be the FOOT, and each the HEAD");
        for (int way = 0; way < 8; way++) {
            for (int cell = 0; cell < 144; cell++) {
                int nextX = cell % 12 + STEP_X[way];
                int nextY = cell / 12 + STEP_Y[way];
                if (nextX < 0 || nextX > 11 || nextY < 0 || nextY > 11) {
                    continue;
                }
                int next = 12 * nextY + nextX;
                int foot = cell;
                IceRegatta x = lake(0, 78, 66);
                x.course();
                x.sound(78, 0, 0);
                x.sound(66, 0, 0);
                x.wind(way);
                x.sound(foot, 150, 0);
                x.sound(next, 150, 0);
                int others = (foot == 78 ? 0 : 1) + (next == 66 ? 0 : 1);
                C.due(others, () -> x.move(1));
                C.due(foot + " to " + next, () -> marks(x));
                C.due(true, () -> x.holds());
            }
        }
    }

    private static void windWay() {
        C.part("promise 8: IllegalArgumentException: no such WAY");
        IceRegatta x = new IceRegatta();
        C.takes(0, 7, Check.ARGUMENT, way -> x.wind(way));
        C.part("promise 8: The WIND: what it was");
        x.wind(0);
        for (int way = 1; way < 8; way++) {
            int was = way - 1;
            int now = way;
            C.due(was, () -> x.wind(now));
        }
        C.due(Check.ARGUMENT, () -> x.wind(8));
        C.due(Check.ARGUMENT, () -> x.wind(-1));
        C.due(7, () -> x.wind(7));
        C.due(7, () -> x.wind(0));
        C.due(0, () -> x.wind(0));
    }

    private static void courseStays() {
        C.part("promise 9: NONE, and the course stays: there is no LEG of LENGTH 1");
        IceRegatta x = lake(2, 142, 143);
        C.due(1, () -> x.course());
        x.crack(142, true);
        C.due(-1, () -> x.course());
        C.due("142 to 143", () -> marks(x));
        x.crack(143, true);
        C.due(-1, () -> x.course());
        C.due("142 to 143", () -> marks(x));
        x.crack(142, false);
        x.crack(143, false);
        x.wind(3);
        C.due(-1, () -> x.course());
        C.due("142 to 143", () -> marks(x));
        x.wind(6);
        C.due(1, () -> x.course());
        C.due("143 to 142", () -> marks(x));
        Check.tell(x, "ice 151;");
        C.due(-1, () -> x.course());
        C.due("143 to 142", () -> marks(x));
    }

    private static void moveStays() {
        C.part("promise 10: NONE, and the course stays: there is no such LEG");
        IceRegatta x = lake(2, 60, 61, 62);
        x.course();
        C.due(0, () -> x.move(2));
        C.due(-1, () -> x.move(3));
        C.due("60 to 62", () -> marks(x));
        C.due(-1, () -> x.move(11));
        C.due("60 to 62", () -> marks(x));
        x.soundRow(5, 149, 0);
        C.due(-1, () -> x.move(1));
        C.due("60 to 62", () -> marks(x));
        C.due(false, () -> x.holds());
        x.soundRow(5, 150, 0);
        C.due(0, () -> x.move(2));
        C.due("60 to 62", () -> marks(x));
        C.due(true, () -> x.holds());
    }

    private static void moveWithoutCourse() {
        C.part("promise 10: NONE .. or no course yet");
        IceRegatta x = wholeLake(0);
        C.due(-1, () -> x.move(1));
        C.due(-1, () -> x.move(11));
        C.due("-1 to -1", () -> marks(x));
        C.due(false, () -> x.holds());
        C.due(-1, () -> new IceRegatta().move(1));
        C.due(-1, () -> new IceRegatta().move(11));
        IceRegatta refused = lake(0, 0);
        C.due(-1, () -> refused.course());
        refused.sound(12, 150, 0);
        C.due(-1, () -> refused.move(1));
        C.due(1, () -> refused.course());
        C.due(0, () -> refused.move(1));
    }

    private static void moveLeast() {
        C.part("promise 10: IllegalArgumentException: the least LENGTH is not 1 to 11");
        IceRegatta x = wholeLake(2);
        C.takes(1, 11, Check.ARGUMENT, least -> x.move(least));
        C.takes(1, 11, Check.ARGUMENT, least -> new IceRegatta().move(least));
        x.course();
        C.takes(1, 11, Check.ARGUMENT, least -> x.move(least));
        C.due("0 to 11", () -> marks(x));
        x.crack(0, true);
        C.due(Check.ARGUMENT, () -> x.move(0));
        C.due(Check.ARGUMENT, () -> x.move(12));
        C.due("0 to 11", () -> marks(x));
        C.due(2, () -> x.move(11));
        C.due("12 to 23", () -> marks(x));
    }

    private static void moveCounts() {
        C.part("promise 10: how many of both are others now");
        IceRegatta x = lake(2, 60, 61, 62);
        x.course();
        C.due(0, () -> x.move(1));
        x.crack(62, true);
        C.due(1, () -> x.move(1));
        C.due("60 to 61", () -> marks(x));
        x.crack(62, false);
        C.due(1, () -> x.move(2));
        C.due("60 to 62", () -> marks(x));
        x.crack(60, true);
        C.due(1, () -> x.move(1));
        C.due("61 to 62", () -> marks(x));
        x.crack(60, false);
        x.crack(62, true);
        C.due(2, () -> x.move(1));
        C.due("60 to 61", () -> marks(x));
        // A course turned about: what was the FOOT is the HEAD, and so both are others.
        x.wind(6);
        C.due(2, () -> x.move(1));
        C.due("61 to 60", () -> marks(x));
    }

    private static void markWithout() {
        C.part("promise 11: NONE without");
        IceRegatta x = wholeLake(0);
        C.due(-1, () -> x.mark(0));
        C.due(-1, () -> x.mark(1));
        x.course();
        C.due(132, () -> x.mark(0));
        C.due(0, () -> x.mark(1));
        Check.tell(x, "ice 5000;");
        C.due(132, () -> x.mark(0));
        C.due(0, () -> x.mark(1));
    }

    private static void markWhich() {
        C.part("promise 11: IllegalArgumentException: another which");
        C.takes(0, 1, Check.ARGUMENT, which -> new IceRegatta().mark(which));
        IceRegatta x = wholeLake(3);
        x.course();
        C.takes(0, 1, Check.ARGUMENT, which -> x.mark(which));
        C.due("0 to 143", () -> marks(x));
    }

    private static void holdsOrNot() {
        C.part("promise 12: Whether the course is a LEG now");
        C.due(false, () -> new IceRegatta().holds());
        C.due(false, () -> wholeLake(0).holds());
        for (int way = 0; way < 8; way++) {
            IceRegatta x = wholeLake(way);
            x.course();
            for (int other = 0; other < 8; other++) {
                x.wind(other);
                boolean same = other == way;
                C.due(same, () -> x.holds());
            }
        }
        IceRegatta least = lake(2, 142, 143);
        least.course();
        C.due(true, () -> least.holds());
        Check.tell(least, "ice 151;");
        C.due(false, () -> least.holds());
        Check.tell(least, "ice 150;");
        C.due(true, () -> least.holds());
        IceRegatta longest = lake(2);
        longest.soundRow(11, 150, 0);
        longest.course();
        for (int cell = 132; cell < 144; cell++) {
            longest.crack(cell, true);
            C.due(false, () -> longest.holds());
            longest.crack(cell, false);
            C.due(true, () -> longest.holds());
        }
        longest.soundRow(11, 149, 0);
        C.due(false, () -> longest.holds());
        C.due("132 to 143", () -> marks(longest));
    }
}
