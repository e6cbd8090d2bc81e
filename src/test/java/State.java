/** All that can be told of an object, each part read on an object made anew, so that none has more than 512 calls. */
final class State {
    interface Maker {
        IceRegatta make();
    }

    interface Use {
        Object on(IceRegatta x);
    }

    private final StringBuilder text = new StringBuilder();
    private final Maker maker;
    private final Use use;

    private State(Maker maker, Use use) {
        this.maker = maker;
        this.use = use;
    }

    static String of(Maker maker) {
        return of(maker, x -> 0);
    }

    /** What can be told behind a use, which may throw. */
    static String of(Maker maker, Use use) {
        State state = new State(maker, use);
        state.bounds();
        state.cracks();
        state.courseAndCounts();
        state.orders();
        state.points(0);
        state.points(10);
        state.rights();
        state.places();
        state.raceThatIsOn();
        state.noise();
        for (int part = 0; part < 4; part++) {
            state.tape(part);
        }
        return state.text.toString();
    }

    private IceRegatta made() {
        IceRegatta x = maker.make();
        Check.answerOf(() -> use.on(x));
        return x;
    }

    private void tell(String name, Object answer) {
        text.append(name).append(' ').append(answer).append('\n');
    }

    private void bounds() {
        IceRegatta x = made();
        for (int cell = 0; cell < 144; cell++) {
            tell("ice of " + cell, x.ice(cell, 0) + " to " + x.ice(cell, 1));
        }
    }

    private void cracks() {
        IceRegatta x = made();
        for (int cell = 0; cell < 144; cell++) {
            tell("safe or cracked is " + cell, x.ice(cell, 2) + " " + x.crack(cell, false));
        }
    }

    private void courseAndCounts() {
        IceRegatta x = made();
        tell("course", x.mark(0) + " to " + x.mark(1) + " " + x.holds());
        for (int what = 0; what <= 6; what++) {
            tell("count of " + what, x.count(what));
        }
        tell("fault", x.fault());
        tell("moved", x.move(1) + ": " + x.mark(0) + " to " + x.mark(1));
        tell("wind", x.wind(0));
    }

    private void orders() {
        IceRegatta x = made();
        int boats = x.count(0);
        for (int k = 0; k < 16; k++) {
            tell("rank and lot " + k, x.rank(k) + " " + x.lot(k));
        }
        for (int boat = 0; boat < boats; boat++) {
            tell("score and fleet of " + boat, x.score(boat) + " " + x.fleet(boat));
        }
    }

    private void points(int from) {
        IceRegatta x = made();
        int boats = x.count(0);
        int races = x.count(1);
        for (int race = from; race < Math.min(races, from + 10); race++) {
            for (int boat = 0; boat < boats; boat++) {
                tell("points in " + race + " of " + boat, x.points(boat, race));
            }
        }
    }

    private void rights() {
        IceRegatta x = made();
        tellRights(x, "rights now");
    }

    /** Where the boats lie and go, found by another boat that is placed against each. */
    private void places() {
        int boats = made().count(0);
        for (int boat = 0; boat < boats; boat++) {
            IceRegatta x = made();
            int probe = boats == 1 ? x.boat() : boat == 0 ? 1 : 0;
            x.rule(0);
            int way = wayOf(x, boat, probe);
            String point = coordinateOf(x, boat, probe, way, true) + ", " + coordinateOf(x, boat, probe, way, false);
            tell("place of " + boat, point + " by " + way);
        }
    }

    private static int wayOf(IceRegatta x, int boat, int probe) {
        Check.tell(x, "way ahead;");
        int[][] corners = {{0, 0}, {1000, 1000}, {1000, 0}};
        for (int way = 0; way < 8; way++) {
            for (int[] corner : corners) {
                x.place(probe, corner[0], corner[1], way);
                if (x.clear(boat, probe) != -1) {
                    return way;
                }
            }
        }
        return -1;
    }

    private static int coordinateOf(IceRegatta x, int boat, int probe, int way, boolean isX) {
        int more = isX ? 2 : 4;
        x.wind(more);
        // A boat on no TACK goes along the axis itself, so that "ahead" tells.
        boolean isAlong = (way - more) % 4 == 0;
        Check.tell(x, isAlong ? "way ahead;" : "way leeward;");
        int least = 0;
        int most = 1000;
        while (least < most) {
            int middle = (least + most) / 2;
            x.place(probe, isX ? middle : 0, isX ? 0 : middle, way);
            int keeper = x.clear(boat, probe);
            boolean isMore = isAlong && way == more ? keeper == boat : keeper == probe;
            if (keeper == -1 || isMore) {
                most = middle;
            } else {
                least = middle + 1;
            }
        }
        return least;
    }

    private void tellRights(IceRegatta x, String name) {
        int boats = x.count(0);
        for (int boat = 0; boat < boats; boat++) {
            for (int other = boat; other < boats; other++) {
                tell(name + " of " + boat + " and " + other, x.clear(boat, other));
            }
        }
    }

    private void raceThatIsOn() {
        IceRegatta x = made();
        int boats = x.count(0);
        for (int boat = 0; boat < boats; boat++) {
            tell("finish of " + boat, x.finish(boat));
        }
        tell("end", x.end());
        for (int boat = 0; boat < boats && x.count(1) > 0; boat++) {
            tell("points now of " + boat, x.points(boat, x.count(1) - 1));
        }
    }

    private void noise() {
        IceRegatta x = made();
        for (int boat = x.count(0); boat < 16; boat++) {
            tell("new boat", x.boat());
        }
        for (int many = x.count(4); many < 20; many++) {
            tell("more noise", x.noise(7));
        }
        tell("draw", x.draw());
        for (int k = 0; k < 16; k++) {
            tell("new lot", x.lot(k));
        }
    }

    private void tape(int part) {
        IceRegatta x = made();
        int n = x.count(5) * (4 - part) / 4;
        tell("rule of " + n, x.rule(n) + " at " + x.fault());
        tell("clauses and safe cells", x.count(2) + " " + x.count(3));
    }
}
