/** A lake of ice, a course on it, the rule of its boats, their races, fleets and lots. */
public final class IceRegatta {
    public static final int NONE = -1;

    private static final int SIDE = 12;
    private static final int CELLS = 144;
    private static final int THICKEST = 5000;
    private static final int COLDEST = -40;
    private static final int WARMEST = 20;
    private static final int FARTHEST = 1000;
    private static final int MOST_BOATS = 16;
    private static final int MOST_RACES = 20;
    private static final int MOST_NOISE = 20;

    private static final int WAYS = 8;
    private static final int[] STEP_X = {0, 1, 1, 1, 0, -1, -1, -1};
    private static final int[] STEP_Y = {-1, -1, 0, 1, 1, 1, 0, -1};

    private static final int NO_TACK = 0;
    private static final int STARBOARD_TACK = 1;
    private static final int PORT_TACK = 2;

    private static final int BY_STARBOARD = 0;
    private static final int BY_LEEWARD = 1;
    private static final int BY_AHEAD = 2;
    private static final int RIGHTS = 3;

    private final Lake lake;
    private final Course raced;
    private final Tape tape;
    private final Rule told;
    private final Boats boats;
    private final Races races;
    private final Fleets fleets;
    private final Lots lots;
    private int windWay;

    public IceRegatta() {
        lake = new Lake();
        raced = new Course();
        tape = new Tape();
        told = new Rule();
        boats = new Boats();
        races = new Races();
        fleets = new Fleets();
        lots = new Lots();
        windWay = 0;
    }

    public int sound(int cell, int t, int d) throws IndexOutOfBoundsException, IllegalArgumentException {
        needCell(cell);
        needSounding(t, d);
        return lake.setBounds(cell, t, d);
    }

    public int soundRow(int y, int t, int d) throws IndexOutOfBoundsException, IllegalArgumentException {
        if (y < 0 || y >= SIDE) {
            throw new IndexOutOfBoundsException("no such row");
        }
        needSounding(t, d);
        int greatest = 0;
        for (int x = 0; x < SIDE; x++) {
            greatest = Math.max(greatest, lake.setBounds(SIDE * y + x, t, d));
        }
        return greatest;
    }

    public boolean crack(int cell, boolean is) throws IndexOutOfBoundsException {
        needCell(cell);
        return lake.setCracked(cell, is);
    }

    public int hour(int t) throws IllegalArgumentException {
        needDegrees(t);
        lake.passHour(t);
        return lake.safeCells(told.ice);
    }

    public int ice(int cell, int what) throws IndexOutOfBoundsException, IllegalArgumentException {
        needCell(cell);
        switch (what) {
            case 0:
                return lake.lowOf(cell);
            case 1:
                return lake.highOf(cell);
            case 2:
                return lake.isSafe(cell, told.ice) ? 1 : 0;
            default:
                throw new IllegalArgumentException("ice tells 0, 1 or 2");
        }
    }

    public int lasts(int cell, int t) throws IndexOutOfBoundsException, IllegalArgumentException {
        needCell(cell);
        needDegrees(t);
        return lake.safeHours(cell, t, told.ice);
    }

    public int wind(int way) throws IllegalArgumentException {
        needWay(way);
        int was = windWay;
        windWay = way;
        return was;
    }

    public int course() {
        return raced.takeLongest(lake, windWay, told.ice);
    }

    public int move(int least) throws IllegalArgumentException {
        if (least < 1 || least >= SIDE) {
            throw new IllegalArgumentException("the least length is not 1 to 11");
        }
        return raced.takeNearest(lake, windWay, told.ice, least);
    }

    public int mark(int which) throws IllegalArgumentException {
        if (which != 0 && which != 1) {
            throw new IllegalArgumentException("a mark is 0 or 1");
        }
        return which == 0 ? raced.foot : raced.head;
    }

    public boolean holds() {
        return raced.isLeg(lake, windWay, told.ice);
    }

    public int feed(int a, int b, int c, int d, int e) {
        if (!tape.hasRoom()) {
            return NONE;
        }
        tape.addNumber(a);
        tape.addNumber(b);
        tape.addNumber(c);
        tape.addNumber(d);
        tape.addNumber(e);
        return tape.size;
    }

    public int rule(int n) throws IllegalArgumentException {
        if (n < 0 || n > tape.size) {
            throw new IllegalArgumentException("the tape has no so many bytes");
        }
        int fault = tape.readRule(n);
        tape.size = 0;
        if (fault != 0) {
            return fault - 10;
        }
        told.takeOver(tape.draft);
        return told.clauses;
    }

    public int fault() {
        return tape.faultPlace;
    }

    public int boat() throws IllegalStateException {
        if (boats.size >= MOST_BOATS) {
            throw new IllegalStateException("there are 16 boats");
        }
        boats.size++;
        return boats.size - 1;
    }

    public int place(int boat, int x, int y, int way) throws IndexOutOfBoundsException, IllegalArgumentException {
        needBoat(boat);
        needPoint(x, y);
        needWay(way);
        boats.put(boat, x, y, way);
        return boats.tackOf(boat, windWay);
    }

    public int clear(int boat, int other) throws IndexOutOfBoundsException {
        needBoat(boat);
        needBoat(other);
        return boats.keepsClear(boat, other, told, windWay);
    }

    public int finish(int boat) throws IndexOutOfBoundsException {
        needBoat(boat);
        return races.takeFinish(boat);
    }

    public int end() {
        return races.endRace(boats.size);
    }

    public int points(int boat, int race) throws IndexOutOfBoundsException {
        needBoat(boat);
        if (race < 0 || race >= races.ended) {
            throw new IndexOutOfBoundsException("no such race");
        }
        return races.pointsOf(boat, race);
    }

    public int score(int boat) throws IndexOutOfBoundsException {
        needBoat(boat);
        return races.scoreOf(boat, told);
    }

    public int rank(int k) {
        if (k < 0 || k >= boats.size) {
            return NONE;
        }
        races.rankBoats(boats.size, told);
        return races.ranked[k];
    }

    public int part(int n) throws IllegalArgumentException {
        needFleetNumber(n);
        races.rankBoats(boats.size, told);
        return fleets.partRanked(races.ranked, boats.size, n);
    }

    public int promote(int k) throws IllegalArgumentException {
        needFleetNumber(k);
        races.rankBoats(boats.size, told);
        return fleets.promoteRanked(races.ranked, boats.size, k);
    }

    public int fleet(int boat) throws IndexOutOfBoundsException {
        needBoat(boat);
        return fleets.fleetOf(boat);
    }

    public int noise(int v) {
        return lots.addNoise(v);
    }

    public int draw() {
        return lots.drawRow(boats.size);
    }

    public int lot(int k) {
        return k < 0 || k >= lots.drawn ? NONE : lots.row[k];
    }

    public int count(int what) {
        switch (what) {
            case 0:
                return boats.size;
            case 1:
                return races.ended;
            case 2:
                return told.clauses;
            case 3:
                return lake.safeCells(told.ice);
            case 4:
                return lots.noises;
            case 5:
                return tape.size;
            case 6:
                return races.finished;
            default:
                return NONE;
        }
    }

    private static boolean isCell(int cell) {
        return cell >= 0 && cell < CELLS;
    }

    private static boolean isWay(int way) {
        return way >= 0 && way < WAYS;
    }

    private static boolean isBoatNumber(int boat) {
        return boat >= 0 && boat < MOST_BOATS;
    }

    private static void needCell(int cell) {
        if (!isCell(cell)) {
            throw new IndexOutOfBoundsException("no such cell");
        }
    }

    private static void needSounding(int t, int d) {
        if (t < 0 || t > THICKEST || d < 0 || d > THICKEST) {
            throw new IllegalArgumentException("a sounding is not 0 to 5,000");
        }
    }

    private static void needDegrees(int t) {
        if (t < COLDEST || t > WARMEST) {
            throw new IllegalArgumentException("degrees are not -40 to 20");
        }
    }

    private static void needWay(int way) {
        if (!isWay(way)) {
            throw new IllegalArgumentException("no such way");
        }
    }

    private static void needPoint(int x, int y) {
        if (x < 0 || x > FARTHEST || y < 0 || y > FARTHEST) {
            throw new IllegalArgumentException("a point is not 0 to 1,000");
        }
    }

    private static void needFleetNumber(int n) {
        if (n < 0 || n > MOST_BOATS) {
            throw new IllegalArgumentException("the number is not 0 to 16");
        }
    }

    private void needBoat(int boat) {
        if (boat < 0 || boat >= boats.size) {
            throw new IndexOutOfBoundsException("no such boat");
        }
    }

    private static int stepX(int way) {
        return isWay(way) ? STEP_X[way] : 0;
    }

    private static int stepY(int way) {
        return isWay(way) ? STEP_Y[way] : 0;
    }

    /** The cell so many steps by a way from another one; NONE beyond the shore. */
    private static int cellBeyond(int cell, int way, int steps) {
        int x = cell % SIDE + steps * stepX(way);
        int y = cell / SIDE + steps * stepY(way);
        return x < 0 || x >= SIDE || y < 0 || y >= SIDE ? NONE : SIDE * y + x;
    }

    /** The ice of the cells. What is SAFE is told by the ICE that the caller gives. */
    private static final class Lake {
        private final int[] low = new int[CELLS];
        private final int[] high = new int[CELLS];
        private final boolean[] cracked = new boolean[CELLS];

        Lake() {
            for (int cell = 0; cell < CELLS; cell++) {
                high[cell] = THICKEST;
            }
        }

        int lowOf(int cell) {
            return low[cell];
        }

        int highOf(int cell) {
            return high[cell];
        }

        int setBounds(int cell, int t, int d) {
            low[cell] = within(t - d);
            high[cell] = within(t + d);
            return low[cell];
        }

        boolean setCracked(int cell, boolean is) {
            boolean was = cracked[cell];
            cracked[cell] = is;
            return was;
        }

        void passHour(int t) {
            int lowMore = t < 0 ? -t / 4 : -3 * t;
            int highMore = t < 0 ? (3 - t) / 4 : -t;
            for (int cell = 0; cell < CELLS; cell++) {
                low[cell] = within(low[cell] + lowMore);
                high[cell] = within(high[cell] + highMore);
            }
        }

        private static int within(int thickness) {
            return Math.max(0, Math.min(THICKEST, thickness));
        }

        boolean isSafe(int cell, int ice) {
            return isCell(cell) && low[cell] >= ice && !cracked[cell];
        }

        int safeCells(int ice) {
            int safe = 0;
            for (int cell = 0; cell < CELLS; cell++) {
                if (isSafe(cell, ice)) {
                    safe++;
                }
            }
            return safe;
        }

        int safeHours(int cell, int t, int ice) {
            if (!isSafe(cell, ice)) {
                return 0;
            }
            // No thaw takes LOW below 0, so ice that need bear nothing lasts as well as in the cold.
            if (t <= 0 || ice <= 0) {
                return NONE;
            }
            return (low[cell] - ice) / (3 * t);
        }

        /** The greatest LENGTH of a LEG from a foot; NONE if the foot is not SAFE. */
        int reach(int foot, int way, int ice) {
            int length = NONE;
            for (int steps = 0; steps < SIDE; steps++) {
                if (!isSafe(cellBeyond(foot, way, steps), ice)) {
                    return length;
                }
                length = steps;
            }
            return length;
        }
    }

    private static final class Course {
        private int foot = NONE;
        private int head = NONE;

        int takeLongest(Lake lake, int way, int ice) {
            int longest = 0;
            int from = NONE;
            for (int cell = 0; cell < CELLS; cell++) {
                int length = lake.reach(cell, way, ice);
                if (length > longest) {
                    longest = length;
                    from = cell;
                }
            }
            if (from == NONE) {
                return NONE;
            }
            layLeg(from, way, longest);
            return longest;
        }

        int takeNearest(Lake lake, int way, int ice, int least) {
            if (foot == NONE) {
                return NONE;
            }
            int fewest = 3;
            int longest = 0;
            int from = NONE;
            for (int cell = 0; cell < CELLS; cell++) {
                int reach = lake.reach(cell, way, ice);
                for (int length = least; length <= reach; length++) {
                    int unlike = unlikeMarks(cell, cellBeyond(cell, way, length));
                    if (unlike < fewest || unlike == fewest && length > longest) {
                        fewest = unlike;
                        longest = length;
                        from = cell;
                    }
                }
            }
            if (from == NONE) {
                return NONE;
            }
            layLeg(from, way, longest);
            return fewest;
        }

        private void layLeg(int from, int way, int length) {
            foot = from;
            head = cellBeyond(from, way, length);
        }

        private int unlikeMarks(int otherFoot, int otherHead) {
            return (otherFoot == foot ? 0 : 1) + (otherHead == head ? 0 : 1);
        }

        boolean isLeg(Lake lake, int way, int ice) {
            if (foot == NONE) {
                return false;
            }
            int reach = lake.reach(foot, way, ice);
            for (int length = 1; length <= reach; length++) {
                if (cellBeyond(foot, way, length) == head) {
                    return true;
                }
            }
            return false;
        }
    }

    /** What a RULE tells; as made, what is so without any CLAUSE. */
    private static final class Rule {
        private static final int ICE_UNTOLD = 150;

        private int clauses = 0;
        private int ice = ICE_UNTOLD;
        private int drops = 0;
        private int dropsFrom = 0;
        private final int[] rights = new int[RIGHTS];
        private int rightsTold = 0;

        void forget() {
            clauses = 0;
            ice = ICE_UNTOLD;
            drops = 0;
            dropsFrom = 0;
            rightsTold = 0;
        }

        void takeOver(Rule other) {
            clauses = other.clauses;
            ice = other.ice;
            drops = other.drops;
            dropsFrom = other.dropsFrom;
            rightsTold = other.rightsTold;
            for (int i = 0; i < RIGHTS; i++) {
                rights[i] = other.rights[i];
            }
        }

        boolean addRight(int right) {
            for (int i = 0; i < rightsTold; i++) {
                if (rights[i] == right) {
                    return false;
                }
            }
            if (rightsTold >= RIGHTS) {
                return false;
            }
            rights[rightsTold] = right;
            rightsTold++;
            return true;
        }

        int dropsAfter(int races) {
            return races >= dropsFrom ? Math.min(drops, races) : 0;
        }
    }

    /** The bytes that came, and the reader that makes a draft of a RULE of them. */
    private static final class Tape {
        private static final int MOST_BYTES = 200;
        private static final int BYTES_AT_ONCE = 20;
        private static final int MOST_CLAUSES = 10;
        private static final int MOST_NUMBER = 5000;

        private static final int CANNOT_STAND = 1;
        private static final int TOO_GREAT = 2;
        private static final int TOO_MANY = 3;

        private final int[] bytes = new int[MOST_BYTES];
        private int size = 0;
        private final Rule draft = new Rule();
        private int length = 0;
        private int at = 0;
        private int fault = 0;
        private int faultPlace = NONE;

        boolean hasRoom() {
            return size + BYTES_AT_ONCE <= MOST_BYTES;
        }

        void addNumber(int number) {
            for (int shift = 24; shift >= 0; shift -= 8) {
                if (size < MOST_BYTES) {
                    bytes[size] = number >>> shift & 255;
                    size++;
                }
            }
        }

        /** The FAULT of the first n bytes, 0 without. */
        int readRule(int n) {
            length = Math.max(0, Math.min(n, size));
            at = 0;
            fault = 0;
            faultPlace = NONE;
            draft.forget();
            // One CLAUSE more than may stand is tried, for its FAULT.
            for (int i = 0; i <= MOST_CLAUSES; i++) {
                skipBlanks();
                if (at >= length || !readClause()) {
                    return fault;
                }
            }
            return fault;
        }

        private boolean readClause() {
            int start = readWord();
            boolean isIce = isWord(start, "ice");
            boolean isDrop = isWord(start, "drop");
            if (!isIce && !isDrop && !isWord(start, "way")) {
                return refuse(CANNOT_STAND, start);
            }
            if (draft.clauses >= MOST_CLAUSES) {
                return refuse(TOO_MANY, start);
            }
            draft.clauses++;
            boolean isRead = isIce ? readIce() : isDrop ? readDrops() : readRights();
            return isRead && readSemicolon();
        }

        private boolean readIce() {
            int number = readNumber();
            draft.ice = number;
            return number != NONE;
        }

        private boolean readDrops() {
            int number = readNumber();
            if (number == NONE) {
                return false;
            }
            int start = readWord();
            if (!isWord(start, "from")) {
                return refuse(CANNOT_STAND, start);
            }
            int from = readNumber();
            draft.drops = number;
            draft.dropsFrom = from;
            return from != NONE;
        }

        private boolean readRights() {
            draft.rightsTold = 0;
            for (int i = 0; i < RIGHTS; i++) {
                if (i > 0 && isSemicolonNext()) {
                    return true;
                }
                int start = readWord();
                int right = rightAt(start);
                if (right == NONE || !draft.addRight(right)) {
                    return refuse(CANNOT_STAND, start);
                }
            }
            return true;
        }

        private int rightAt(int start) {
            if (isWord(start, "starboard")) {
                return BY_STARBOARD;
            }
            if (isWord(start, "leeward")) {
                return BY_LEEWARD;
            }
            return isWord(start, "ahead") ? BY_AHEAD : NONE;
        }

        private boolean readSemicolon() {
            if (!isSemicolonNext()) {
                return refuse(CANNOT_STAND, at);
            }
            at++;
            return true;
        }

        private boolean isSemicolonNext() {
            skipBlanks();
            return byteAt(at) == ';';
        }

        /** The place where a word begins; it goes on to where the reader stands then. */
        private int readWord() {
            skipBlanks();
            int start = at;
            while (at < length && byteAt(at) >= 'a' && byteAt(at) <= 'z') {
                at++;
            }
            return start;
        }

        private boolean isWord(int start, String word) {
            if (at - start != word.length()) {
                return false;
            }
            for (int i = 0; i < word.length(); i++) {
                if (byteAt(start + i) != word.charAt(i)) {
                    return false;
                }
            }
            return true;
        }

        private int readNumber() {
            skipBlanks();
            int start = at;
            int number = 0;
            while (at < length && byteAt(at) >= '0' && byteAt(at) <= '9') {
                // Held just above the most, as the digits may be more than an int bears.
                number = Math.min(MOST_NUMBER + 1, 10 * number + byteAt(at) - '0');
                at++;
            }
            if (at == start) {
                refuse(CANNOT_STAND, start);
                return NONE;
            }
            if (number > MOST_NUMBER) {
                refuse(TOO_GREAT, start);
                return NONE;
            }
            return number;
        }

        private void skipBlanks() {
            while (at < length && byteAt(at) == ' ') {
                at++;
            }
        }

        private int byteAt(int index) {
            return index < 0 || index >= length || index >= MOST_BYTES ? NONE : bytes[index];
        }

        private boolean refuse(int kind, int where) {
            fault = kind;
            faultPlace = where;
            return false;
        }
    }

    private static final class Boats {
        private final int[] pointX = new int[MOST_BOATS];
        private final int[] pointY = new int[MOST_BOATS];
        private final int[] ways = new int[MOST_BOATS];
        private int size = 0;

        void put(int boat, int x, int y, int way) {
            pointX[boat] = x;
            pointY[boat] = y;
            ways[boat] = way;
        }

        int tackOf(int boat, int wind) {
            int turn = Math.floorMod(wind - ways[boat], WAYS);
            if (turn >= 1 && turn <= 3) {
                return STARBOARD_TACK;
            }
            return turn >= 5 ? PORT_TACK : NO_TACK;
        }

        int keepsClear(int boat, int other, Rule rule, int wind) {
            if (boat == other) {
                return NONE;
            }
            for (int i = 0; i < rule.rightsTold && i < RIGHTS; i++) {
                int keeper = keeperBy(rule.rights[i], boat, other, wind);
                if (keeper != NONE) {
                    return keeper;
                }
            }
            return NONE;
        }

        private int keeperBy(int right, int boat, int other, int wind) {
            switch (right) {
                case BY_STARBOARD:
                    return portAgainstStarboard(boat, other, wind);
                case BY_LEEWARD:
                    return windwardOfOneTack(boat, other, wind);
                default:
                    return asternOnOneWay(boat, other);
            }
        }

        private int portAgainstStarboard(int boat, int other, int wind) {
            int tack = tackOf(boat, wind);
            int otherTack = tackOf(other, wind);
            if (tack == PORT_TACK && otherTack == STARBOARD_TACK) {
                return boat;
            }
            return tack == STARBOARD_TACK && otherTack == PORT_TACK ? other : NONE;
        }

        private int windwardOfOneTack(int boat, int other, int wind) {
            int tack = tackOf(boat, wind);
            if (tack == NO_TACK || tack != tackOf(other, wind)) {
                return NONE;
            }
            return fartherOf(boat, other, wind);
        }

        private int asternOnOneWay(int boat, int other) {
            if (ways[boat] != ways[other]) {
                return NONE;
            }
            int farther = fartherOf(boat, other, ways[boat]);
            if (farther == NONE) {
                return NONE;
            }
            return farther == boat ? other : boat;
        }

        private int fartherOf(int boat, int other, int way) {
            int far = farBy(boat, way);
            int otherFar = farBy(other, way);
            if (far == otherFar) {
                return NONE;
            }
            return far > otherFar ? boat : other;
        }

        private int farBy(int boat, int way) {
            return pointX[boat] * stepX(way) + pointY[boat] * stepY(way);
        }
    }

    private static final class Races {
        private static final int MOST_POINTS = 17;
        private static final int HAD_FINISHED = -1;
        private static final int NO_RACE_LEFT = -2;

        private final int[] points = new int[MOST_RACES * MOST_BOATS];
        private int ended = 0;
        /** Of the RACE that is on; 0 is no place yet. */
        private final int[] places = new int[MOST_BOATS];
        private int finished = 0;
        private final int[] tally = new int[MOST_POINTS + 1];
        private final int[] scores = new int[MOST_BOATS];
        private final int[] ranked = new int[MOST_BOATS];

        int takeFinish(int boat) {
            if (ended >= MOST_RACES) {
                return NO_RACE_LEFT;
            }
            if (places[boat] != 0) {
                return HAD_FINISHED;
            }
            finished++;
            places[boat] = finished;
            return finished;
        }

        int endRace(int boats) {
            if (ended >= MOST_RACES || boats <= 0) {
                return NONE;
            }
            // Boats still to come get theirs here, too, as the number of boats is known only now.
            for (int boat = 0; boat < MOST_BOATS; boat++) {
                points[MOST_BOATS * ended + boat] = places[boat] != 0 ? places[boat] : boats + 1;
                places[boat] = 0;
            }
            finished = 0;
            ended++;
            return ended - 1;
        }

        int pointsOf(int boat, int race) {
            int index = MOST_BOATS * race + boat;
            return index >= 0 && index < points.length ? points[index] : 0;
        }

        int scoreOf(int boat, Rule rule) {
            int sum = 0;
            for (int race = 0; race < ended; race++) {
                sum += pointsOf(boat, race);
            }
            int drops = rule.dropsAfter(ended);
            return drops == 0 ? sum : sum - worstOf(boat, drops);
        }

        private int worstOf(int boat, int drops) {
            for (int value = 0; value <= MOST_POINTS; value++) {
                tally[value] = 0;
            }
            for (int race = 0; race < ended; race++) {
                int value = pointsOf(boat, race);
                if (value >= 0 && value <= MOST_POINTS) {
                    tally[value]++;
                }
            }
            int left = drops;
            int worst = 0;
            for (int value = MOST_POINTS; value > 0 && left > 0; value--) {
                int dropped = Math.min(left, tally[value]);
                worst += dropped * value;
                left -= dropped;
            }
            return worst;
        }

        void rankBoats(int boats, Rule rule) {
            int many = Math.min(boats, MOST_BOATS);
            for (int boat = 0; boat < many; boat++) {
                scores[boat] = scoreOf(boat, rule);
                int at = boat;
                while (at > 0 && isBetter(boat, ranked[at - 1])) {
                    ranked[at] = ranked[at - 1];
                    at--;
                }
                ranked[at] = boat;
            }
        }

        private boolean isBetter(int boat, int other) {
            int score = scoreAt(boat);
            int otherScore = scoreAt(other);
            if (score != otherScore) {
                return score < otherScore;
            }
            for (int race = ended - 1; race >= 0; race--) {
                int mine = pointsOf(boat, race);
                int others = pointsOf(other, race);
                if (mine != others) {
                    return mine < others;
                }
            }
            return boat < other;
        }

        private int scoreAt(int boat) {
            return isBoatNumber(boat) ? scores[boat] : 0;
        }
    }

    private static final class Fleets {
        private final boolean[] isSecond = new boolean[MOST_BOATS];
        private final boolean[] changes = new boolean[MOST_BOATS];

        int fleetOf(int boat) {
            return isInSecond(boat) ? 1 : 0;
        }

        private boolean isInSecond(int boat) {
            return isBoatNumber(boat) && isSecond[boat];
        }

        int partRanked(int[] ranked, int boats, int n) {
            for (int k = 0; k < boats && k < ranked.length; k++) {
                if (isBoatNumber(ranked[k])) {
                    isSecond[ranked[k]] = k >= n;
                }
            }
            return Math.min(n, boats);
        }

        int promoteRanked(int[] ranked, int boats, int k) {
            int second = inSecond(boats);
            int many = Math.min(k, Math.min(second, boats - second));
            // All are chosen ahead of the first change, so that nobody changes twice.
            chooseFirst(ranked, boats, many);
            chooseLast(ranked, boats, many);
            for (int boat = 0; boat < MOST_BOATS; boat++) {
                isSecond[boat] = isSecond[boat] != changes[boat];
                changes[boat] = false;
            }
            return many;
        }

        private int inSecond(int boats) {
            int second = 0;
            for (int boat = 0; boat < boats; boat++) {
                second += fleetOf(boat);
            }
            return second;
        }

        private void chooseFirst(int[] ranked, int boats, int many) {
            int left = many;
            for (int k = 0; k < boats && k < ranked.length && left > 0; k++) {
                if (isInSecond(ranked[k])) {
                    choose(ranked[k]);
                    left--;
                }
            }
        }

        private void chooseLast(int[] ranked, int boats, int many) {
            int left = many;
            for (int k = Math.min(boats, ranked.length) - 1; k >= 0 && left > 0; k--) {
                if (!isInSecond(ranked[k])) {
                    choose(ranked[k]);
                    left--;
                }
            }
        }

        private void choose(int boat) {
            if (isBoatNumber(boat)) {
                changes[boat] = true;
            }
        }
    }

    private static final class Lots {
        private static final long WITHOUT_SIGN = 0xFFFFFFFFL;

        private final int[] noise = new int[MOST_NOISE];
        private int noises = 0;
        private final int[] row = new int[MOST_BOATS];
        private int drawn = 0;

        int addNoise(int v) {
            if (noises >= MOST_NOISE) {
                return NONE;
            }
            noise[noises] = v;
            noises++;
            return noises;
        }

        int drawRow(int boats) {
            if (boats <= 0 || boats > MOST_BOATS || noises < boats - 1) {
                return NONE;
            }
            for (int boat = 0; boat < boats; boat++) {
                row[boat] = boat;
            }
            for (int i = boats - 1; i > 0; i--) {
                long number = noise[boats - 1 - i] & WITHOUT_SIGN;
                changePlaces(i, (int) (number % (i + 1)));
            }
            noises = 0;
            drawn = boats;
            return boats;
        }

        private void changePlaces(int i, int j) {
            if (!isBoatNumber(i) || !isBoatNumber(j)) {
                return;
            }
            int kept = row[i];
            row[i] = row[j];
            row[j] = kept;
        }
    }
}
