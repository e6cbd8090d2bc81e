import java.util.Random;

/** Runs of up to 512 calls drawn from fixed seeds, each answer compared with the Model's. */
public final class ModelTest {
    private static final String[] PIECES = {
        "ice", "drop", "from", "way", "starboard", "leeward", "ahead", ";", " ", "5000", "5001", "0", "17", "what", "ic", "-", "\0", "\u00e9"
    };
    private static final int[] ODD = {-1, 0, 1, 2, 3, 11, 12, 15, 16, 17, 143, 144, Integer.MAX_VALUE, Integer.MIN_VALUE};

    /** What an object answers behind its 512th call is free. */
    private static final int MOST_CALLS = 512;

    private final Random random;
    private final IceRegatta x = new IceRegatta();
    private final Model model = new Model();
    private final StringBuilder log = new StringBuilder();
    private boolean same = true;
    private int calls = 0;
    /** Some runs have many boats, some many races, so that the limits of both are met. */
    private final int boatsLiked;
    private final int endsLiked;

    private ModelTest(long seed) {
        random = new Random(seed);
        boatsLiked = 2 + random.nextInt(30);
        endsLiked = 1 + random.nextInt(4);
    }

    public static void main(String[] args) {
        long runs = args.length > 0 ? Long.parseLong(args[0]) : 1500;
        for (long seed = 0; seed < runs; seed++) {
            ModelTest test = new ModelTest(seed);
            if (!test.run()) {
                System.out.println("seed " + seed + ":\n" + test.log);
                System.exit(1);
            }
        }
        System.out.println(runs + " runs as in the model");
    }

    private boolean run() {
        int theme = random.nextInt(5);
        // Some turns make no call and some make several, so both the turns and the calls are bounded.
        for (int turn = 0; same && calls < MOST_CALLS && turn < 2 * MOST_CALLS; turn++) {
            switch (random.nextInt(4) == 0 ? random.nextInt(5) : theme) {
                case 0 -> callIce();
                case 1 -> callCourse();
                case 2 -> callRule();
                case 3 -> callBoats();
                default -> callRaces();
            }
        }
        return same;
    }

    private int to(int most) {
        return random.nextInt(40) == 0 ? ODD[random.nextInt(ODD.length)] : random.nextInt(most + 1);
    }

    private void both(String call, Check.Call got, Check.Call want) {
        if (calls >= MOST_CALLS) {
            return;
        }
        calls++;
        String answer = Check.answerOf(got);
        String due = Check.answerOf(want);
        log.append(call).append(" -> ").append(answer).append('\n');
        if (!answer.equals(due)) {
            log.append("  due is ").append(due);
            same = false;
        }
    }

    private int thickness() {
        return random.nextBoolean() ? 140 + to(20) : random.nextInt(10) == 0 ? to(5000) : 200;
    }

    private void callIce() {
        int cell = to(143);
        int y = to(11);
        int t = thickness();
        int d = random.nextInt(3) == 0 ? to(5000) : to(10);
        int degrees = random.nextInt(3) == 0 ? to(61) - 41 : to(6) - 3;
        boolean is = random.nextBoolean();
        int what = to(2);
        switch (random.nextInt(8)) {
            case 0, 1 -> both("sound(" + cell + ", " + t + ", " + d + ")", () -> x.sound(cell, t, d), () -> model.sound(cell, t, d));
            case 2 -> both("soundRow(" + y + ", " + t + ", " + d + ")", () -> x.soundRow(y, t, d), () -> model.soundRow(y, t, d));
            case 3 -> both("crack(" + cell + ", " + is + ")", () -> x.crack(cell, is), () -> model.crack(cell, is));
            case 4 -> both("hour(" + degrees + ")", () -> x.hour(degrees), () -> model.hour(degrees));
            case 5 -> both("ice(" + cell + ", " + what + ")", () -> x.ice(cell, what), () -> model.ice(cell, what));
            case 6 -> both("lasts(" + cell + ", " + degrees + ")", () -> x.lasts(cell, degrees), () -> model.lasts(cell, degrees));
            default -> callCount();
        }
    }

    private void callCount() {
        int what = to(7);
        both("count(" + what + ")", () -> x.count(what), () -> model.count(what));
    }

    private void callCourse() {
        int way = to(7);
        int least = random.nextBoolean() ? 1 : to(11);
        int which = to(1);
        int cell = random.nextInt(144);
        boolean is = random.nextBoolean();
        switch (random.nextInt(9)) {
            case 0 -> both("wind(" + way + ")", () -> x.wind(way), () -> model.wind(way));
            case 1 -> both("course()", () -> x.course(), () -> model.course());
            case 2, 3 -> both("move(" + least + ")", () -> x.move(least), () -> model.move(least));
            case 4, 5 -> both("mark(" + which + ")", () -> x.mark(which), () -> model.mark(which));
            case 6 -> both("holds()", () -> x.holds(), () -> model.holds());
            case 7 -> both("crack(" + cell + ", " + is + ")", () -> x.crack(cell, is), () -> model.crack(cell, is));
            default -> both("soundRow(" + cell / 12 + ", 170, " + cell % 12 * 2 + ")",
                () -> x.soundRow(cell / 12, 170, cell % 12 * 2), () -> model.soundRow(cell / 12, 170, cell % 12 * 2));
        }
    }

    private void callRule() {
        switch (random.nextInt(6)) {
            case 0, 1, 2 -> tell(random.nextInt(3) == 0 ? soup() : clauses());
            case 3 -> both("fault()", () -> x.fault(), () -> model.fault());
            case 4 -> {
                int n = to(40);
                both("rule(" + n + ")", () -> x.rule(n), () -> model.rule(n));
            }
            default -> callCount();
        }
    }

    private String soup() {
        StringBuilder text = new StringBuilder();
        for (int i = random.nextInt(12); i > 0; i--) {
            text.append(PIECES[random.nextInt(PIECES.length)]).append(random.nextInt(3) == 0 ? "" : " ");
        }
        return text.toString();
    }

    private String clauses() {
        StringBuilder text = new StringBuilder();
        for (int i = random.nextInt(10) == 0 ? 8 + random.nextInt(5) : random.nextInt(4); i > 0; i--) {
            switch (random.nextInt(3)) {
                case 0 -> text.append("ice ").append(random.nextInt(8) == 0 ? 0 : 140 + random.nextInt(20));
                case 1 -> text.append("drop ").append(random.nextInt(4)).append(" from ").append(random.nextInt(6));
                default -> {
                    text.append("way");
                    int first = 4 + random.nextInt(3);
                    int step = 1 + random.nextInt(2);
                    for (int k = 1 + random.nextInt(3); k > 0; k--) {
                        text.append(' ').append(PIECES[4 + (first + k * step) % 3]);
                    }
                }
            }
            text.append(random.nextInt(5) == 0 ? "  ; " : ";");
        }
        if (text.length() > 0 && random.nextInt(4) == 0) {
            String piece = PIECES[random.nextInt(PIECES.length)];
            int at = random.nextInt(text.length());
            text.replace(at, Math.min(text.length(), at + random.nextInt(4)), piece);
        }
        return text.toString();
    }

    private void tell(String text) {
        StringBuilder all = new StringBuilder(text);
        while (all.length() % 20 != 0) {
            all.append((char) random.nextInt(256));
        }
        int before = model.count(5);
        for (int at = 0; at < all.length(); at += 20) {
            int[] n = new int[5];
            for (int i = 0; i < 20; i++) {
                n[i / 4] = n[i / 4] << 8 | all.charAt(at + i);
            }
            both("feed(" + all.substring(at, at + 20) + ")", () -> x.feed(n[0], n[1], n[2], n[3], n[4]),
                () -> model.feed(n[0], n[1], n[2], n[3], n[4]));
        }
        if (random.nextInt(8) != 0) {
            int n = Math.min(before + text.length(), model.count(5)) - (random.nextInt(8) == 0 ? 1 : 0);
            both("rule(" + n + ")", () -> x.rule(n), () -> model.rule(n));
        }
    }

    private int boatNumber() {
        return to(Math.max(0, model.count(0) - 1));
    }

    private void callBoats() {
        int boat = boatNumber();
        int other = boatNumber();
        int px = random.nextBoolean() ? to(1000) : to(3);
        int py = random.nextBoolean() ? to(1000) : to(3);
        int way = to(7);
        switch (random.nextInt(9)) {
            case 0 -> callNewBoat();
            case 1, 2, 3 -> both("place(" + boat + ", " + px + ", " + py + ", " + way + ")",
                () -> x.place(boat, px, py, way), () -> model.place(boat, px, py, way));
            case 4, 5, 6 -> both("clear(" + boat + ", " + other + ")", () -> x.clear(boat, other), () -> model.clear(boat, other));
            case 7 -> both("wind(" + way + ")", () -> x.wind(way), () -> model.wind(way));
            default -> tell(clauses());
        }
    }

    private void callNewBoat() {
        if (random.nextInt(1 + model.count(0)) < boatsLiked) {
            both("boat()", () -> x.boat(), () -> model.boat());
        }
    }

    private void callRaces() {
        int boat = boatNumber();
        int race = to(Math.max(0, model.count(1) - 1));
        int k = to(Math.max(0, model.count(0)));
        int n = random.nextBoolean() ? to(4) : to(17);
        int v = random.nextInt(3) == 0 ? to(100) : random.nextInt();
        switch (random.nextInt(20)) {
            case 0 -> callNewBoat();
            case 1, 2, 3, 4, 5 -> both("finish(" + boat + ")", () -> x.finish(boat), () -> model.finish(boat));
            case 6 -> {
                if (random.nextInt(endsLiked) == 0) {
                    both("end()", () -> x.end(), () -> model.end());
                }
            }
            case 7 -> both("points(" + boat + ", " + race + ")", () -> x.points(boat, race), () -> model.points(boat, race));
            case 8 -> both("score(" + boat + ")", () -> x.score(boat), () -> model.score(boat));
            case 9, 10 -> both("rank(" + k + ")", () -> x.rank(k), () -> model.rank(k));
            case 11 -> both("part(" + n + ")", () -> x.part(n), () -> model.part(n));
            case 12 -> both("promote(" + n + ")", () -> x.promote(n), () -> model.promote(n));
            case 13 -> both("fleet(" + boat + ")", () -> x.fleet(boat), () -> model.fleet(boat));
            case 14, 15 -> both("noise(" + v + ")", () -> x.noise(v), () -> model.noise(v));
            case 16 -> both("draw()", () -> x.draw(), () -> model.draw());
            case 17 -> both("lot(" + k + ")", () -> x.lot(k), () -> model.lot(k));
            case 18 -> tell(clauses());
            default -> callCount();
        }
    }
}
