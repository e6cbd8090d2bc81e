/** Promises 13 to 15: the tape, the rule and its faults. */
public final class RuleTest {
    private static final Check C = new Check();

    public static void main(String[] args) {
        feed();
        rule();
        ruleTakesTheTape();
        ruleReadsNoFurther();
        lastOfAKindCounts();
        faults();
        numberFaults();
        clauseFaults();
        rightFaults();
        fault();
        C.end();
    }

    private static void feed() {
        C.part("promise 13");
        IceRegatta x = new IceRegatta();
        for (int i = 1; i <= 10; i++) {
            int bytes = 20 * i;
            C.due(bytes, () -> x.feed(0x20202020, 0x20202020, 0x20202020, 0x20202020, 0x20202020));
            C.due(bytes, () -> x.count(5));
        }
        C.due(-1, () -> x.feed(1, 2, 3, 4, 5));
        C.due(200, () -> x.count(5));
        C.due(0, () -> x.rule(200));
        C.due(20, () -> x.feed(0x69636520, 0x33303030, 0x3b696365, 0x20343030, 0x303b2020));
        C.due(2, () -> x.rule(20));
        x.sound(0, 4000, 0);
        C.due(1, () -> x.ice(0, 2));
        x.sound(0, 3999, 0);
        C.due(0, () -> x.ice(0, 2));
        C.due(20, () -> x.feed(-1, 0, 0, 0, 0));
        C.due("-9 at 0", () -> x.rule(1) + " at " + x.fault());
        C.due(20, () -> x.feed(0x20202020, 0xE9E9E9E9, 0, 0, 0));
        C.due("-9 at 4", () -> x.rule(20) + " at " + x.fault());
    }

    private static void rule() {
        C.part("promise 14");
        IceRegatta x = new IceRegatta();
        x.sound(0, 100, 0);
        C.due("0 at -1", () -> Check.told(x, ""));
        C.due("0 at -1", () -> Check.told(x, "     "));
        C.due("1 at -1", () -> Check.told(x, "ice 100;"));
        C.due(1, () -> x.ice(0, 2));
        C.due(1, () -> x.count(2));
        C.due("1 at -1", () -> Check.told(x, "ice101;"));
        C.due(0, () -> x.ice(0, 2));
        C.due("1 at -1", () -> Check.told(x, "  ice  0000000000000000000000000000100  ;  "));
        C.due(1, () -> x.ice(0, 2));
        C.due("1 at -1", () -> Check.told(x, "ice 5000;"));
        C.due(0, () -> x.ice(0, 2));
        C.due("1 at -1", () -> Check.told(x, "ice 0;"));
        C.due("3 at -1", () -> Check.told(x, "drop 0 from 5000;way ahead starboard leeward;ice 7;"));
        C.due("3 at -1", () -> Check.told(x, " drop1from2 ; way leeward ahead ; ice7 ; "));
        C.due("1 at -1", () -> Check.told(x, "way starboard;"));
        C.due("0 at -1", () -> Check.told(x, ""));
        C.due(0, () -> x.count(2));
        x.sound(0, 149, 0);
        C.due(0, () -> x.ice(0, 2));
        x.sound(0, 150, 0);
        C.due(1, () -> x.ice(0, 2));
    }

    private static void ruleTakesTheTape() {
        C.part("promise 14");
        IceRegatta x = new IceRegatta();
        C.due(Check.ARGUMENT, () -> x.rule(1));
        C.due(Check.ARGUMENT, () -> x.rule(-1));
        C.due(0, () -> x.rule(0));
        Check.feed(x, "ice 1;ice 2;way what");
        C.due(Check.ARGUMENT, () -> x.rule(21));
        C.due(Check.ARGUMENT, () -> x.rule(-1));
        C.due(20, () -> x.count(5));
        C.due(2, () -> x.rule(12));
        C.due(0, () -> x.count(5));
        C.due(Check.ARGUMENT, () -> x.rule(1));
        C.due(2, () -> x.count(2));
        Check.feed(x, "ice 1; nothing");
        C.due(-9, () -> x.rule(20));
        C.due(0, () -> x.count(5));
        C.due(2, () -> x.count(2));
        Check.feed(x, "ice 1; nothing");
        C.due(0, () -> x.rule(0));
        C.due(0, () -> x.count(5));
        C.due(0, () -> x.count(2));
    }

    private static void ruleReadsNoFurther() {
        C.part("promise 14");
        IceRegatta x = new IceRegatta();
        String[] textsAndFaults = {"ice 5;", "-9 at 5", "ice 15;", "-9 at 5", "icex;", "-9 at 3", "way ahead;", "-9 at 4", "     ;", "0 at -1"};
        int[] lengths = {5, 5, 3, 8, 5};
        for (int i = 0; i < lengths.length; i++) {
            Check.feed(x, textsAndFaults[2 * i]);
            int n = lengths[i];
            C.due(textsAndFaults[2 * i + 1], () -> x.rule(n) + " at " + x.fault());
        }
        Check.feed(x, "ice 50001;");
        C.due("-9 at 8", () -> x.rule(8) + " at " + x.fault());
        Check.feed(x, "ice 5000;ice 1;");
        C.due("1 at -1", () -> x.rule(9) + " at " + x.fault());
    }

    private static void lastOfAKindCounts() {
        C.part("promise 14");
        IceRegatta x = new IceRegatta();
        x.sound(0, 100, 0);
        C.due("2 at -1", () -> Check.told(x, "ice 200;ice 100;"));
        C.due(1, () -> x.ice(0, 2));
        C.due("2 at -1", () -> Check.told(x, "ice 100;ice 200;"));
        C.due(0, () -> x.ice(0, 2));
        x.boat();
        x.boat();
        x.finish(1);
        x.end();
        x.finish(1);
        x.end();
        C.due("2 at -1", () -> Check.told(x, "drop 1 from 0;drop 1 from 3;"));
        C.due(6, () -> x.score(0));
        C.due("2 at -1", () -> Check.told(x, "drop 1 from 3;drop 1 from 2;"));
        C.due(3, () -> x.score(0));
        x.place(0, 0, 5, 0);
        x.place(1, 0, 9, 0);
        C.due("2 at -1", () -> Check.told(x, "way ahead;way starboard;"));
        C.due(-1, () -> x.clear(0, 1));
        C.due("2 at -1", () -> Check.told(x, "way starboard;way ahead;"));
        C.due(1, () -> x.clear(0, 1));
        C.due(6, () -> x.score(0));
        C.due("-9 at 12", () -> Check.told(x, "drop 1 from ;"));
        C.due(1, () -> x.clear(0, 1));
        C.due("-9 at 18", () -> Check.told(x, "ice 9;way leeward ice 7;"));
        C.due(1, () -> x.clear(0, 1));
        C.due(0, () -> x.ice(0, 2));
        C.due(2, () -> x.count(2));
    }

    private static void faults() {
        C.part("promises 14 and 15");
        IceRegatta x = new IceRegatta();
        String[] textsAndFaults = {
            "ice", "-9 at 3", "ice   ", "-9 at 6", "ice 5", "-9 at 5", "ice 5  ", "-9 at 7",
            "ic", "-9 at 0", "icee 5;", "-9 at 0", "  ices;", "-9 at 2", "ICE 5;", "-9 at 0", "icE 5;", "-9 at 0",
            "oce 5;", "-9 at 0", "icez 5;", "-9 at 0", "ice{5;", "-9 at 3", "ice`5;", "-9 at 3", "ice 5/;", "-9 at 5", "ice 5:;", "-9 at 5",
            ";", "-9 at 0", "  ;", "-9 at 2", "ice 5;;", "-9 at 6", "5;", "-9 at 0", "5001;", "-9 at 0",
            "ice;", "-9 at 3", "ice x;", "-9 at 4", "ice -5;", "-9 at 4", "ice 5 6;", "-9 at 6", "ice 5x;", "-9 at 5",
            "ice 5,", "-9 at 5", "ice 5.0;", "-9 at 5", "ice\t5;", "-9 at 3", "ice 5;\n", "-9 at 6",
            "drop", "-9 at 4", "drop from 5;", "-9 at 5", "drop 5;", "-9 at 6", "drop 5", "-9 at 6",
            "drop 5 fro 5;", "-9 at 7", "drop 5 from", "-9 at 11", "drop 5 from;", "-9 at 11", "drop 5 from 6", "-9 at 13",
            "drop 5 fromm 6;", "-9 at 7", "drop 5 ice 6;", "-9 at 7", "dropfrom 5;", "-9 at 0", "drop 1 from 2 3;", "-9 at 14",
            "from 5;", "-9 at 0", "starboard;", "-9 at 0", "iceway ahead;", "-9 at 0", "wayahead;", "-9 at 0",
            "ice 5;ice 6;x", "-9 at 12", "ice 5 ice 6;", "-9 at 6", "ice 5;\0", "-9 at 6",
        };
        for (int i = 0; i < textsAndFaults.length; i += 2) {
            String text = textsAndFaults[i];
            C.due(textsAndFaults[i + 1], () -> Check.told(x, text));
        }
        C.due(0, () -> x.count(2));
    }

    private static void numberFaults() {
        C.part("promises 14 and 15");
        IceRegatta x = new IceRegatta();
        C.due("-8 at 4", () -> Check.told(x, "ice 5001;"));
        C.due("-8 at 4", () -> Check.told(x, "ice 5001"));
        C.due("-8 at 3", () -> Check.told(x, "ice5001 what;"));
        C.due("-8 at 6", () -> Check.told(x, "drop  5001;"));
        C.due("-8 at 5", () -> Check.told(x, "drop 5001 from x"));
        C.due("-8 at 12", () -> Check.told(x, "drop 1 from 99999;"));
        C.due("-8 at 4", () -> Check.told(x, "ice 4294967296;"));
        C.due("-8 at 4", () -> Check.told(x, "ice 18446744073709551616;"));
        C.due("-8 at 4", () -> Check.told(x, "ice 10000000000000000000000000000000000000000000000000;"));
        C.due("-9 at 5", () -> Check.told(x, "ice 0x5001;"));
        C.due("1 at -1", () -> Check.told(x, "drop 5000 from 5000;"));
    }

    private static void clauseFaults() {
        C.part("promises 14 and 15");
        IceRegatta x = new IceRegatta();
        String ten = "ice 1;".repeat(10);
        C.due("10 at -1", () -> Check.told(x, ten));
        C.due("10 at -1", () -> Check.told(x, ten + "   "));
        C.due(10, () -> x.count(2));
        C.due("-7 at 60", () -> Check.told(x, ten + "ice 1;"));
        C.due("-7 at 62", () -> Check.told(x, ten + "  way ahead;"));
        C.due("-7 at 60", () -> Check.told(x, ten + "drop"));
        C.due("-7 at 60", () -> Check.told(x, ten + "ice 5001;"));
        C.due("-9 at 60", () -> Check.told(x, ten + "what;"));
        C.due("-9 at 61", () -> Check.told(x, ten + " ;"));
        C.due("-9 at 60", () -> Check.told(x, ten + "7"));
        C.due(10, () -> x.count(2));
        C.due("-9 at 59", () -> Check.told(x, "ice 1;".repeat(9) + "ice 1 ice 1;".substring(0, 5)));
    }

    private static void rightFaults() {
        C.part("promises 14 and 15");
        IceRegatta x = new IceRegatta();
        C.due("-9 at 3", () -> Check.told(x, "way;"));
        C.due("-9 at 3", () -> Check.told(x, "way"));
        C.due("-9 at 4", () -> Check.told(x, "way port;"));
        C.due("-9 at 4", () -> Check.told(x, "way 5;"));
        C.due("-9 at 9", () -> Check.told(x, "way ahead"));
        C.due("-9 at 10", () -> Check.told(x, "way ahead ahead;"));
        C.due("-9 at 18", () -> Check.told(x, "way ahead leeward ahead;"));
        C.due("-9 at 28", () -> Check.told(x, "way ahead leeward starboard leeward;"));
        C.due("-9 at 28", () -> Check.told(x, "way ahead leeward starboard what;"));
        C.due("-9 at 27", () -> Check.told(x, "way ahead leeward starboard"));
        C.due("-9 at 4", () -> Check.told(x, "way aheadleeward;"));
        C.due("-9 at 9", () -> Check.told(x, "way ahead,leeward;"));
        C.due("2 at -1", () -> Check.told(x, "way ahead;way ahead leeward starboard  ;"));
    }

    private static void fault() {
        C.part("promise 15");
        IceRegatta x = new IceRegatta();
        C.due(-1, () -> x.fault());
        Check.tell(x, "  what");
        C.due(2, () -> x.fault());
        C.due(Check.ARGUMENT, () -> x.rule(1));
        C.due(2, () -> x.fault());
        Check.tell(x, "ice 1;");
        C.due(-1, () -> x.fault());
    }
}
