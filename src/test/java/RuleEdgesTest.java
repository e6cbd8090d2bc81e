/** The boundary cases that the terms of the RULE and promises 13 to 15 name, sentence by sentence. */
public final class RuleEdgesTest {
    private static final Check C = new Check();

    public static void main(String[] args) {
        emptyText();
        clauseNeedsItsEnd();
        numbersOfAllClauses();
        digitsAsManyAsStandThere();
        bytesRoundTheDigits();
        lettersAsManyAsStandThere();
        bytesRoundTheLetters();
        blanksAhead();
        bytesThatAreNoBlanks();
        tenClauses();
        lastOfAKind();
        withoutClauses();
        firstFaultFromTheLeft();
        faultAtTheLength();
        secondRight();
        numberAboveMost();
        eleventhClause();
        leastFaultOfOnePlace();
        feedFull();
        feedHighestFirst();
        ruleNumber();
        ruleEmptiesTheTape();
        ruleStays();
        ruleOfFirstBytes();
        faultOfTheLatest();
        C.end();
    }

    private static void dueFault(String want, String text) {
        IceRegatta x = new IceRegatta();
        C.due(want, () -> Check.told(x, text));
        C.due(0, () -> x.count(2));
    }

    private static void dueClauses(int want, String text) {
        IceRegatta x = new IceRegatta();
        C.due(want + " at -1", () -> Check.told(x, text));
        C.due(want, () -> x.count(2));
    }

    private static boolean bears(IceRegatta x, int low) {
        x.sound(0, low, 0);
        return x.ice(0, 2) == 1;
    }

    /** The ICE that a text tells, found by the least LOW that is SAFE. */
    private static void dueIce(int want, String text) {
        IceRegatta x = new IceRegatta();
        Check.tell(x, text);
        C.due(true, () -> bears(x, want));
        if (want > 0) {
            C.due(false, () -> bears(x, want - 1));
        }
    }

    private static void emptyText() {
        C.part("RULE: a text: { CLAUSE \";\" }: also none");
        dueClauses(0, "");
        dueClauses(0, " ");
        dueClauses(0, " ".repeat(200));
        dueFault("-9 at 0", ";");
        dueFault("-9 at 199", " ".repeat(199) + ";");
        dueClauses(1, "ice 1;");
        dueFault("-9 at 6", "ice 1;;");
        dueFault("-9 at 7", "ice 1; ;");
    }

    private static void clauseNeedsItsEnd() {
        C.part("RULE: { CLAUSE \";\" }: the last one, too");
        dueFault("-9 at 5", "ice 1");
        dueFault("-9 at 13", "drop 1 from 2");
        dueFault("-9 at 9", "way ahead");
        dueFault("-9 at 11", "ice 1;ice 2");
        dueFault("-9 at 5", "ice 1,ice 2;");
        dueFault("-9 at 5", "ice 1:");
        dueFault("-9 at 200", "ice 1" + " ".repeat(195));
    }

    private static void numbersOfAllClauses() {
        C.part("N: .. 0 to 5,000");
        for (String n : new String[] {"0", "1", "4999", "5000"}) {
            dueClauses(1, "ice " + n + ";");
            dueClauses(1, "drop " + n + " from 1;");
            dueClauses(1, "drop 1 from " + n + ";");
        }
        for (String n : new String[] {"5001", "5002", "9999", "50000", "65536", "2147483647", "2147483648", "4294967295", "4294967296"}) {
            dueFault("-8 at 4", "ice " + n + ";");
            dueFault("-8 at 5", "drop " + n + " from 1;");
            dueFault("-8 at 12", "drop 1 from " + n + ";");
        }
        dueFault("-9 at 4", "ice -1;");
        dueFault("-9 at 4", "ice +1;");
        dueFault("-9 at 5", "ice 5,000;");
        dueIce(0, "ice 0;");
        dueIce(1, "ice 1;");
        dueIce(4999, "ice 4999;");
        dueIce(5000, "ice 5000;");
    }

    private static void digitsAsManyAsStandThere() {
        C.part("N: digits, as many as stand there");
        dueIce(5000, "ice 05000;");
        dueIce(0, "ice 00;");
        dueIce(7, "ice " + "0".repeat(194) + "7;");
        dueIce(5000, "ice" + "0".repeat(192) + "5000;");
        dueFault("-8 at 3", "ice" + "0".repeat(192) + "5001;");
        dueFault("-8 at 4", "ice 05001;");
        dueFault("-8 at 3", "ice" + "9".repeat(197));
        dueFault("-8 at 3", "ice1" + "0".repeat(195) + ";");
        // Numbers that an int or a long would take for small ones.
        dueFault("-8 at 4", "ice 4294967297;");
        dueFault("-8 at 4", "ice 18446744073709551617;");
        dueFault("-8 at 4", "ice 340282366920938463463374607431768211457;");
        dueFault("-9 at 6", "ice 1 2;");
        dueFault("-9 at 3", "ice");
        dueFault("-9 at 3", "ice;");
    }

    private static void bytesRoundTheDigits() {
        C.part("N: digits");
        dueClauses(1, "ice 0;");
        dueClauses(1, "ice 9;");
        dueFault("-9 at 4", "ice /;");
        dueFault("-9 at 4", "ice :;");
        dueFault("-9 at 5", "ice 1/;");
        dueFault("-9 at 5", "ice 1:;");
        for (int sign = 0; sign < 256; sign++) {
            boolean isDigit = sign >= '0' && sign <= '9';
            boolean isLetter = sign >= 'a' && sign <= 'z';
            if (isDigit) {
                dueClauses(1, "ice" + (char) sign + "5;");
            } else if (sign != ' ') {
                dueFault("-9 at " + (isLetter ? 0 : 3), "ice" + (char) sign + "5;");
            }
        }
    }

    private static void lettersAsManyAsStandThere() {
        C.part("WORDS are small letters, as many as stand there");
        for (String word : new String[] {"ic", "i", "icee", "icex", "iceice", "dro", "drops", "wa", "ways", "wayahead", "from", "ahead"}) {
            dueFault("-9 at 0", word);
            dueFault("-9 at 0", word + ";");
            dueFault("-9 at 0", word + " 1;");
        }
        for (String word : new String[] {"xce", "ixe", "icx", "xrop", "drox", "xay", "wxy", "wax"}) {
            dueFault("-9 at 0", word + " 1;");
            dueFault("-9 at 0", word + " ahead;");
            dueFault("-9 at 0", word + " 1 from 1;");
        }
        for (String word : new String[] {"xrom", "frox", "ice", "ahead"}) {
            dueFault("-9 at 7", "drop 1 " + word + " 2;");
        }
        for (String word : new String[] {"xtarboard", "starboarx", "xeeward", "leewarx", "xhead", "aheax", "from", "way"}) {
            dueFault("-9 at 4", "way " + word + ";");
        }
        dueFault("-9 at 7", "drop 1 fro 2;");
        dueFault("-9 at 7", "drop 1 fromm 2;");
        dueFault("-9 at 6", "drop 1fro2;");
        dueFault("-9 at 4", "way starboar;");
        dueFault("-9 at 4", "way starboards;");
        dueFault("-9 at 4", "way aheadleeward;");
        dueFault("-9 at 4", "way leewar");
        dueFault("-9 at 4", "way port;");
        dueFault("-9 at 0", "a".repeat(200));
        dueClauses(1, "drop1from2;");
        dueClauses(3, "ice1;drop1from2;way ahead;");
    }

    private static void bytesRoundTheLetters() {
        C.part("WORDS are small letters");
        dueFault("-9 at 0", "ICE 1;");
        dueFault("-9 at 0", "Ice 1;");
        dueFault("-9 at 0", "icE 1;");
        dueFault("-9 at 3", "ice`1;");
        dueFault("-9 at 3", "ice{1;");
        dueFault("-9 at 0", "`ice 1;");
        dueFault("-9 at 0", "{ice 1;");
        dueFault("-9 at 0", "aice 1;");
        dueFault("-9 at 0", "icez 1;");
        dueFault("-9 at 9", "way ahead{;");
        dueFault("-9 at 9", "way ahead`;");
        dueFault("-9 at 3", "ice" + (char) ('1' + 128) + ";");
        dueFault("-9 at 0", (char) ('i' + 128) + "ce 1;");
        dueFault("-9 at 5", "ice 1" + (char) (';' + 128));
    }

    private static void blanksAhead() {
        C.part("blanks (32) may stand ahead of all these, and at the end");
        dueClauses(3, "ice1;drop1from2;way ahead;");
        dueClauses(3, " ice 1 ; drop 1 from 2 ; way ahead leeward ; ");
        dueClauses(2, "   drop   1   from   2   ;   way   ahead   starboard   leeward   ;   ");
        dueClauses(1, " ".repeat(100) + "ice 1;" + " ".repeat(94));
        dueClauses(1, " ".repeat(195) + "ice1;");
        dueClauses(1, "ice1;" + " ".repeat(195));
        dueFault("-9 at 0", "i ce 1;");
        dueFault("-9 at 0", "wa y ahead;");
        dueFault("-9 at 6", "ice 1 0;");
        dueFault("-9 at 7", "drop 1 fr om 2;");
    }

    private static void bytesThatAreNoBlanks() {
        C.part("blanks (32)");
        for (int sign : new int[] {0, 9, 10, 11, 13, 31, 33, 127, 128, 160, 255}) {
            dueFault("-9 at 0", (char) sign + "ice 1;");
            dueFault("-9 at 3", "ice" + (char) sign + "1;");
            dueFault("-9 at 5", "ice 1" + (char) sign + ";");
            dueFault("-9 at 6", "ice 1;" + (char) sign);
        }
    }

    private static void tenClauses() {
        C.part("10 CLAUSES at most");
        for (int many = 0; many <= 10; many++) {
            dueClauses(many, "ice 1;".repeat(many));
            dueClauses(many, "ice 1;".repeat(many) + "  ");
        }
        dueClauses(10, "way ahead;".repeat(10));
        dueClauses(10, "drop 1 from 2;".repeat(10));
        dueClauses(10, "ice 1;drop 1 from 2;way ahead;".repeat(3) + "ice 5000;");
        dueFault("-7 at 60", "ice 1;".repeat(11));
        dueFault("-7 at 60", "ice 1;".repeat(12));
        dueFault("-7 at 100", "way ahead;".repeat(11));
        dueFault("-7 at 140", "drop 1 from 2;".repeat(11));
        dueFault("-7 at 60", "ice 1;".repeat(33));
    }

    private static void lastOfAKind() {
        C.part("of a kind the last one counts");
        dueIce(10, "ice 1;ice 2;ice 3;ice 4;ice 5;ice 6;ice 7;ice 8;ice 9;ice 10;");
        dueIce(1, "ice 5000;ice 0;ice 1;drop 1 from 1;way ahead;");
        IceRegatta x = Check.with(2);
        Check.race(x);
        Check.race(x, 0);
        Check.tell(x, "drop 2 from 0;drop 1 from 0;");
        C.due(1, () -> x.score(0));
        Check.tell(x, "drop 1 from 0;drop 1 from 3;");
        C.due(4, () -> x.score(0));
        Check.tell(x, "drop 1 from 0;drop 0 from 0;");
        C.due(4, () -> x.score(0));
        x.place(0, 0, 5, 0);
        x.place(1, 0, 9, 0);
        Check.tell(x, "way ahead starboard leeward;way leeward;");
        C.due(-1, () -> x.clear(0, 1));
        Check.tell(x, "way leeward;way ahead;");
        C.due(1, () -> x.clear(0, 1));
    }

    private static void withoutClauses() {
        C.part("Without: ICE 150; nothing dropped; no WAYS of right");
        for (String text : new String[] {null, "", "   "}) {
            IceRegatta x = Check.with(2);
            Check.race(x);
            Check.race(x);
            x.place(0, 0, 0, 7);
            x.place(1, 0, 0, 1);
            if (text != null) {
                C.due(3, () -> Check.tell(x, "ice 1;drop 1 from 1;way starboard;"));
                C.due("3 1", () -> x.score(0) + " " + x.clear(0, 1));
                C.due(0, () -> Check.tell(x, text));
            }
            C.due(6, () -> x.score(0));
            C.due(-1, () -> x.clear(0, 1));
            C.due(false, () -> bears(x, 149));
            C.due(true, () -> bears(x, 150));
        }
        dueIce(150, "drop 1 from 1;way ahead;");
        IceRegatta y = Check.with(1);
        Check.race(y);
        Check.tell(y, "ice 5000;way ahead;");
        C.due(2, () -> y.score(0));
    }

    private static void firstFaultFromTheLeft() {
        C.part("FAULTS, the first from the left, at its first byte");
        dueFault("-9 at 0", "what 5001;");
        dueFault("-8 at 4", "ice 5001 what;");
        dueFault("-8 at 4", "ice 5001;what;");
        dueFault("-8 at 4", "ice 5001");
        dueFault("-8 at 5", "drop 5001 from 5001;");
        dueFault("-8 at 5", "drop 5001 what");
        dueFault("-9 at 7", "drop 1 what 5001;");
        dueFault("-9 at 6", "ice 1 5001;");
        dueFault("-8 at 4", "ice 9999;" + "ice 1;".repeat(10));
        dueFault("-9 at 58", "ice 1;".repeat(9) + "ice what;ice 1;");
        dueFault("-8 at 58", "ice 1;".repeat(9) + "ice 5001;ice 1;");
        dueFault("-9 at 3", "   what");
        dueFault("-8 at 12", "drop 1 from 5001;what");
        dueFault("-8 at 12", "drop 1 from 5001 what");
        dueFault("-8 at 12", "drop 1 from 5001");
        dueFault("-9 at 11", "drop 1 from;what");
        dueFault("-9 at 11", "drop 1 from;ice 5001;");
        dueFault("-8 at 5", "drop 5001;what");
        dueFault("-9 at 3", "ice;what");
        dueFault("-9 at 3", "way;what");
        dueFault("-9 at 10", "way ahead ahead;what");
        dueFault("-9 at 6", "ice 1 ice 5001;");
        dueFault("-8 at 6", "ice   5001;");
        dueFault("-9 at 6", "ice 1;1");
    }

    private static void faultAtTheLength() {
        C.part("1 what can't stand there (at the length, if the text ends too early ..)");
        String text = "  ice  7  ;  drop  1  from  2  ;  way  ahead  leeward  ;  ";
        // Ends at which a CLAUSE is whole or none begun; ends within a word of letters; all others are too early.
        for (int n = 0; n <= text.length(); n++) {
            IceRegatta x = new IceRegatta();
            Check.feed(x, text);
            int end = n;
            C.due(answerOfPrefix(text, n), () -> x.rule(end) + " at " + x.fault());
        }
    }

    private static String answerOfPrefix(String text, int n) {
        String prefix = text.substring(0, n);
        String rest = prefix.substring(prefix.lastIndexOf(';') + 1).trim();
        if (rest.isEmpty()) {
            return prefix.replaceAll("[^;]", "").length() + " at -1";
        }
        String last = rest.substring(rest.lastIndexOf(' ') + 1);
        boolean isWhole = "ice drop from way ahead leeward 7 1 2".matches("(.* )?" + last + "( .*)?");
        return "-9 at " + (isWhole ? n : prefix.lastIndexOf(last));
    }

    private static void secondRight() {
        C.part("a W a second time in its CLAUSE, too");
        for (String w : new String[] {"starboard", "leeward", "ahead"}) {
            dueClauses(1, "way " + w + ";");
            dueFault("-9 at " + (5 + w.length()), "way " + w + " " + w + ";");
            dueClauses(2, "way " + w + ";way " + w + ";");
        }
        dueFault("-9 at 18", "way ahead leeward ahead;");
        dueFault("-9 at 18", "way ahead leeward leeward;");
        dueFault("-9 at 28", "way ahead leeward starboard ahead;");
        dueFault("-9 at 28", "way ahead leeward starboard leeward;");
        dueFault("-9 at 28", "way ahead leeward starboard starboard;");
        dueFault("-9 at 28", "way ahead leeward starboard starboard");
        dueFault("-9 at 3", "way;");
        dueFault("-9 at 3", "way");
        for (String all : new String[] {"starboard leeward ahead", "starboard ahead leeward", "leeward starboard ahead",
            "leeward ahead starboard", "ahead starboard leeward", "ahead leeward starboard"}) {
            dueClauses(1, "way " + all + ";");
        }
    }

    private static void numberAboveMost() {
        C.part("2 an N above 5,000");
        dueClauses(1, "ice 5000;");
        dueFault("-8 at 4", "ice 5001;");
        dueFault("-8 at 4", "ice 5001 ;");
        dueFault("-8 at 19", "ice 1;drop 1 from  5001;");
        dueFault("-9 at 4", "way 5001;");
        dueFault("-9 at 0", "5001;");
    }

    private static void eleventhClause() {
        C.part("3 an 11th CLAUSE");
        String ten = "ice 1;".repeat(10);
        dueFault("-7 at 60", ten + "ice");
        dueFault("-7 at 60", ten + "ice 5001;");
        dueFault("-7 at 60", ten + "drop 1 what;");
        dueFault("-7 at 60", ten + "way ahead ahead;");
        dueFault("-7 at 64", ten + "    way ahead;");
        dueFault("-7 at 197", ten + " ".repeat(137) + "way");
        dueClauses(10, ten + " ".repeat(140));
    }

    private static void leastFaultOfOnePlace() {
        C.part("of one the least");
        String ten = "ice 1;".repeat(10);
        dueFault("-9 at 60", ten + "what;");
        dueFault("-9 at 60", ten + "ic");
        dueFault("-9 at 60", ten + ";");
        dueFault("-9 at 60", ten + "5001;");
        dueFault("-9 at 60", ten + "iceice 1;");
        dueFault("-9 at 61", ten + " what;");
        dueFault("-9 at 0", "9999");
        dueFault("-9 at 7", "drop 1 5001 from 2;");
        dueFault("-9 at 14", "drop 1 from 2 5001;");
        dueFault("-9 at 4", "way 5001;");
    }

    private static void feedFull() {
        C.part("promise 13: NONE, doing nothing, if there would be more than 200");
        IceRegatta x = new IceRegatta();
        Check.feed(x, "ice 7;" + " ".repeat(174));
        C.due(180, () -> x.count(5));
        C.due(200, () -> x.feed(0x20202020, 0x20202020, 0x20202020, 0x20202020, 0x20202020));
        for (int i = 0; i < 3; i++) {
            C.due(-1, () -> x.feed(-1, -1, -1, -1, -1));
            C.due(200, () -> x.count(5));
        }
        C.due("1 at -1", () -> x.rule(200) + " at " + x.fault());
        C.due("true false", () -> bears(x, 7) + " " + bears(x, 6));
        C.due(20, () -> x.feed(0x20202020, 0x20202020, 0x20202020, 0x20202020, 0x20202020));
        IceRegatta y = new IceRegatta();
        for (int many = 20; many <= 200; many += 20) {
            int bytes = many;
            C.due(bytes, () -> y.feed(0, 0, 0, 0, 0));
            C.due(bytes, () -> y.count(5));
        }
        C.due(-1, () -> y.feed(0, 0, 0, 0, 0));
    }

    private static void feedHighestFirst() {
        C.part("promise 13: Twenty bytes come on the TAPE, of each number the highest first");
        // Each of the twenty bytes is told by the place of the first FAULT, and by its very value.
        for (int place = 0; place < 20; place++) {
            for (int value : new int[] {0, 31, 33, 127, 128, 255}) {
                int[] n = new int[5];
                for (int at = 0; at < 20; at++) {
                    n[at / 4] = n[at / 4] << 8 | (at == place ? value : ' ');
                }
                IceRegatta x = new IceRegatta();
                C.due(20, () -> x.feed(n[0], n[1], n[2], n[3], n[4]));
                String due = "-9 at " + place;
                C.due(due, () -> x.rule(20) + " at " + x.fault());
            }
        }
        IceRegatta x = new IceRegatta();
        C.due(20, () -> x.feed(0x69636520, 0x31323334, 0x3b647270, 0, 0));
        C.due("1 at -1", () -> x.rule(9) + " at " + x.fault());
        C.due("true false", () -> bears(x, 1234) + " " + bears(x, 1233));
        C.due(20, () -> x.feed(0x20202020, 0x20202020, 0x20202020, 0x20202020, 0x20206963));
        C.due(40, () -> x.feed(0x65333b20, 0x20202020, 0x20202020, 0x20202020, 0x20202020));
        C.due("1 at -1", () -> x.rule(40) + " at " + x.fault());
        C.due("true false", () -> bears(x, 3) + " " + bears(x, 2));
    }

    private static IceRegatta withBytes(int bytes) {
        IceRegatta x = new IceRegatta();
        Check.feed(x, " ".repeat(bytes));
        return x;
    }

    private static void ruleNumber() {
        C.part("promise 14: IllegalArgumentException: n is not 0 to the TAPE's bytes");
        for (int bytes = 0; bytes <= 200; bytes += 20) {
            int many = bytes;
            C.takes(0, many, Check.ARGUMENT, n -> withBytes(many).rule(n));
            IceRegatta x = withBytes(many);
            C.due(Check.ARGUMENT, () -> x.rule(many + 1));
            C.due(Check.ARGUMENT, () -> x.rule(-1));
            C.due(many, () -> x.count(5));
            C.due(0, () -> x.rule(many));
            C.due(Check.ARGUMENT, () -> x.rule(1));
            C.due(0, () -> x.rule(0));
        }
        IceRegatta x = new IceRegatta();
        Check.tell(x, "ice 7; what");
        Check.tell(x, "ice 7;ice 8;");
        Check.feed(x, "ice 9;");
        C.due(Check.ARGUMENT, () -> x.rule(21));
        C.due("2 20", () -> x.count(2) + " " + x.count(5));
        C.due("1 at -1", () -> x.rule(6) + " at " + x.fault());
    }

    private static void ruleEmptiesTheTape() {
        C.part("promise 14: The first n bytes of the TAPE (empty then) are the RULE");
        for (int n : new int[] {0, 6, 12, 7, 20}) {
            IceRegatta x = new IceRegatta();
            Check.feed(x, "ice 1;ice 2;what");
            C.due(20, () -> x.count(5));
            x.rule(n);
            C.due(0, () -> x.count(5));
            C.due(Check.ARGUMENT, () -> x.rule(1));
            C.due(20, () -> x.feed(0x69636539, 0x3b202020, 0x20202020, 0x20202020, 0x20202020));
            C.due("1 at -1", () -> x.rule(20) + " at " + x.fault());
            C.due("true false", () -> bears(x, 9) + " " + bears(x, 8));
        }
        IceRegatta full = withBytes(200);
        C.due(0, () -> full.rule(1));
        for (int bytes = 20; bytes <= 200; bytes += 20) {
            int many = bytes;
            C.due(many, () -> full.feed(0, 0, 0, 0, 0));
        }
    }

    private static void ruleStays() {
        C.part("promise 14: or its FAULT less 10 (the RULE stays)");
        String[] faults = {"what", "ice 7;drop 1 from 0;way ahead;what", "ice 5001;", "ice 7;ice 5001;", "ice 8;drop 5001 from 1;",
            "way ahead;drop 1 from 5001;", "way ahead ahead;", "way ahead leeward what;", "ice 7", "ice 7;drop 1 from 0", "ice 7;".repeat(11)};
        for (String text : faults) {
            IceRegatta x = Check.with(2);
            x.place(0, 0, 5, 7);
            x.place(1, 9, 5, 7);
            Check.race(x, 0);
            Check.race(x);
            C.due(3, () -> Check.tell(x, "ice 200;drop 1 from 2;way leeward starboard;"));
            C.due(true, () -> Check.tell(x, text) < 0);
            C.due(3, () -> x.count(2));
            C.due("true false", () -> bears(x, 200) + " " + bears(x, 199));
            C.due("1 3", () -> x.score(0) + " " + x.score(1));
            C.due(-1, () -> x.clear(0, 1));
            x.place(1, 9, 4, 7);
            C.due(1, () -> x.clear(0, 1));
        }
    }

    private static void ruleOfFirstBytes() {
        C.part("promise 14: The first n bytes of the TAPE are the RULE");
        String text = "ice 1234;way ahead;what";
        String[] answers = {"0 at -1", "-9 at 0", "-9 at 0", "-9 at 3", "-9 at 4", "-9 at 5", "-9 at 6", "-9 at 7", "-9 at 8", "1 at -1",
            "-9 at 9", "-9 at 9", "-9 at 12", "-9 at 13", "-9 at 13", "-9 at 13", "-9 at 13", "-9 at 13", "-9 at 18", "2 at -1", "-9 at 19"};
        for (int n = 0; n < answers.length; n++) {
            IceRegatta x = new IceRegatta();
            Check.feed(x, text);
            int bytes = n;
            C.due(answers[n], () -> x.rule(bytes) + " at " + x.fault());
        }
    }

    private static void faultOfTheLatest() {
        C.part("promise 15: The place of the FAULT of the latest rule(); NONE without");
        IceRegatta x = new IceRegatta();
        C.due(-1, () -> x.fault());
        C.due(0, () -> x.rule(0));
        C.due(-1, () -> x.fault());
        C.due("-9 at 0", () -> Check.told(x, "what"));
        C.due(0, () -> x.fault());
        C.due("-9 at 199", () -> Check.told(x, " ".repeat(199) + "x"));
        C.due("-9 at 200", () -> Check.told(x, " ".repeat(197) + "ice"));
        C.due(200, () -> x.fault());
        Check.feed(x, "ice 1;");
        C.due(200, () -> x.fault());
        C.due(0, () -> x.rule(0));
        C.due(-1, () -> x.fault());
        C.due("-8 at 4", () -> Check.told(x, "ice 5001;"));
        C.due("1 at -1", () -> Check.told(x, "ice 5000;"));
        C.due("-7 at 60", () -> Check.told(x, "ice 1;".repeat(11)));
        C.due("10 at -1", () -> Check.told(x, "ice 1;".repeat(10)));
    }
}
