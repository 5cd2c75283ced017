/** Terms: the text, its faults, the answer, and how calls are refused. */
final class TextSentences {
    private static final String[] SETTINGS = {"turn", "place", "stratum", "size", "value"};
    /** Each word with numbers that may stand there as long as there are one to eleven units. */
    private static final String[] EVERY_KIND = {"unit 1 1 1 1 1;", "turn 0 3;", "place 0 3;", "stratum 0 0;",
        "size 0 3;", "value 0 3;", "row;", "near;", "strata;", "far;", "chance;", "walk 123;", "many;"};

    private TextSentences() {
    }

    static void tell(Sentences doc) {
        doc.in("Terms");
        doc.says("======== 2 THE TEXT (120 bytes at most)", TextSentences::bytes120);
        doc.says("tells SENTENCES, each ended by ; :", TextSentences::ended);
        doc.says("a word and numbers (1 or 2 figures,", TextSentences::figures);
        doc.says("of walk 1 to 6;", TextSentences::figuresOfWalk);
        doc.says("blanks (32) between, needed only between figures):", TextSentences::blanks);
        doc.says("unit c p t x y (a UNIT comes: CHANCE, PLACE, STRATUM, SIZE, VALUE: answers its number),",
                TextSentences::unit);
        doc.says("turn u c, place u p, stratum u t, size u x, value u y (CHANCE, .. becomes so; answer what it was),",
                TextSentences::settings);
        doc.says("row, near, strata, far, chance (METHOD; answer the word of the one ahead),", TextSentences::methods);
        doc.says("walk n (by SEED n: answers the SAMPLE's UNITS, rising, with + between; - if none),",
                TextSentences::walk);
        doc.says("many (how many UNITS are in the last SAMPLE).", TextSentences::many);
        doc.says("FAULT: the place of the first byte of the first word, number, sign that can not stand there",
                TextSentences::firstFault);
        doc.says("(a word that is none,", TextSentences::noWord);
        doc.says("a number not as told,", TextSentences::numberNotAsTold);
        doc.says("also of UNITS by then,", TextSentences::unitsByThen);
        doc.says("of too many figures;", TextSentences::tooManyFigures);
        doc.says("a unit when there are 12: the word);", TextSentences::thirteenthUnit);
        doc.says("the TEXT's length, if it ends too early (an empty one, too).", TextSentences::endsTooEarly);
        doc.says("If there is one, nothing is done.", TextSentences::nothingIsDone);
        doc.says("THE ANSWER: all answers with a blank between,", TextSentences::blankBetween);
        doc.says("300 signs at most (the rest left out);", TextSentences::signs300);
        doc.says("empty at first.", TextSentences::emptyAtFirst);
        doc.says("Refused, changing nothing but how often, the first of:", TextSentences::refused);
        doc.says("BAD -2 a number is not as told;", TextSentences::bad);
        doc.says("NO -3 (told by none);", TextSentences::toldByNone);
        doc.says("FULL -4 as many as may be.", TextSentences::full);
        doc.says("By a FAULT nothing counts.", TextSentences::faultCountsNothing);
        doc.heading("Ahead of the calls `unit`, `sets`, `empties`, `draw`, `of`, `all`, `method`"
                + " the interface says: ---- units.");
        doc.heading("Ahead of the calls `walk`, `was`, `play`, `counted`, `inside`, `spread`"
                + " the interface says: ---- walks.");
        doc.heading("Ahead of the calls `often`, `both`, `best` the interface says: ---- many walks");
        doc.says("(the last SAMPLE stays).", TextSentences::lastSampleStays);
        doc.heading("Ahead of the calls `many`, `sizes`, `can`, `least` the interface says: ---- all there can be.");
        doc.heading("Ahead of the calls `type`, `clear`, `says`, `answer`, `told`, `digest`"
                + " the interface says: ---- words.");
    }

    private static void bytes120() {
        DuelSamples d = new DuelSamples();
        Calls.types(d, "row;far;".repeat(15));
        Check.due("bytes", d.told(3), 120);
        Check.due("one more", d.type(';'), Calls.FULL);
        Check.due("all thirty", d.says(), 30);
        Check.due("their answers", Calls.reply(d), ("row" + " row far".repeat(14) + " row"));
        Check.due("the last one was done", d.told(5), 3);
        DuelSamples e = new DuelSamples();
        Calls.fault(e, " ".repeat(119) + "x", 119);
        Calls.fault(e, " ".repeat(120), 120);
        Calls.fault(e, "row;".repeat(29) + "row ", 120);
        Check.due("far to the end", Calls.tells(e, " ".repeat(116) + "row;"), 1);
    }

    private static void ended() {
        DuelSamples d = new DuelSamples();
        Check.due("one", Calls.tells(d, "row;"), 1);
        Check.due("two", Calls.tells(d, "row;near;"), 2);
        Check.due("all kinds", Calls.tells(d, "unit 1 1 1 1 1;turn 0 5;walk 1;many;far;"), 5);
        Calls.fault(d, "row near;", 4);
        Calls.fault(d, "row;near", 8);
        Calls.fault(d, "row:", 3);
        Calls.fault(d, "row;;", 4);
        Calls.fault(d, ";", 0);
        Calls.fault(d, "many many;", 5);
        Calls.fault(d, "turn 0 5 turn 0 5;", 9);
    }

    private static void figures() {
        DuelSamples d = new DuelSamples();
        Check.due("one figure each", Calls.answered(d, "unit 1 2 3 4 5;"), "0");
        Check.due("two figures each", Calls.answered(d, "unit 01 02 03 04 05;"), "1");
        for (int what = 0; what < 5; what++) {
            Check.due("fact " + what + " by two figures", d.of(1, what), what + 1);
        }
        Check.due("a unit by two figures", Calls.answered(d, "turn 01 00;"), "1");
        Check.due("figures 00", d.of(1, 0), 0);
        Check.due("figures 99", Calls.answered(d, "size 0 99;"), "4");
        Check.due("it is 99", d.of(0, 3), 99);
        Calls.fault(d, "turn ;", 5);
        Calls.fault(d, "turn 0 ;", 7);
        Calls.fault(d, "turn 0 001;", 7);
        Calls.fault(d, "turn 000 1;", 5);
    }

    private static void figuresOfWalk() {
        for (String figures : new String[] {"7", "07", "007", "0007", "00007", "000007"}) {
            DuelSamples d = Calls.withChances(6, 6, 6, 6, 6);
            DuelSamples e = Calls.withChances(6, 6, 6, 6, 6);
            e.walk(7);
            Check.due("walk " + figures, Calls.tells(d, "walk " + figures + ";"), 1);
            Check.due("plays by " + figures, Calls.plays(d), Calls.plays(e));
        }
        DuelSamples d = Calls.withChances(6, 6);
        Check.due("walk 999999", Calls.tells(d, "walk 999999;"), 1);
        Calls.fault(d, "walk;", 4);
        Calls.fault(d, "walk 0000007;", 5);
        Calls.fault(d, "walk 1000000;", 5);
    }

    private static void blanks() {
        DuelSamples d = new DuelSamples();
        Check.due("many", Calls.answered(d, "   unit   5   6   1   8   9   ;   "), "0");
        Check.due("few", Calls.answered(d, "unit5 6 1 8 9;turn0 7;near;walk3;many;"), "1 5 row " + sample(d));
        Check.due("ahead of the sign", Calls.tells(d, "row ;many ;walk 3 ;"), 3);
        Check.due("behind the last sign", Calls.tells(d, "row; "), 1);
        Calls.fault(d, "unit 5 6 1 89;", 13);
        Calls.fault(d, "unit 56189;", 5);
        Calls.fault(d, "turn 01;", 7);
        Calls.fault(d, "walk 1 2;", 7);
        Calls.fault(d, "ma ny;", 0);
        Calls.fault(d, "m any;", 0);
        for (int other : new int[] {0, 9, 10, 13, 31, 33, 127}) {
            DuelSamples e = Calls.inUse();
            Calls.fault(e, "many" + (char) other + ";", 4);
            Calls.fault(e, "turn 0" + (char) other + "1;", 6);
            Calls.fault(e, (char) other + "many;", 0);
        }
    }

    /** What walk and many tell of the last sample. */
    private static String sample(DuelSamples d) {
        StringBuilder units = new StringBuilder();
        for (int u = 0; u < 12; u++) {
            units.append((d.was(0) >> u & 1) == 0 ? "" : (units.length() == 0 ? "" : "+") + u);
        }
        return (units.length() == 0 ? "-" : units) + " " + Integer.bitCount(d.was(0));
    }

    private static void unit() {
        DuelSamples d = new DuelSamples();
        String twelve = "unit 12 34 3 56 78;";
        for (int u = 0; u < 12; u++) {
            Check.due("unit " + u, Calls.answered(d, twelve), "" + u);
        }
        int[] want = {12, 34, 3, 56, 78, 0};
        for (int what = 0; what < 6; what++) {
            Check.due("of(0, " + what + ")", d.of(0, what), want[what]);
            Check.due("of(11, " + what + ")", d.of(11, what), want[what]);
        }
        DuelSamples e = new DuelSamples();
        Check.due("all in one text", Calls.answered(e, "unit0 0 0 0 0;".repeat(8)), "0 1 2 3 4 5 6 7");
        Check.due("and four more", Calls.answered(e, "unit0 0 0 0 0;".repeat(4)), "8 9 10 11");
    }

    private static void settings() {
        DuelSamples d = new DuelSamples();
        d.unit(12, 34, 3, 56, 78);
        d.unit(1, 2, 0, 4, 5);
        Check.due("what they were", Calls.answered(d, "turn 0 1;place 0 2;stratum 0 0;size 0 4;value 0 5;"),
                "12 34 3 56 78");
        for (int what = 0; what < 5; what++) {
            Check.due("of(0, " + what + ")", d.of(0, what), d.of(1, what));
        }
        Check.due("the most", Calls.answered(d, "turn 1 12;place 1 99;stratum 1 3;size 1 99;value 1 99;"), "1 2 0 4 5");
        for (int what = 0; what < 5; what++) {
            Check.due("of(1, " + what + ")", d.of(1, what), Calls.MOST[what]);
        }
        Check.due("twice", Calls.answered(d, "turn 1 0;turn 1 7;turn 1 7;"), "12 0 7");
    }

    private static void methods() {
        DuelSamples d = new DuelSamples();
        Check.due("words ahead", Calls.answered(d, "near;strata;far;chance;row;chance;"),
                "row near strata far chance row");
        Check.due("the method", d.told(5), 4);
        Check.due("the same again", Calls.answered(d, "chance;"), "chance");
        d.method(2);
        Check.due("as it was set", Calls.answered(d, "far;"), "strata");
        Check.due("the method then", d.method(0), 3);
    }

    private static void walk() {
        DuelSamples told = new DuelSamples();
        DuelSamples called = new DuelSamples();
        told.draw(21, 12);
        called.draw(21, 12);
        for (int seed : new int[] {0, 1, 222, 333333, 999999}) {
            called.walk(seed);
            String words = sample(called);
            Check.due("walk " + seed, Calls.answered(told, "walk " + seed + ";many;"), words);
            Check.due("plays by " + seed, Calls.plays(told), Calls.plays(called));
        }
        Check.due("all", Calls.answered(Calls.withChances(Calls.ALL_WHOLE), "walk 0;"), "0+1+2+3+4+5+6+7+8+9+10+11");
        Check.due("one", Calls.answered(Calls.withChances(0, 12, 0), "walk 0;"), "1");
        Check.due("none", Calls.answered(Calls.withChances(0, 0), "walk 0;"), "-");
        Check.due("no unit", Calls.answered(new DuelSamples(), "walk 0;"), "-");
        DuelSamples pair = Calls.withChances(6, 6);
        Check.due("behind what is told ahead", Calls.answered(pair, "turn 1 0;turn 0 12;walk 5;"), "6 6 0");
    }

    private static void many() {
        Check.due("of none", Calls.answered(new DuelSamples(), "many;"), "0");
        DuelSamples three = Calls.withChances(12, 0, 12);
        Check.due("ahead of a walk and behind it", Calls.answered(three, "many;walk 1;many;"), "0 0+2 2");
        DuelSamples d = Calls.walked(Calls.ALL_WHOLE);
        Check.due("of the last sample", Calls.answered(d, "turn 0 0;many;"), "12 12");
        Check.due("of the next one", Calls.answered(d, "walk 0;many;"), "1+2+3+4+5+6+7+8+9+10+11 11");
        d.empties();
        Check.due("of an emptied one", Calls.answered(d, "many;"), "0");
    }

    private static void firstFault() {
        DuelSamples d = Calls.inUse();
        Calls.fault(d, "x", 0);
        Calls.fault(d, "  x;y;", 2);
        Calls.fault(d, "row;x;y;", 4);
        Calls.fault(d, "row; x;", 5);
        Calls.fault(d, "unit 13 100 4;", 5);
        Calls.fault(d, "unit  1  100;", 9);
        Calls.fault(d, "turn 99 99;", 5);
        Calls.fault(d, "row 5;", 4);
        Calls.fault(d, "row5;", 3);
        Calls.fault(d, "many 0;", 5);
        Calls.fault(d, "unit 1 1 1 1 1 1;", 15);
        Calls.fault(d, "unit 1 1 1 1;", 12);
        Calls.fault(d, "unit row;", 5);
        Calls.fault(d, "walk 1x;", 6);
        Calls.fault(d, "walk -1;", 5);
        Calls.fault(d, "walk 1,", 6);
        Calls.fault(d, "near;walk 5;many;+", 17);
        for (char sign : "X`{@[/:-+.,(".toCharArray()) {
            Calls.fault(new DuelSamples(), "row" + sign + ";", 3);
            Calls.fault(new DuelSamples(), "walk 1" + sign + ";", 6);
            Calls.fault(new DuelSamples(), "walk " + sign + "1;", 5);
        }
    }

    private static void noWord() {
        String[] words = {"u", "Unit 6 1 0 5 5;", "ROW;", "ro w;", "rowrow;", "all;", "empties;", "sets 0 0 0;", "5;",
            "0 0;", "+", "(row);", "`row;", "{row;"};
        for (String text : words) {
            Calls.fault(Calls.inUse(), text, 0);
            Calls.fault(Calls.inUse(), "row;" + text, 4);
        }
        for (String sentence : EVERY_KIND) {
            almostAWord(sentence);
        }
    }

    /** The sentence with one letter of its word another, left out, or twice. */
    private static void almostAWord(String sentence) {
        int letters = sentence.replaceAll("[^a-z].*", "").length();
        DuelSamples d = Calls.inUse();
        for (int i = 0; i < letters; i++) {
            String ahead = sentence.substring(0, i);
            String behind = sentence.substring(i + 1);
            Calls.fault(d, ahead + 'q' + behind, 0);
            Calls.fault(d, ahead + behind, 0);
            Calls.fault(d, ahead + sentence.charAt(i) + sentence.substring(i), 0);
            d = Calls.inUse();
        }
    }

    private static void numberNotAsTold() {
        DuelSamples d = Calls.inUse();
        Calls.fault(d, "unit 13 1 0 5 5;", 5);
        Calls.fault(d, "unit 6 100 0 5 5;", 7);
        Calls.fault(d, "unit 6 1 4 5 5;", 9);
        Calls.fault(d, "unit 6 1 0 100 5;", 11);
        Calls.fault(d, "unit 6 1 0 5 100;", 13);
        Calls.fault(d, "turn 1 13;", 7);
        Calls.fault(d, "place 1 100;", 8);
        Calls.fault(d, "stratum 1 4;", 10);
        Calls.fault(d, "size 1 100;", 7);
        Calls.fault(d, "value 1 100;", 8);
        Calls.fault(d, "walk 1000000;", 5);
    }

    private static void unitsByThen() {
        DuelSamples d = Calls.inUse();
        for (String word : SETTINGS) {
            Calls.fault(d, word + " 3 0;", word.length() + 1);
        }
        Check.due("the last unit", Calls.tells(d, "turn 2 9;"), 1);
        DuelSamples e = Calls.inUse();
        Calls.fault(e, "unit 1 1 1 1 1;turn 4 0;", 20);
        Calls.fault(e, "turn 3 0;unit 1 1 1 1 1;", 5);
        Calls.fault(new DuelSamples(), "turn 0 0;", 5);
        for (String ahead : EVERY_KIND) {
            int more = ahead.startsWith("unit") ? 1 : 0;
            Calls.fault(Calls.inUse(), ahead + "turn " + (3 + more) + " 0;", ahead.length() + 5);
            String last = ahead + "turn " + (2 + more) + " 0;";
            Check.due(last, Calls.tells(Calls.inUse(), last), 2);
        }
        Check.due("one that comes ahead in the text", Calls.answered(e, "unit 1 2 3 4 5;turn 3 0;"), "3 1");
        e.draw(1, 12);
        Calls.fault(e, "turn 12 0;", 5);
        Check.due("the last of twelve", Calls.tells(e, "turn 11 0;"), 1);
        e.empties();
        Calls.fault(e, "turn 0 0;", 5);
    }

    private static void tooManyFigures() {
        DuelSamples d = Calls.inUse();
        Calls.fault(d, "unit 012 1 0 5 5;", 5);
        Calls.fault(d, "unit 6 001 0 5 5;", 7);
        Calls.fault(d, "unit 6 1 000 5 5;", 9);
        Calls.fault(d, "unit 6 1 0 005 5;", 11);
        Calls.fault(d, "unit 6 1 0 5 005;", 13);
        Calls.fault(d, "turn 002 0;", 5);
        Calls.fault(d, "turn 2 000;", 7);
        Calls.fault(d, "walk 0000001;", 5);
        Calls.fault(d, "walk 99999999999999999999;", 5);
        // 4294967297 is 1 and 2147483648 is below 0 where an int wraps around.
        Calls.fault(d, "walk 4294967297;", 5);
        Calls.fault(d, "walk 2147483648;", 5);
        Calls.fault(d, "walk 000000", 11);
    }

    private static void thirteenthUnit() {
        DuelSamples d = new DuelSamples();
        d.draw(1, 11);
        Calls.fault(d, "unit 1 1 1 1 1;unit 1 1 1 1 1;", 15);
        Calls.fault(d, "unit 1 1 1 1 1;row;unit 13", 19);
        Check.due("the twelfth", Calls.answered(d, "unit 1 1 1 1 1;"), "11");
        Calls.fault(d, "unit 1 1 1 1 1;", 0);
        Calls.fault(d, "row;  unit 1 1 1 1 1;", 6);
        Calls.fault(d, "unit 1", 0);
        Calls.fault(d, "unit", 0);
        d.draw(1, 11);
        for (String ahead : EVERY_KIND) {
            boolean isUnit = ahead.startsWith("unit");
            Calls.types(d, ahead + "unit 1 1 1 1 1;");
            Check.due("behind eleven and " + ahead, d.says(), isUnit ? -25 : 2);
            d = new DuelSamples();
            d.draw(1, 11);
        }
        d.empties();
        Check.due("when they went", Calls.answered(d, "unit 1 1 1 1 1;"), "0");
    }

    private static void endsTooEarly() {
        DuelSamples d = Calls.inUse();
        String[] early = {"", " ", "   ", "unit", "unit ", "unit 6", "unit 6 1 0 5", "unit 6 1 0 5 5",
            "unit 6 1 0 5 5 ", "row", "row ", "walk", "walk 1", "walk 1 ", "row;near", "turn 1", "turn 1 ", "turn 1 1",
            "many"};
        for (String text : early) {
            Calls.fault(d, text, text.length());
        }
    }

    private static void nothingIsDone() {
        for (String text : EVERY_KIND) {
            Calls.fault(Calls.inUse(), text + "x", text.length());
            Calls.fault(Calls.inUse(), text + "many", text.length() + 4);
            Check.due("without the fault it is done", Calls.tells(Calls.inUse(), text), 1);
        }
        Calls.fault(Calls.inUse(), String.join("", EVERY_KIND) + "x", 106);
    }

    private static void blankBetween() {
        DuelSamples d = Calls.withChances(12, 0, 12);
        Check.due("one answer", Calls.answered(d, "row;"), "row");
        Check.due("two answers", Calls.answered(d, "row;walk 1;"), "row 0+2");
        Check.due("four answers", Calls.answered(d, "  turn 0 11;many;  far;  unit 1 1 1 1 1;  "), "12 2 row 3");
    }

    private static void signs300() {
        String walks = "walk1;".repeat(11);
        String samples = ("0+1+2+3+4+5+6+7+8+9+10+11 ".repeat(11)).trim();
        DuelSamples d = Calls.withChances(Calls.ALL_WHOLE);
        Check.due("299 signs", Calls.answered(d, walks + "many;strata;row;"), samples + " 12 row strata");
        Check.due("how many", d.told(6), 299);
        DuelSamples e = Calls.withChances(Calls.ALL_WHOLE);
        Check.due("300 signs", Calls.answered(e, walks + "row;strata;row;"), samples + " row row strata");
        Check.due("how many", e.told(6), 300);
        DuelSamples f = Calls.withChances(Calls.ALL_WHOLE);
        Check.due("301 signs", Calls.answered(f, walks + "near;strata;row;"), samples + " row near strat");
        Check.due("how many", f.told(6), 300);
        Check.due("the 300th", f.answer(299), 't');
        Check.due("no more", f.answer(300), -5);
        DuelSamples g = Calls.withChances(Calls.ALL_WHOLE);
        Check.due("all are done", Calls.tells(g, walks + "walk1;near;turn 0 5;many;"), 15);
        Check.due("though not all is told", g.told(6), 300);
        Check.due("near was done", g.told(5), 1);
        Check.due("turn was done", g.of(0, 0), 5);
        Check.due("less again", Calls.answered(g, "many;"), "12");
    }

    private static void emptyAtFirst() {
        DuelSamples d = new DuelSamples();
        Check.due("signs", d.answer(Calls.NONE), 0);
        Check.due("the first sign", d.answer(0), -5);
        Check.due("told", d.told(6), 0);
    }

    private static void refused() {
        DuelSamples d = Calls.inUse();
        for (int u = 3; u < 12; u++) {
            d.unit(0, 0, 0, 0, 0);
        }
        Calls.bad(d, "unit BAD ahead of FULL", () -> d.unit(13, 0, 0, 0, 0));
        Calls.bad(d, "unit BAD ahead of FULL", () -> d.unit(0, 0, 0, 0, -1));
        Calls.full(d, "unit FULL", () -> d.unit(0, 0, 0, 0, 0));
        DuelSamples e = Calls.inUse();
        Calls.types(e, " ".repeat(120));
        Calls.bad(e, "type BAD ahead of FULL", () -> e.type(128));
        Calls.bad(e, "type BAD ahead of FULL", () -> e.type(-1));
        Calls.full(e, "type FULL", () -> e.type(32));
    }

    private static void bad() {
        Check.due("BAD", DuelSamples.BAD, -2);
        DuelSamples d = Calls.inUse();
        Calls.bad(d, "unit", () -> d.unit(13, 0, 0, 0, 0));
        Calls.bad(d, "sets", () -> d.sets(0, 0, 13));
        Calls.bad(d, "draw", () -> d.draw(-1, 12));
        Calls.bad(d, "of", () -> d.of(3, 0));
        Calls.bad(d, "all", () -> d.all(4));
        Calls.bad(d, "method", () -> d.method(5));
        Calls.bad(d, "walk", () -> d.walk(-1));
        Calls.bad(d, "was", () -> d.was(4));
        Calls.bad(d, "play", () -> d.play(-1, 0));
        Calls.bad(d, "counted", () -> d.counted(3));
        DuelSamples e = Calls.inUse();
        Calls.bad(e, "inside", () -> e.inside(4));
        Calls.bad(e, "often", () -> e.often(0, 0, 0));
        Calls.bad(e, "both", () -> e.both(0, 0, 0, 1));
        Calls.bad(e, "best", () -> e.best(0, 0, 0));
        Calls.bad(e, "sizes", () -> e.sizes(2));
        Calls.bad(e, "can", () -> e.can(3, 0));
        Calls.bad(e, "type", () -> e.type(128));
        Calls.bad(e, "told", () -> e.told(7));
        Check.due("how often with the one of inUse", e.told(0), 9);
    }

    private static void toldByNone() {
        Check.due("NO", DuelSamples.NO, -3);
        DuelSamples d = Calls.inUse();
        d.unit(13, 0, 0, 0, 0);
        d.can(0, 9);
        d.walk(-1);
        Calls.tells(d, "x");
        Check.due("how often", d.told(1), 0);
    }

    private static void full() {
        Check.due("FULL", DuelSamples.FULL, -4);
        DuelSamples d = new DuelSamples();
        d.draw(4, 12);
        Calls.full(d, "a thirteenth unit", () -> d.unit(1, 1, 1, 1, 1));
        DuelSamples e = new DuelSamples();
        Calls.types(e, " ".repeat(120));
        Calls.full(e, "a byte more", () -> e.type('x'));
        Check.due("the text stays", e.says(), -130);
    }

    private static void faultCountsNothing() {
        DuelSamples d = Calls.inUse();
        for (String text : new String[] {"", "x", "unit 13", "turn 9 0;", "walk 1000000;", "row"}) {
            Calls.tells(d, text);
        }
        d.draw(1, 12);
        Calls.tells(d, "unit 1 1 1 1 1;");
        Check.due("BAD but for the one of inUse", d.told(0), 1);
        Check.due("NO", d.told(1), 0);
        Check.due("FULL", d.told(2), 0);
    }

    private static void lastSampleStays() {
        DuelSamples d = new DuelSamples();
        d.draw(7, 12);
        d.walk(3);
        long before = d.digest();
        String plays = Calls.plays(d);
        d.often(0, 0, 60);
        d.both(0, 1, 0, 60);
        d.best(0, 60, 0);
        d.best(0, 60, 1);
        Check.due("digest()", d.digest(), before);
        Check.due("plays", Calls.plays(d), plays);
    }
}
