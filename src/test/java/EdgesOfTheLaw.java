/** Part 1 of the Terms from THE LAW on; promise 7. */
final class EdgesOfTheLaw extends Edge {
    EdgesOfTheLaw(Sentences sentences) {
        super(sentences);
    }

    @Override
    void run() {
        longestText();
        lines();
        line();
        eithers();
        boths();
        compared();
        sums();
        products();
        operands();
        operandsByBytes();
        noBlanks();
        names();
        namesAtTheirEnds();
        sixOpen();
        wraps();
        divisions();
        onesAndZeros();
        allWorkedOut();
        whichLineCounts();
        faults();
        bytesBehindAnOperand();
        held();
        withoutText();
        pushed();
        pushedTogether();
        roundsRest();
        lawBecomes();
    }

    private void whole(String text) {
        due("law of " + text, lawOf(new OrbitsWed(), text), 1);
    }

    private void fault(String text, int place) {
        due("law of " + text, lawOf(new OrbitsWed(), text), -100 - place);
    }

    // By how many places one at 10 of 60 is pushed by another one, at 12 of 60: 12 degrees apart.
    private static int push(String text, int like, int weight) {
        OrbitsWed x = sky(60, 10, 60, 12);
        x.mend(0, NEAR, 20);
        x.mend(1, LIKES, like);
        x.mend(1, WEIGHT, weight);
        if (text != null && lawOf(x, text) != 1) return VOID;
        return x.later(0, 1) - 11;
    }

    private void gives(String text, int places) {
        due(text, push(text, 5, 7), places);
    }

    private static String times(String text, int n) {
        StringBuilder all = new StringBuilder();
        for (int k = 0; k < n; k++) all.append(text);
        return all.toString();
    }

    private void longestText() {
        test(TERMS, "THE LAW is a TEXT by THE TAPE (at most 120 bytes):");
        String longest = "60" + times("-1", 59);
        due("its length", longest.length(), 120);
        whole(longest);
        gives(longest, 1);
        OrbitsWed x = fed(new OrbitsWed(), longest);
        due("byte 121", x.feed('9'), FULL);
        due("law of the first 120", x.law(), 1);
        gives("4", 4);
        gives(times("0?1;", 29) + "7", 7);
        gives("!0*3" + times("+1-1", 29), 3);
        gives("!1?1;" + times("0?9;", 28) + "-!0", -1);
        gives(times("(", 6) + "2" + times(")", 6) + times("+0*9", 26) + "/2", 2);
    }

    private void lines() {
        test(TERMS, "LINES, one or more, parted by ; .");
        fault("", 0);
        fault(";", 0);
        whole("1");
        fault("1;", 2);
        whole("1;2");
        fault("1;;2", 2);
        fault("1;2;", 4);
        fault(";1", 0);
        whole("1" + times(";1", 59));
        fault("1" + times(";1", 59) + ";", 120);
        fault("1,2", 1);
        fault("1:2", 1);
    }

    private void line() {
        test(TERMS, "LINE: E, or E ? E (what counts if the first is not 0).");
        gives("4", 4);
        gives("1?4", 4);
        gives("-1?4", 4);
        gives("9999?4", 4);
        gives("0?4", 0);
        gives("1-1?4", 0);
        fault("?4", 0);
        fault("1?", 2);
        fault("1??4", 2);
        fault("1?2?3", 3);
        fault("(1?2)", 2);
        fault("1?(2?3)", 4);
        fault("1?;2", 2);
        whole("1?2;3?4;5");
    }

    private void eithers() {
        test(TERMS, "E = A { | A }.");
        fault("|1", 0);
        fault("1|", 2);
        fault("1||1", 2);
        whole("1|1");
        whole("1" + times("|1", 59));
        gives("0|0|0", 0);
        gives("0|0|3", 1);
        gives("1|0&0", 1);
        gives("0&0|1", 1);
        gives("(1|0)&0", 0);
    }

    private void boths() {
        test(TERMS, "A = B { & B }.");
        fault("&1", 0);
        fault("1&", 2);
        fault("1&&1", 2);
        fault("1&|1", 2);
        whole("1" + times("&1", 59));
        gives("1&2&3", 1);
        gives("1&2&0", 0);
        gives("2=2&3=3", 1);
        gives("2=(2&3)", 0);
    }

    private void compared() {
        test(TERMS, "B = S, or S < S, S = S, S > S.");
        for (String sign : new String[] {"<", "=", ">"}) {
            fault(sign + "1", 0);
            fault("1" + sign, 2);
            fault("1" + sign + sign + "1", 2);
            whole("1" + sign + "2");
            for (String other : new String[] {"<", "=", ">"}) {
                fault("1" + sign + "2" + other + "3", 3);
                whole("(1" + sign + "2)" + other + "3");
                whole("1" + sign + "(2" + other + "3)");
                whole("1" + sign + "2&3" + other + "4|5" + sign + "6?7" + other + "8;9" + sign + "1");
                fault("(1" + sign + "2" + other + "3)", 4);
            }
        }
        fault("1!=2", 1);
        gives("1+2<4", 1);
        gives("4>1+2", 1);
        gives("1+2=3", 1);
    }

    private void sums() {
        test(TERMS, "S = P { + P, - P }.");
        fault("+1", 0);
        fault("1+", 2);
        fault("1-", 2);
        fault("1++1", 2);
        fault("1-+1", 2);
        whole("1+-1");
        whole("1--1");
        gives("9-3-2", 4);
        gives("9-3+2", 8);
        gives("1+2*3", 7);
        gives("1*2+3", 5);
    }

    private void products() {
        test(TERMS, "P = O { * O, / O, % O }.");
        for (String sign : new String[] {"*", "/", "%"}) {
            fault(sign + "1", 0);
            fault("1" + sign, 2);
            fault("1" + sign + sign + "1", 2);
            whole("1" + sign + "-1");
            whole("1" + times(sign + "1", 59));
        }
        gives("24/4/2", 3);
        gives("24/4*2-5", 7);
        gives("17%10%4", 3);
        gives("2*9%5", 3);
        gives("2*(9%5)", 8);
    }

    private void operands() {
        test(TERMS, "O = a number (1 to 4 digits), a NAME, ! O, - O, ( E ).");
        for (String number : new String[] {"0", "9", "10", "99", "100", "999", "1000", "9999", "0000", "0009"}) whole(number);
        gives("9999-9992", 7);
        gives("0007", 7);
        gives("0000", 0);
        fault("12345", 4);
        fault("00000", 4);
        fault("1+99999", 6);
        fault("1l", 1);
        fault("l1", 1);
        fault("lw", 1);
        fault("!", 1);
        fault("-", 1);
        fault("(", 1);
        fault("()", 1);
        fault(")", 0);
        fault("(1", 2);
        fault("1)", 1);
        fault("(1))", 3);
        fault("1(2)", 1);
        fault("(1)2", 3);
        fault("1!", 1);
        whole("!1");
        whole("!l");
        whole("!(1)");
        whole("-!-1");
        whole("(!(-(1)))");
        gives("!0", 1);
        gives("!!5", 1);
        gives("--5", 5);
        gives("-5*-1", 5);
        gives("!1+1", 1);
        gives("-2+5", 3);
        gives("(1|1)", 1);
    }

    // Of all bytes, alone on the tape: a digit or a name is a text, a sign ahead of an operand waits for more.
    private void operandsByBytes() {
        test(TERMS, "O = a number (1 to 4 digits), a NAME, ! O, - O, ( E ).");
        for (int letter = 0; letter <= 255; letter++) {
            OrbitsWed x = new OrbitsWed();
            x.feed(letter);
            boolean whole = (letter >= '0' && letter <= '9') || (letter < 128 && "lwradp".indexOf(letter) >= 0);
            boolean waits = letter == '(' || letter == '!' || letter == '-';
            due("law of byte " + letter, x.law(), whole ? 1 : waits ? -101 : -100);
        }
    }

    private void noBlanks() {
        test(TERMS, "No blanks.");
        fault(" 1", 0);
        fault("1 ", 1);
        fault("1 +1", 1);
        fault("1+ 1", 2);
        fault("1; 2", 2);
        fault("( 1)", 1);
        fault("1\n", 1);
        fault("1\t", 1);
        fault("1\0", 1);
    }

    private void names() {
        test(TERMS, "NAMES: l LIKES of one for another one that it MEETS, w WEIGHT of that other one, r ROUND of the one, "
            + "a how far APART, d the day (0 for the first one from now), p PLACE of the one.");
        OrbitsWed x = sky(60, 10, 30, 6);
        x.mend(0, NEAR, 20);
        x.mend(1, LIKES, 5);
        x.mend(10, LIKES, 2);
        x.mend(0, WEIGHT, 3);
        x.mend(1, WEIGHT, 7);
        String[] texts = {"l", "w", "r-55", "a-8", "d", "p-3"};
        int[] ofTheOne = {5, 7, 5, 4, 0, 7};
        int[] ofTheOther = {2, 3, -9, 4, 0, 3};
        for (int i = 0; i < 6; i++) {
            ruled(x, texts[i]);
            due(texts[i] + " pushes the one", x.later(0, 1) - 11, ofTheOne[i]);
            due(texts[i] + " pushes the other one", Math.floorMod(x.later(1, 1) - 7 + 15, 30) - 15, ofTheOther[i]);
        }
        for (String other : new String[] {"L", "W", "R", "A", "D", "P", "x", "b", "k", "m", "q", "v"}) fault(other, 0);
    }

    private void namesAtTheirEnds() {
        test(TERMS, "d the day (0 for the first one from now)");
        OrbitsWed x = crowdOf(2, 60, 0);
        for (int day : new int[] {0, 1, 198, 199}) {
            ruled(x, "d=" + day);
            due("the only day of a push, d=" + day, x.pushes(200, 1), day);
            due("not ahead of it, d=" + day, x.pushes(day, 1), NOT);
        }
        ruled(x, "d=200");
        due("d comes to 199 only", x.pushes(200, 0), 0);
        ruled(x, "d");
        x.day();
        due("0 again behind a day in deed", x.later(0, 2), 4);
        OrbitsWed y = sky(60, 59, 60, 14);
        y.mend(0, NEAR, 90);
        ruled(y, "a=90&p=59&r=60");
        due("a 90, p 59, r 60", y.later(0, 1), 1);
        OrbitsWed z = sky(1, 0, 60, 0);
        z.mend(0, NEAR, 0);
        ruled(z, "r=1&p=0&a=0");
        due("a 0, p 0, r 1", z.pushes(1, 0), 1);
    }

    private void sixOpen() {
        test(TERMS, "At most 6 of ( ! - ahead of an O are open at once.");
        for (String sign : new String[] {"(", "!", "-"}) {
            String close = sign.equals("(") ? ")" : "";
            whole(times(sign, 5) + "1" + times(close, 5));
            whole(times(sign, 6) + "1" + times(close, 6));
            fault(times(sign, 7) + "1" + times(close, 7), 6);
            fault(times(sign, 7), 6);
            fault(times(sign, 6), 6);
            whole(times(sign, 6) + "1" + times(close, 6) + "+" + times(sign, 6) + "1" + times(close, 6));
            fault("1+" + times(sign, 7) + "1", 8);
            fault("1?" + times(sign, 7) + "1", 8);
        }
        whole("-(!(-!1))");
        fault("-(!(-(!1", 6);
        fault("-(!(-(-1", 6);
        fault("-(!(-((1", 6);
        whole("1" + times("-1", 59));
        whole("!1" + times("+!1", 39));
        whole("(((((!1+!1+(1))))))");
        fault("(((((!1+!!1", 9);
        whole("1-------1");
        fault("1--------1", 8);
        gives("------5", 5);
        gives("(((((-5)))))+9", 4);
    }

    private void wraps() {
        test(TERMS, "Ints that wrap;");
        gives("8192*8192*32", -9);
        gives("8192*8192*32-1", 9);
        gives("8192*8192*31+8192*8192", -9);
        gives("-(8192*8192*32)", -9);
        gives("8192*8192*64", 0);
        gives("8192*8192*64+3", 3);
        gives("0-8192*8192*32", -9);
        gives("-1-8192*8192*32", 9);
        gives("8192*8192*32<1", 1);
        gives("8192*8192*32>1", 0);
        gives("8192*8192*32-1>-1", 1);
        gives("8192*8192*32=0-8192*8192*32", 1);
    }

    private void divisions() {
        test(TERMS, "/ and % toward 0, by 0 they give 0;");
        gives("7/2", 3);
        gives("-7/2", -3);
        gives("7/-2", -3);
        gives("-7/-2", 3);
        gives("1/2", 0);
        gives("-1/2", 0);
        gives("7%3", 1);
        gives("-7%3", -1);
        gives("7%-3", 1);
        gives("-7%-3", -1);
        gives("5/0", 0);
        gives("5%0", 0);
        gives("0/0", 0);
        gives("0%0", 0);
        gives("-5/d+3", 3);
        gives("-5%d+3", 3);
        gives("8192*8192*32/-1", -9);
        gives("8192*8192*32%-1", 0);
        gives("8192*8192*32/0", 0);
    }

    private void onesAndZeros() {
        test(TERMS, "| & < = > ! give 1, 0;");
        gives("2|4", 1);
        gives("0|4", 1);
        gives("-4|0", 1);
        gives("0|0", 0);
        gives("2&4", 1);
        gives("-2&4", 1);
        gives("0&4", 0);
        gives("4&0", 0);
        gives("0&0", 0);
        gives("1<2", 1);
        gives("2<2", 0);
        gives("3<2", 0);
        gives("-3<-2", 1);
        gives("1=2", 0);
        gives("2=2", 1);
        gives("3=2", 0);
        gives("1>2", 0);
        gives("2>2", 0);
        gives("3>2", 1);
        gives("!0", 1);
        gives("!1", 0);
        gives("!5", 0);
        gives("!-5", 0);
    }

    private void allWorkedOut() {
        test(TERMS, "all is worked out.");
        gives("1|5/0", 1);
        gives("0&5/0", 0);
        gives("5/0|1", 1);
        gives("0?5/0;6", 6);
        gives("5/0?1;6", 6);
    }

    private void whichLineCounts() {
        test(TERMS, "The first LINE without a first E, or whose first E is not 0, counts; none: 0.");
        gives("3;4", 3);
        gives("0;4", 0);
        gives("1?3;4", 3);
        gives("0?3;4", 4);
        gives("-1?3;4", 3);
        gives("0?3;0?4", 0);
        gives("0?3;1?4", 4);
        gives("0?3;0?4;0?5;6", 6);
        gives("3;1?4", 3);
        gives("0?3;4;1?5", 4);
        gives("1?0;4", 0);
        gives("0?9", 0);
    }

    private void faults() {
        test(TERMS, "FAULT: the place (from 0) of the first byte with which no TEXT goes on; the length, if it ends too early.");
        fault("", 0);
        fault("x", 0);
        fault("x1", 0);
        fault("1x", 1);
        fault("1x+", 1);
        fault("l*w+", 4);
        fault("l*w+x", 4);
        fault("(l*w", 4);
        fault("(l*w;", 4);
        fault("l*w;x", 4);
        fault("l*w?", 4);
        fault("1+1" + times("+1", 58) + "+", 120);
        fault("1+1" + times("+1", 58) + "x", 119);
        fault("1+1" + times("+1", 58) + ")", 119);
        fault("x" + times("1", 119), 0);
        OrbitsWed x = new OrbitsWed();
        x.feed('1');
        x.feed(255);
        due("law of 1 and byte 255", x.law(), -101);
        x.feed(0);
        due("law of byte 0", x.law(), -100);
    }

    // What may come behind an operand, by all bytes: a digit, a sign that wants more, a line's end; all else is a fault.
    private void bytesBehindAnOperand() {
        test(TERMS, "FAULT: the place (from 0) of the first byte with which no TEXT goes on; the length, if it ends too early.");
        String[] aheads = {"1", "1234", "l", "1<2", "1?2", "(1", "(1)", "-1", "1;2", "1?2<3"};
        String[] wholes = {"0123456789", "", "", "0123456789", "0123456789", "", "", "0123456789", "0123456789", "0123456789"};
        String[] goesOn = {"+-*/%<=>&|?;", "+-*/%<=>&|?;", "+-*/%<=>&|?;", "+-*/%&|?;", "+-*/%<=>&|;", "0123456789+-*/%<=>&|",
            "+-*/%<=>&|?;", "+-*/%<=>&|?;", "+-*/%<=>&|?;", "+-*/%&|;"};
        for (int k = 0; k < aheads.length; k++) {
            int length = aheads[k].length();
            for (int letter = 0; letter <= 255; letter++) {
                OrbitsWed x = fed(new OrbitsWed(), aheads[k]);
                x.feed(letter);
                boolean whole = wholes[k].indexOf(letter) >= 0 || (aheads[k].equals("(1") && letter == ')');
                int fault = goesOn[k].indexOf(letter) >= 0 ? length + 1 : length;
                due("law of " + aheads[k] + " and byte " + letter, x.law(), whole ? 1 : -100 - fault);
            }
        }
    }

    private void held() {
        test(TERMS, "It gives by how many PLACES one is pushed on (held within -9 .. 9).");
        gives("8", 8);
        gives("9", 9);
        gives("10", 9);
        gives("9999", 9);
        gives("-8", -8);
        gives("-9", -9);
        gives("-10", -9);
        gives("-9999", -9);
        gives("0", 0);
    }

    private void withoutText() {
        test(TERMS, "Without a text: l times w, held so.");
        int[][] pushes = {{3, 3, 9}, {5, 2, 9}, {9, 9, 9}, {9, 1, 9}, {-3, 3, -9}, {-5, 2, -9}, {-9, 9, -9}, {4, 2, 8},
            {-4, 2, -8}, {9, 0, 0}, {0, 9, 0}, {-1, 1, -1}};
        for (int[] push : pushes) due(push[0] + " times " + push[1], push(null, push[0], push[1]), push[2]);
        OrbitsWed x = sky(60, 10, 60, 10);
        x.mend(1, LIKES, 2);
        x.mend(1, WEIGHT, 3);
        fed(x, "9+").law();
        due("a text with a fault is none", x.later(0, 1), 17);
        due("1 becomes the law", lawOf(x, "1"), 1);
        due("by the text", x.later(0, 1), 12);
    }

    private void pushed() {
        test(TERMS, "PUSHED: day by day from now: all who MEET are pushed by all whom they MEET");
        OrbitsWed x = sky(60, 0, 60, 1, 60, 3);
        x.mend(0, NEAR, 6);
        ruled(x, "1");
        due("the first one, met by the second one", x.later(0, 1), 2);
        due("the second one", x.later(1, 1), 3);
        due("the third one, whom nobody meets", x.later(2, 1), 4);
        due("the second one then meets both", x.later(1, 2), 6);
        due("one alone", ruled(sky(60, 0), "9").later(0, 1), 1);
    }

    private void pushedTogether() {
        test(TERMS, "together (as all stand as the day begins; all at once), then each goes on by 1");
        OrbitsWed x = sky(60, 20, 60, 20, 60, 20);
        x.mend(1, LIKES, 9);
        x.mend(2, LIKES, 9);
        due("two pushes of 9", x.later(0, 1), 39);
        x.mend(1, LIKES, -9);
        x.mend(2, LIKES, -9);
        due("two pushes of -9", x.later(0, 1), 3);
        x.mend(1, LIKES, 9);
        due("9 and -9", x.later(0, 1), 21);
        OrbitsWed all = crowdOf(8, 60, 0);
        ruled(all, "9");
        for (int one = 0; one < 8; one++) due("seven pushes of 9, body " + one, all.later(one, 1), 4);
        OrbitsWed y = sky(60, 20, 60, 21, 60, 22);
        y.mend(0, NEAR, 6);
        ruled(y, "p-20");
        due("the first one is pushed ahead of the others' going on", y.later(0, 1), 21);
        due("the second one by two", y.later(1, 1), 24);
        due("the third one by one", y.later(2, 1), 25);
    }

    private void roundsRest() {
        test(TERMS, "(the rest by ROUND, never below 0).");
        OrbitsWed x = sky(60, 0, 60, 0);
        ruled(x, "-9");
        due("-8 of 60", x.later(0, 1), 52);
        ruled(x, "-1");
        due("-1 and 1", x.later(0, 1), 0);
        ruled(x, "9");
        due("10 of 60", x.later(0, 1), 10);
        OrbitsWed y = crowdOf(8, 1, 0);
        ruled(y, "-9");
        due("of round 1", y.later(0, 1), 0);
        OrbitsWed z = crowdOf(8, 7, 0);
        ruled(z, "-9");
        due("-62 of 7", z.later(7, 1), 1);
        ruled(z, "9");
        due("64 of 7", z.later(7, 1), 1);
        due("on the last place", sky(7, 6).later(0, 1), 0);
    }

    private void lawBecomes() {
        test(7, "THE TAPE becomes THE LAW: 1; -100 less its FAULT; THE TAPE is empty then.");
        OrbitsWed x = sky(60, 0, 60, 0);
        due("an empty tape", x.law(), -100);
        due("law of 5", lawOf(x, "5"), 1);
        due("the tape is empty", x.count(1), 0);
        due("by 5", x.later(0, 1), 6);
        due("law of 7x", lawOf(x, "7x"), -101);
        due("the tape is empty behind a fault", x.count(1), 0);
        due("still by 5", x.later(0, 1), 6);
        due("an empty tape is no text", x.law(), -100);
        due("still by 5 then", x.later(0, 1), 6);
        due("fed", x.feed('3'), 1);
        due("what is fed is no law yet", x.later(0, 1), 6);
        due("law of 3", x.law(), 1);
        due("by 3", x.later(0, 1), 4);
        due("law of many lines", lawOf(x, "0?1;0?2;0?3;4;5;6"), 1);
        due("by 4", x.later(0, 1), 5);
        due("a shorter one", lawOf(x, "0?9"), 1);
        due("of whose lines none counts: nothing of the longer one", x.later(0, 1), 1);
        fed(x, times("(", 120));
        due("law of 120 brackets", x.law(), -106);
        due("the tape has room again", x.feed('1'), 1);
    }
}
