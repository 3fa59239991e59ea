/** Each sentence of the document's section 4 that names an edge: the tape, texts and faults, names, bills, steps. */
public final class EdgesOfTextsTest {
    private static final Check CHECK = new Check("edges of texts");

    public static void main(String[] args) {
        tapeOf200Bytes();
        highestByteFirst();
        keepsItsFirstBytes();
        sixteenTerms();
        tapeIsEmptyThen();
        oneStepOrMore();
        withinFromTo();
        numbersOfSixDigits();
        wordsAndSigns();
        blanksAnywhere();
        blanksNeeded();
        eightOpen();
        intsThatWrap();
        towardZero();
        byZero();
        firstStepThatCounts();
        heldWithin();
        faultOfTheFirst();
        faultAtTheLength();
        nothingGoesOn();
        madeOnADay();
        forHiresFromADay();
        twoMadeLast();
        ofLikeOnesTheLater();
        noTermsGiveNothing();
        bothEnds();
        givesByDaysWorked();
        nextOfSix();
        nextOfOneTo60();
        nextAsKnownToday();
        CHECK.done();
    }

    /** What a text gives for a hire of no days by so many worked; its fault if it has one. */
    private static int value(String text, int worked) {
        Scene s = Scene.hire();
        int number = s.terms(0, 0, text);
        return number < 0 ? number : s.yard.gives(number, 0, worked);
    }

    private static void expect(String text, int worked, int due) {
        CHECK.is("'" + text + "' by " + worked, value(text, worked), due);
    }

    private static void expectFault(String text, int place) {
        expect(text, 0, -100 - place);
    }

    /** "THE TAPE (at most 200 bytes)"; promise 35: "FULL". */
    private static void tapeOf200Bytes() {
        for (int left = 0; left <= 200; left++) {
            HireYard y = new HireYard();
            for (int i = 0; i < 10; i++) {
                y.feed(0, 0, 0, 0, 0);
            }
            y.end(left);
            CHECK.is("twenty more than " + left, y.feed(0, 0, 0, 0, 0), left <= 180 ? left + 20 : Scene.FULL);
            CHECK.is("it has", y.count(11), left <= 180 ? left + 20 : left);
        }
        String full = "1+".repeat(99) + "23";
        CHECK.is("200 bytes", full.length(), 200);
        expect(full, 0, 122);
    }

    /** Promise 35: "Twenty bytes more come to THE TAPE, the highest of each number first". */
    private static void highestByteFirst() {
        HireYard y = Scene.hire().yard;
        y.feed('1' << 24 | '+' << 16 | '2' << 8 | '+', '4' << 24 | '+' << 16 | '8' << 8 | '-',
            '1' << 24 | '6' << 16 | '+' << 8 | '3', '2' << 24 | '*' << 16 | '(' << 8 | '6',
            '4' << 24 | '/' << 16 | '4' << 8 | ')');
        CHECK.is("all twenty", y.terms(0, 0), 0);
        CHECK.is("in their order", y.gives(0, 0, 0), 511);
        for (int byteAt = 0; byteAt < 20; byteAt++) {
            HireYard one = Scene.hire().yard;
            int[] x = {0x20202020, 0x20202020, 0x20202020, 0x20202020, 0x20202020};
            x[byteAt / 4] ^= (' ' ^ 'x') << 24 - byteAt % 4 * 8;
            one.feed(x[0], x[1], x[2], x[3], x[4]);
            CHECK.is("byte " + byteAt, one.terms(0, 0), -100 - byteAt);
        }
        for (int sign : new int[] {0, 1, 127, 128, 200, 255}) {
            HireYard odd = Scene.hire().yard;
            odd.feed('1' << 24 | sign << 16, 0, 0, 0, 0);
            CHECK.is("a byte of " + sign, odd.terms(0, 0), -101);
        }
    }

    /** Promise 36: "THE TAPE keeps its first n bytes". */
    private static void keepsItsFirstBytes() {
        HireYard y = Scene.hire().yard;
        y.feed('1' << 24 | '2' << 16 | '3' << 8 | '4', 0, 0, 0, 0);
        CHECK.is("two", y.end(2), 2);
        CHECK.is("not three again", y.end(3), Scene.BAD);
        y.feed('5' << 24 | '6' << 16 | '7' << 8 | '8', 0, 0, 0, 0);
        CHECK.is("four", y.end(4), 4);
        CHECK.is("made", y.terms(0, 0), 0);
        CHECK.is("of both", y.gives(0, 0, 0), 1256);
        CHECK.is("none of none", y.end(0), 0);
        CHECK.is("one of none", y.end(1), Scene.BAD);
    }

    /** Promise 37: "their number (0 .. 15)", "FULL". */
    private static void sixteenTerms() {
        Scene s = Scene.hire();
        for (int i = 0; i < 16; i++) {
            CHECK.is("terms", s.terms(i % 2, i, "" + i), i);
        }
        s.write("");
        CHECK.is("full, though the text has a fault", s.yard.terms(0, 0), Scene.FULL);
        s.write("7");
        CHECK.is("full", s.yard.terms(0, 0), Scene.FULL);
        CHECK.is("the tape stays", s.yard.count(11), 1);
        CHECK.is("bad ahead of full", s.yard.terms(0, -1), Scene.BAD);
        CHECK.is("the last one", s.yard.gives(15, 0, 0), 15);
        CHECK.is("none such", s.yard.gives(16, 0, 0), Scene.VOID);
    }

    /** Promise 37: "THE TAPE is empty then (by a FAULT, too)". */
    private static void tapeIsEmptyThen() {
        Scene s = Scene.hire();
        s.terms(0, 0, "12");
        CHECK.is("by terms", s.yard.count(11), 0);
        CHECK.is("an empty text has its fault at 0", s.yard.terms(0, 0), -100);
        s.terms(0, 0, "12 12");
        CHECK.is("by a fault", s.yard.count(11), 0);
        CHECK.is("a fault makes none", s.yard.count(6), 1);
        s.write("12");
        s.yard.terms(0, 1000);
        CHECK.is("not by a refusal", s.yard.count(11), 2);
    }

    /** "STEPS, one or more, parted by ;". */
    private static void oneStepOrMore() {
        expect("7", 0, 7);
        expectFault("", 0);
        expectFault(";", 0);
        expectFault("7;", 2);
        expectFault(";7", 0);
        expectFault("7;;7", 2);
        expect("from 1 up 2;7", 0, 7);
        expect("from 9 up 1;".repeat(15) + "from 1 up 3;7", 2, 3);
        expect("1;".repeat(99) + "2", 0, 1);
    }

    /** "from N to N E (N days worked: it counts if they are within; without: always)". */
    private static void withinFromTo() {
        int[] due = {9, 9, 5, 5, 5, 9};
        for (int worked = 0; worked < due.length; worked++) {
            expect("from 2 to 4 5;9", worked, due[worked]);
            expect("from 2 up 5;9", worked, worked < 2 ? 9 : 5);
            expect("from 0 up 5;9", worked, 5);
            expect("from 0 to 0 5;9", worked, worked == 0 ? 5 : 9);
            expect("from 4 to 2 5;9", worked, 9);
        }
        expect("from 999 to 999 5;9", 999, 5);
        expect("from 999999 up 5;9", 999, 9);
        expect("from 0 to 999999 5;9", 999, 5);
    }

    /** "numbers (1 to 6 digits)"; "number (more than 6 digits: as a whole)". */
    private static void numbersOfSixDigits() {
        expect("9", 0, 9);
        expect("999999", 0, 999999);
        expect("000000", 0, 0);
        expect("000001", 0, 1);
        expectFault("1000000", 0);
        expectFault("0000001", 0);
        expectFault("5+1234567+", 2);
        expectFault("from 1234567 up 1", 5);
        expectFault("from 1 to 1234567 1", 10);
        expectFault("99999999999999999999", 0);
    }

    /** "words (a .. z)": what is next to a and z, 0 and 9 among the bytes is a sign. */
    private static void wordsAndSigns() {
        expectFault("days{", 4);
        expectFault("days`", 4);
        expectFault("days\u00e9", 4);
        expectFault("daysA", 4);
        expectFault("days_", 4);
        expectFault("12:", 2);
        expectFault("1:2", 1);
        expect("12/3", 0, 4);
        expectFault("A", 0);
        expectFault("DAYS", 0);
        expectFault("1&2", 1);
        expectFault("z", 0);
        expectFault("a", 0);
    }

    /** "blanks (32) anywhere". */
    private static void blanksAnywhere() {
        expect("  from  2  to  3  least ( 4 , 5 )  ;  6  +  ( 7 - 1 )  ", 2, 4);
        expect("  from  2  to  3  least ( 4 , 5 )  ;  6  +  ( 7 - 1 )  ", 1, 12);
        expectFault("1\t", 1);
        expectFault("\n1", 0);
        expectFault("1\u00a0", 1);
        expectFault("da ys", 0);
        expect(" ".repeat(199) + "7", 0, 7);
    }

    /** "needed between two words or two numbers". */
    private static void blanksNeeded() {
        expectFault("from 1 upall", 7);
        expectFault("fromup", 0);
        expect("from1up7", 1, 7);
        expect("from1to2all+3", 1, 3);
        expect("from 1 to 2 3", 2, 3);
        expect("from 1 to 23", 2, -112);
    }

    /** "At most 8 ( are open at once (the ninth is a FAULT at that ( itself)". */
    private static void eightOpen() {
        expect("((((((((7))))))))", 0, 7);
        expectFault("(((((((((7)))))))))", 8);
        expectFault("(((((((((", 8);
        expect("(((((((least(7,8))))))))", 0, 7);
        expectFault("((((((((least(7,8)))))))))", 13);
        expectFault("((((((((least  (", 15);
        expectFault("((((((((most", 12);
        expectFault("((((((((most 1", 13);
        expect("((((((((7))))))))*((((((((3))))))))", 0, 21);
        expect("least(((((((( 7 ))))))),((((((( 6 ))))))))", 0, 6);
        expectFault("least(((((((( 7 ))))))),(((((((( 6 )))))))))", 31);
        expect("(1)+(1)+(1)+(1)+(1)+(1)+(1)+(1)+(1)", 0, 9);
    }

    /** "Ints that wrap". */
    private static void intsThatWrap() {
        expect("65536*65536", 0, 0);
        expect("65536*65535+65537", 0, 1);
        expect("65536*32768-1", 0, 9999999);
        expect("0-65536*32768-1-65536*32767", 0, 65535);
        expect("0-65536*32768", 0, 0);
        expect("46341*46341", 0, 0);
        expect("46340*46340", 0, 9999999);
        expect("(0-65536*32768)/(0-1)+65536*32767+65543", 0, 7);
    }

    /** "/ toward 0". */
    private static void towardZero() {
        expect("7/2", 0, 3);
        expect("10+(0-7)/2", 0, 7);
        expect("10+7/(0-2)", 0, 7);
        expect("(0-7)/(0-2)", 0, 3);
        expect("10+(0-1)/2", 0, 10);
    }

    /** "by 0 it gives 0". */
    private static void byZero() {
        expect("3+7/0", 0, 3);
        expect("3+7/days", 0, 3);
        expect("3+7/days", 7, 4);
        expect("3+0/0", 0, 3);
        expect("7/0*5+2", 0, 2);
        expect("3+7/(2-2)", 0, 3);
    }

    /** "The first STEP that counts gives it; 0 if none". */
    private static void firstStepThatCounts() {
        expect("from 1 up 5;from 0 up 6;7", 1, 5);
        expect("from 1 up 5;from 0 up 6;7", 0, 6);
        expect("from 1 up 0;7", 1, 0);
        expect("from 1 up 5", 0, 0);
        expect("from 2 to 3 5;from 5 to 6 7", 4, 0);
    }

    /** "held within 0 .. 9999999". */
    private static void heldWithin() {
        expect("0", 0, 0);
        expect("0-1", 0, 0);
        expect("1-1", 0, 0);
        expect("999999*10+9", 0, 9999999);
        expect("999999*10+8", 0, 9999998);
        expect("999999*10+10", 0, 9999999);
        expect("(0-5)+(0-5)*(0-3)", 0, 10);
    }

    /** "the place (from 0) of the first byte of the first word, number ... or sign with which no TEXT goes on". */
    private static void faultOfTheFirst() {
        expectFault("x+y+", 0);
        expectFault("1+x+y", 2);
        expectFault("  1  2  3", 5);
        expectFault("days days", 5);
        expectFault("1 (", 2);
        expectFault(")", 0);
        expectFault("(1))", 3);
        expectFault("least(1;2)", 7);
        expectFault("least(1,2,3)", 9);
        expectFault("from days", 5);
        expectFault("from 1 days", 7);
        expectFault("from 1 to days", 10);
        expectFault("1 from 2 up 3", 2);
        expectFault("1 up 3", 2);
        expectFault("to", 0);
        expectFault("+1", 0);
        expectFault("1*-1", 2);
        expectFault("days\u00ff", 4);
    }

    /** "the length, if it ends too early". */
    private static void faultAtTheLength() {
        String[] early = {"from", "from 1", "from 1 up", "from 1 to", "from 1 to 2", "1+", "1*", "1;", "(", "(1", "(1+",
            "least", "least(", "least(1", "least(1,", "least(1,2", "most(1,2)-", "1 ; from 2 up ", "   "};
        for (String text : early) {
            expectFault(text, text.length());
        }
        String full = "1+".repeat(100);
        expectFault(full, 200);
    }

    /** A word or number stands for itself: what begins well but is none is a fault at its beginning. */
    private static void nothingGoesOn() {
        for (String word : new String[] {"day", "dayss", "al", "week", "res", "rat", "hour", "ove", "rai", "broke", "fue",
            "har", "wort", "ow", "su", "fro", "u", "t", "leas", "mos", "x", "subs", "owns"}) {
            expectFault(word, 0);
            expectFault("1+" + word, 2);
        }
    }

    /** A hire that begins in the given HOUR, its machine sent at once. */
    private static Scene hireFrom(int hour) {
        Scene s = Scene.plain();
        s.yard.machine(0, 0, 0);
        s.yard.order(0, 0, hour, 60, 8);
        s.promise(0);
        s.yard.send(0);
        return s;
    }

    /** "of its USE those made on DAY k or ahead". */
    private static void madeOnADay() {
        Scene s = Scene.hire();
        s.pass(47);
        s.terms(0, 0, "9");
        CHECK.is("a day ahead", s.yard.bill(0, 0, 5), -1);
        CHECK.is("on that day", s.yard.bill(0, 1, 5), 0);
        CHECK.is("far behind", s.yard.bill(0, 999, 5), 0);
        CHECK.is("of another use", s.yard.bill(0, 1, 1), 0);
        s.terms(1, 0, "4");
        CHECK.is("of its own", s.yard.bill(0, 1, 1), 4);
        CHECK.is("not the price", s.yard.bill(0, 1, 0), 9);
        CHECK.is("both", s.yard.bill(0, 1, 2), 13);
    }

    /** "for its DAY (of its beginning) or an earlier one". */
    private static void forHiresFromADay() {
        for (int begin : new int[] {24, 47}) {
            Scene s = hireFrom(begin);
            s.terms(0, 2, "2");
            s.pass(begin);
            CHECK.is("for the day behind", s.yard.bill(0, 9, 5), -1);
            s.terms(0, 1, "3");
            CHECK.is("for its day", s.yard.bill(0, 9, 5), 1);
            s.terms(0, 0, "1");
            CHECK.is("for an earlier one", s.yard.bill(0, 9, 5), 2);
        }
    }

    /** "the two made last of them (or one): the lesser that they give counts". */
    private static void twoMadeLast() {
        Scene s = Scene.hire();
        HireYard y = s.yard;
        s.terms(0, 0, "5");
        CHECK.is("one", y.bill(0, 0, 0), 5);
        s.terms(0, 0, "7");
        CHECK.is("two, the first is less", y.bill(0, 0, 0), 5);
        s.terms(1, 0, "1");
        s.terms(0, 1, "1");
        CHECK.is("neither another use nor a later day", y.bill(0, 0, 0), 5);
        s.terms(0, 0, "8");
        CHECK.is("three, the first is over", y.bill(0, 0, 0), 7);
        s.terms(0, 0, "6");
        CHECK.is("the last one is less", y.bill(0, 0, 0), 6);
        CHECK.is("its number", y.bill(0, 0, 5), 5);
    }

    /** Promise 39: "of like ones the later". */
    private static void ofLikeOnesTheLater() {
        Scene s = Scene.hire();
        s.terms(0, 0, "5");
        s.terms(0, 0, "5");
        CHECK.is("of two", s.yard.bill(0, 0, 5), 1);
        s.terms(0, 0, "2+3");
        CHECK.is("of three", s.yard.bill(0, 0, 5), 2);
        s.terms(0, 0, "6");
        CHECK.is("the lesser", s.yard.bill(0, 0, 5), 2);
    }

    /** "None: 0"; promise 39: "-1". */
    private static void noTermsGiveNothing() {
        HireYard y = Scene.hire().yard;
        CHECK.row("none", new long[] {y.bill(0, 0, 0), y.bill(0, 0, 1), y.bill(0, 0, 2), y.bill(0, 0, 3), y.bill(0, 0, 4),
            y.bill(0, 0, 5)}, 0, 0, 0, 0, 0, -1);
    }

    /** "BOTH ENDS: PRICE by the least DAYS WORKED, and by the most", each by its own terms. */
    private static void bothEnds() {
        Scene s = Scene.hire();
        HireYard y = s.yard;
        s.terms(0, 0, "100-days*10+all");
        s.terms(0, 0, "days*40+all");
        s.pass(24);
        y.read(0, 1);
        s.pass(24);
        y.read(0, 1);
        s.pass(72);
        y.said(0, 3, 0);
        CHECK.row("days", new long[] {y.days(0, 0), y.days(0, 1), y.days(0, 2), y.days(0, 3)}, 5, 1, 4, 3);
        CHECK.is("by the least", y.bill(0, 9, 3), 45);
        CHECK.is("by the most", y.bill(0, 9, 4), 65);
        CHECK.is("as counted", y.bill(0, 9, 0), 75);
        CHECK.is("the terms as counted", y.bill(0, 9, 5), 0);
    }

    /** Promise 38: "by so many DAYS worked (0 .. 999)"; all else as it is. */
    private static void givesByDaysWorked() {
        Scene s = Scene.hire();
        s.pass(30);
        s.terms(0, 0, "days*1000+all*100+weeks+rest");
        CHECK.is("by 0", s.yard.gives(0, 0, 0), 202);
        CHECK.is("by 999", s.yard.gives(0, 0, 999), 999202);
        CHECK.is("by 1000", s.yard.gives(0, 0, 1000), Scene.VOID);
        CHECK.is("by -1", s.yard.gives(0, 0, -1), Scene.VOID);
    }

    /** "the first of n + 1 to n + 6 whose PRICE is less than that of n; NOT: none". */
    private static void nextOfSix() {
        for (int step = 1; step <= 8; step++) {
            Scene s = Scene.hire();
            s.terms(0, 0, "from " + (10 + step) + " up 4;5");
            CHECK.is("less by " + step + " more", s.yard.next(0, 10), step <= 6 ? 10 + step : Scene.NOT);
        }
        Scene same = Scene.hire();
        same.terms(0, 0, "5");
        CHECK.is("never less", same.yard.next(0, 10), Scene.NOT);
        Scene first = Scene.hire();
        first.terms(0, 0, "from 12 to 12 4;from 14 up 3;5");
        CHECK.is("the first, not the least", first.yard.next(0, 10), 12);
        Scene none = Scene.hire();
        CHECK.is("no terms", none.yard.next(0, 10), Scene.NOT);
    }

    /** Promise 40: "NEXT STEP by n (1 .. 60)". */
    private static void nextOfOneTo60() {
        Scene s = Scene.hire();
        s.terms(0, 0, "100-days");
        CHECK.is("by 1", s.yard.next(0, 1), 2);
        CHECK.is("by 60", s.yard.next(0, 60), 61);
        CHECK.is("by 0", s.yard.next(0, 0), Scene.BAD);
        CHECK.is("by 61", s.yard.next(0, 61), Scene.BAD);
    }

    /** "PRICE with n for all and days (weeks, rest, over by it; all other NAMES as they are)"; "AS KNOWN TODAY". */
    private static void nextAsKnownToday() {
        String[] texts = {"100-all", "100-days", "100-weeks", "100-rest", "over", "100-hours", "100-rain-own-rate"};
        int[] due = {14, 14, 14, Scene.NOT, 14, Scene.NOT, Scene.NOT};
        for (int i = 0; i < texts.length; i++) {
            Scene s = Scene.hire();
            s.pass(1);
            s.yard.read(0, 200);
            s.yard.rain(0, 1);
            s.terms(0, 0, texts[i]);
            CHECK.is(texts[i], s.yard.next(0, 13), due[i]);
        }
        Scene rest = Scene.hire();
        rest.terms(0, 0, "rest+50-weeks");
        CHECK.is("the rest of a week", rest.yard.next(0, 8), 14);
        CHECK.is("none is less", rest.yard.next(0, 7), Scene.NOT);
        Scene later = Scene.hire();
        later.terms(0, 0, "100-days");
        later.pass(24);
        later.terms(0, 0, "7");
        CHECK.is("two of today", later.yard.next(0, 5), Scene.NOT);
        CHECK.is("the lesser of both", later.yard.next(0, 60), Scene.NOT);
    }
}
