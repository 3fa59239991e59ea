/** Promises 35 to 40: the tape, terms and their faults, what they give, bills, the next step. */
public final class TermsTest {
    private static final Check CHECK = new Check("terms");

    public static void main(String[] args) {
        feed();
        end();
        tapeBytes();
        terms();
        texts();
        faults();
        fullTape();
        gives();
        names();
        namesOfTroubles();
        rainOnTheFirstDay();
        brokenSpans();
        bill();
        inForce();
        next();
        CHECK.done();
    }

    private static void feed() {
        HireYard y = new HireYard();
        for (int i = 1; i <= 10; i++) {
            CHECK.is("35: feed", y.feed(i, -i, i, -i, i), 20 * i);
        }
        CHECK.is("35: FULL", y.feed(0, 0, 0, 0, 0), Scene.FULL);
        CHECK.is("35: how many", y.count(11), 200);
        y.end(181);
        CHECK.is("35: FULL by one", y.feed(0, 0, 0, 0, 0), Scene.FULL);
        y.end(180);
        CHECK.is("35: just", y.feed(0, 0, 0, 0, 0), 200);
    }

    private static void end() {
        HireYard y = new HireYard();
        CHECK.is("36: empty", y.end(0), 0);
        CHECK.is("36: more than it has", y.end(1), Scene.BAD);
        y.feed(0, 0, 0, 0, 0);
        CHECK.is("36: below 0", y.end(-1), Scene.BAD);
        CHECK.is("36: 21", y.end(21), Scene.BAD);
        CHECK.is("36: all", y.end(20), 20);
        CHECK.is("36: some", y.end(7), 7);
        CHECK.is("36: no more", y.end(8), Scene.BAD);
        CHECK.is("36: how many", y.count(11), 7);
        CHECK.is("35: behind them", y.feed(0, 0, 0, 0, 0), 27);
    }

    private static void tapeBytes() {
        HireYard y = Scene.hire().yard;
        y.feed('1' << 24 | '2' << 16 | '3' << 8 | '4', '5' << 24 | '6' << 16 | ' ' << 8 | '-', ' ' << 24 | '6' << 16, 0, 0);
        y.end(10);
        CHECK.is("37: by bytes", y.terms(0, 0), 0);
        CHECK.is("38: by bytes", y.gives(0, 0, 0), 123450);
        y.feed('1' << 24 | 0xff << 16, 0, 0, 0, 0);
        CHECK.is("37: a byte of 255", y.terms(0, 0), -101);
        y.feed(0xb1000000, 0, 0, 0, 0);
        CHECK.is("37: a byte above 127", y.terms(0, 0), -100);
    }

    private static void terms() {
        Scene s = Scene.hire();
        HireYard y = s.yard;
        s.write("1");
        CHECK.is("37: use 2", y.terms(2, 0), Scene.BAD);
        CHECK.is("37: use -1", y.terms(-1, 0), Scene.BAD);
        CHECK.is("37: day 1000", y.terms(0, 1000), Scene.BAD);
        CHECK.is("37: day -1", y.terms(0, -1), Scene.BAD);
        CHECK.is("37: the tape stays", y.count(11), 1);
        CHECK.is("37: first", y.terms(1, 999), 0);
        CHECK.is("37: the tape is empty", y.count(11), 0);
        s.write("1+");
        CHECK.is("37: a fault", y.terms(0, 0), -102);
        CHECK.is("37: the tape is empty by a fault", y.count(11), 0);
        CHECK.is("37: none made", y.count(6), 1);
        for (int i = 1; i < 16; i++) {
            CHECK.is("37: terms " + i, s.terms(0, 0, "1"), i);
        }
        s.write("1+");
        CHECK.is("37: FULL ahead of the fault", y.terms(0, 0), Scene.FULL);
        CHECK.is("37: the tape stays", y.count(11), 2);
        CHECK.is("37: BAD ahead of FULL", y.terms(0, 1000), Scene.BAD);
        CHECK.is("37: how many", y.count(6), 16);
    }

    /** What a text gives for a hire of no days by so many worked; its fault if it has one. */
    private static int value(String text, int worked) {
        Scene s = Scene.hire();
        int number = s.terms(0, 0, text);
        return number < 0 ? number : s.yard.gives(number, 0, worked);
    }

    private static void expect(String text, int worked, int due) {
        CHECK.is("37/38: '" + text + "' by " + worked, value(text, worked), due);
    }

    private static void texts() {
        expect("2+3*4", 0, 14);
        expect("(2+3)*4", 0, 20);
        expect("20-3-4", 0, 13);
        expect("100/7/2", 0, 7);
        expect("100/(7/2)", 0, 33);
        expect("5-7", 0, 0);
        expect("10+(3-10)/2", 0, 7);
        expect("7+5/0", 0, 7);
        expect("7+5/(3-3)", 0, 7);
        expect("999999*10", 0, 9999990);
        expect("999999*10+9", 0, 9999999);
        expect("999999*10+10", 0, 9999999);
        expect("100000*100000", 0, 9999999);
        expect("65536*65536+3", 0, 3);
        expect("65536*32768", 0, 0);
        expect("0-65536*32768", 0, 0);
        expect("65536*32768/(0-1)/(0-100000)", 0, 21474);
        expect("65536*32768/(0-1000)", 0, 2147483);
        expect("least(3,5)+most(3,5)*10", 0, 53);
        expect("least(5,3)+most(5,3)*10", 0, 53);
        expect("most(least(1,2),least(4,3))", 0, 3);
        expect("days*2", 9, 18);
        expect("from 3 up 1;from 0 to 1 2;5", 3, 1);
        expect("from 3 up 1;from 0 to 1 2;5", 1, 2);
        expect("from 3 up 1;from 0 to 1 2;5", 2, 5);
        expect("from 3 up 1;from 0 to 1 2", 2, 0);
        expect("from 4 to 2 9;1", 3, 1);
        expect("from 2 to 2 9;1", 2, 9);
        expect("1;2", 0, 1);
        expect("from3up4", 3, 4);
        expect("from3up4", 2, 0);
        expect("from3to4 5", 4, 5);
        expect("from 999999 up 7 ; 3", 999, 3);
        expect("   least  ( 1  ,days )  ", 9, 1);
        expect("days/2", 999, 499);
        expect("000009", 0, 9);
        expect("((((((((7))))))))", 0, 7);
        expect("((((((((7))))))))+((((((((8))))))))", 0, 15);
        expect("least(1,((((((((2)))))))))", 0, -115);
        expect("(((((((least(9,2))))))))", 0, 2);
    }

    private static void faults() {
        String[] early = {"", "   ", "from", "from 3", "from 3 ", "from 3 up", "from 3 to", "from 3 to 4", "1+", "1;",
            "(", "(1", "least", "least(", "least(1", "least(1,", "least(1,2", "1*", "days ;  "};
        for (String text : early) {
            expect(text, 0, -100 - text.length());
        }
        expect("day", 0, -100);
        expect("dayss", 0, -100);
        expect("daysz", 0, -100);
        expect("1 2", 0, -102);
        expect("1 days", 0, -102);
        expect("days 1", 0, -105);
        expect("days all", 0, -105);
        expect("1days", 0, -101);
        expect("1)", 0, -101);
        expect("(1;2)", 0, -102);
        expect("(1,2)", 0, -102);
        expect("least(1)", 0, -107);
        expect("least(1;2)", 0, -107);
        expect("least(1,2,3)", 0, -109);
        expect("least 1", 0, -106);
        expect("leastt(1,2)", 0, -100);
        expect("1,2", 0, -101);
        expect(";1", 0, -100);
        expect("1;;2", 0, -102);
        expect("-1", 0, -100);
        expect("2--1", 0, -102);
        expect("from days up 1", 0, -105);
        expect("from 1 up up", 0, -110);
        expect("from 1 2", 0, -107);
        expect("from 1 to up", 0, -110);
        expect("from 1 upto 2", 0, -107);
        expect("from 1 up from 2 up 3", 0, -110);
        expect("(from 1 up 2)", 0, -101);
        expect("from 1 up 2 from 2 up 3", 0, -112);
        expect("up", 0, -100);
        expect("1234567", 0, -100);
        expect("1 + 0000001", 0, -104);
        expect("from 1234567 up 1", 0, -105);
        expect("1 1234567", 0, -102);
        expect("Days", 0, -100);
        expect("1.5", 0, -101);
        expect("1\t+2", 0, -101);
        expect("1 +\n2", 0, -103);
        expect("(((((((((1)))))))))", 0, -108);
        expect("((((((((1+least(1,2)))))))))", 0, -115);
        expect("(((((((least(1,(2))))))))))", 0, -115);
        expect("((((((((least", 0, -113);
        expect("((((((((least)", 0, -113);
        expect("((((((((1 (", 0, -110);
    }

    /** Texts that fill the tape. */
    private static void fullTape() {
        String row = "1+".repeat(100);
        expect(row, 0, -300);
        expect(row.substring(0, 199), 0, 100);
        expect(row.substring(0, 198) + "1 ", 0, 100);
        expect(row.substring(0, 198) + "1)", 0, -299);
        expect(" ".repeat(200), 0, -300);
        expect("1;".repeat(99) + "1 ", 0, 1);
        expect("from9up1;".repeat(22) + "7", 8, 7);
        expect("from9up1;".repeat(21) + "days*(3-1)", 8, 16);
        expect("9".repeat(200), 0, -100);
        expect("least(days,".repeat(8) + "5" + ")".repeat(8), 9, 5);
        expect("least(days+2*".repeat(8) + "5,99999999999", 0, -206);
        expect("1+1*most(2,".repeat(8) + "1+1*9" + ")".repeat(8), 0, 18);
    }

    private static void gives() {
        Scene s = Scene.plain();
        HireYard y = s.yard;
        y.machine(0, 0, 0);
        y.order(0, 0, 1, 5, 8);
        s.terms(1, 999, "days+1000*all");
        s.promise(0);
        y.send(0);
        CHECK.is("38: not begun", y.gives(0, 0, 5), Scene.VOID);
        s.pass(26);
        CHECK.is("38: any use and day", y.gives(0, 0, 5), 2005);
        CHECK.is("38: most", y.gives(0, 0, 999), 2999);
        CHECK.is("38: least", y.gives(0, 0, 0), 2000);
        CHECK.is("38: worked 1000", y.gives(0, 0, 1000), Scene.VOID);
        CHECK.is("38: worked -1", y.gives(0, 0, -1), Scene.VOID);
        CHECK.is("38: no terms", y.gives(1, 0, 5), Scene.VOID);
        CHECK.is("38: terms -1", y.gives(-1, 0, 5), Scene.VOID);
        CHECK.is("38: no order", y.gives(0, 1, 5), Scene.VOID);
    }

    private static void names() {
        Scene s = Scene.plain();
        HireYard y = s.yard;
        y.type(10000, 70, 0, 4321);
        y.instead(1, 0, 1);
        y.machine(1, 0, 100);
        y.machine(0, 0, 0);
        y.order(0, 0, 24, 60, 3);
        y.order(0, 0, 24, 60, 3);
        s.promise(0, 1);
        String[] names = {"days", "all", "weeks", "rest", "rate", "hours", "over", "worth", "own", "sub"};
        for (String name : names) {
            s.terms(0, 0, name);
        }
        y.send(0);
        y.send(1);
        s.pass(20);
        y.read(0, 110);
        s.pass(204);
        y.read(0, 150);
        s.pass(12);
        int sub = y.ofOrder(0, 6) == 0 ? 0 : 1;
        CHECK.is("23: the lesser machine for the first", sub, 0);
        long[] got = new long[10];
        for (int i = 0; i < 10; i++) {
            got[i] = y.gives(i, 0, 4);
        }
        CHECK.row("38: names", got, 4, 9, 1, 2, 100, 40, 13, 4321, 1, 1);
        CHECK.is("38: not a substitute", y.gives(9, 1, 4), 0);
        CHECK.is("38: over is 0 at least", y.gives(6, 1, 4), 0);
        y.link(0, 1, 1);
        CHECK.is("38: cross hired", y.gives(8, 0, 4), 0);
        y.fetch(0, 0);
        s.pass(1);
        y.read(0, 200);
        CHECK.is("38: hours up to its end", y.gives(5, 0, 4), 40);
    }

    private static void namesOfTroubles() {
        Scene s = Scene.plain();
        HireYard y = s.yard;
        y.machine(0, 0, 0);
        y.machine(0, 0, 0);
        y.mark(0, 2, 30);
        y.order(0, 0, 47, 60, 3);
        s.promise(0);
        y.send(0);
        y.looked(0, 0, 1);
        y.fuel(0, 0, 50);
        for (int day = 0; day < 9; day++) {
            y.rain(day, day == 2 ? 0 : 1);
        }
        s.terms(0, 0, "rain");
        s.terms(0, 0, "broken");
        s.terms(0, 0, "fuel*1000+harm");
        s.pass(40);
        y.broken(0, 1);
        y.broken(1, 1);
        s.pass(7);
        CHECK.is("38: no hour of rain yet", y.gives(0, 0, 0), 0);
        CHECK.is("38: broken ahead of its beginning", y.gives(1, 0, 0), 0);
        s.pass(1);
        CHECK.is("38: an hour of day 1", y.gives(0, 0, 0), 1);
        s.pass(2);
        CHECK.is("38: a span that goes on", y.gives(1, 0, 0), 3);
        y.broken(0, 0);
        s.pass(22);
        CHECK.is("38: up to the end of day 2", y.gives(0, 0, 0), 1);
        s.pass(1);
        CHECK.is("38: an hour of day 3", y.gives(0, 0, 0), 2);
        y.broken(0, 1);
        s.pass(3);
        y.fetch(0, 0);
        s.pass(100);
        CHECK.is("38: no rain after its end", y.gives(0, 0, 0), 2);
        CHECK.is("38: both spans, up to its end", y.gives(1, 0, 0), 6);
        CHECK.is("38: no fuel, no harm yet", y.gives(2, 0, 0), 0);
        y.looked(0, 1, 5);
        y.fuel(0, 1, 42);
        CHECK.is("38: fuel and harm", y.gives(2, 0, 0), 8030);
        y.rain(1, 0);
        CHECK.is("38: rain as told now", y.gives(0, 0, 0), 1);
    }

    private static void rainOnTheFirstDay() {
        Scene s = Scene.hire();
        s.terms(0, 0, "rain");
        s.yard.rain(0, 1);
        CHECK.is("38: a hire of no hours", s.yard.gives(0, 0, 0), 0);
        s.pass(1);
        CHECK.is("38: rain on day 0", s.yard.gives(0, 0, 0), 1);
    }

    private static void brokenSpans() {
        Scene s = Scene.hire();
        HireYard y = s.yard;
        s.terms(0, 0, "broken");
        y.machine(0, 0, 0);
        y.broken(1, 1);
        y.broken(0, 1);
        y.broken(0, 0);
        s.pass(10);
        CHECK.is("38: a span of no hours", y.gives(0, 0, 0), 0);
        y.broken(0, 1);
        s.pass(5);
        y.broken(1, 0);
        s.pass(1);
        CHECK.is("38: the end of another's span", y.gives(0, 0, 0), 6);
        y.broken(0, 0);
        s.pass(1);
        CHECK.is("38: all spans", y.gives(0, 0, 0), 6);
    }

    private static void bill() {
        Scene s = Scene.hire();
        HireYard y = s.yard;
        y.order(0, 0, 0, 1, 1);
        CHECK.is("39: no terms", y.bill(0, 0, 0), 0);
        CHECK.is("39: by no terms", y.bill(0, 0, 5), -1);
        s.terms(0, 0, "days*10;");
        s.terms(0, 0, "days*10");
        s.terms(1, 0, "7+days");
        s.pass(24);
        y.read(0, 5);
        s.pass(24);
        y.read(0, 5);
        s.pass(48);
        y.said(0, 2, 0);
        CHECK.is("39: price as counted", y.bill(0, 9, 0), 20);
        CHECK.is("39: damage", y.bill(0, 9, 1), 9);
        CHECK.is("39: both", y.bill(0, 9, 2), 29);
        CHECK.is("39: by the least", y.bill(0, 9, 3), 10);
        CHECK.is("39: by the most", y.bill(0, 9, 4), 30);
        CHECK.is("39: the terms", y.bill(0, 9, 5), 0);
        CHECK.is("39: what 6", y.bill(0, 9, 6), Scene.VOID);
        CHECK.is("39: what -1", y.bill(0, 9, -1), Scene.VOID);
        CHECK.is("39: day 1000", y.bill(0, 1000, 0), Scene.VOID);
        CHECK.is("39: day -1", y.bill(0, -1, 0), Scene.VOID);
        CHECK.is("39: not begun", y.bill(1, 0, 0), Scene.VOID);
        CHECK.is("39: no order", y.bill(2, 0, 0), Scene.VOID);
    }

    private static void expectForce(String what, Scene s, int k, int terms, int price) {
        CHECK.is("39: " + what + ", terms", s.yard.bill(0, k, 5), terms);
        CHECK.is("39: " + what + ", price", s.yard.bill(0, k, 0), price);
    }

    private static void inForce() {
        Scene s = Scene.plain();
        HireYard y = s.yard;
        y.machine(0, 0, 0);
        y.order(0, 0, 50, 60, 3);
        s.promise(0);
        s.terms(0, 0, "100");
        s.terms(0, 3, "1");
        s.terms(1, 0, "2");
        y.send(0);
        s.pass(24);
        s.terms(0, 2, "300");
        s.pass(24);
        s.terms(0, 1, "200");
        s.pass(24);
        s.terms(0, 0, "200");
        s.terms(0, 3, "1");
        s.pass(24);
        s.terms(0, 0, "500-days");
        expectForce("day 0", s, 0, 0, 100);
        expectForce("day 1, the lesser of two", s, 1, 0, 100);
        expectForce("day 2, the two made last", s, 2, 4, 200);
        expectForce("day 3, of like ones the later", s, 3, 5, 200);
        expectForce("day 4", s, 4, 5, 200);
        expectForce("days to come", s, 999, 5, 200);
        CHECK.is("39: damage by its own use", y.bill(0, 0, 1), 2);
        s.terms(1, 0, "days");
        CHECK.is("39: the lesser damage", y.bill(0, 9, 1), 2);
        CHECK.is("39: as known", y.bill(0, 3, 1), 2);
        s.terms(1, 0, "1");
        CHECK.is("39: the lesser damage", y.bill(0, 9, 1), 1);
        CHECK.is("39: not known then", y.bill(0, 3, 1), 2);
    }

    private static void next() {
        Scene s = Scene.plain();
        HireYard y = s.yard;
        y.machine(0, 0, 0);
        y.order(0, 0, 1, 10, 2);
        s.promise(0);
        y.send(0);
        CHECK.is("40: not begun", y.next(0, 1), Scene.NOT);
        CHECK.is("40: 0 days", y.next(0, 0), Scene.BAD);
        CHECK.is("40: 61 days", y.next(0, 61), Scene.BAD);
        CHECK.is("40: no order", y.next(1, 1), Scene.BAD);
        s.pass(25);
        y.read(0, 30);
        CHECK.is("40: no terms", y.next(0, 1), Scene.NOT);
        s.terms(0, 0, "from 0 to 6 days*50;weeks*200+rest*50");
        CHECK.is("40: a week is less", y.next(0, 5), 7);
        CHECK.is("40: and for 6", y.next(0, 6), 7);
        CHECK.is("40: not for 4", y.next(0, 4), Scene.NOT);
        CHECK.is("40: two weeks", y.next(0, 13), 14);
        CHECK.is("40: no week from a week", y.next(0, 7), Scene.NOT);
        s.terms(0, 1, "100-days");
        CHECK.is("40: terms for later hires", y.next(0, 4), Scene.NOT);
        s.pass(24);
        s.terms(0, 0, "from 60 to 65 9;from 66 up 3;100-all/66");
        s.terms(0, 0, "from 60 to 65 9;from 66 up 3;100-all/66");
        CHECK.is("40: six more", y.next(0, 60), 66);
        CHECK.is("40: six more, not seven", y.next(0, 53), Scene.NOT);
        CHECK.is("40: the first", y.next(0, 54), 60);
        s.terms(0, 0, "over");
        s.terms(0, 0, "over+days-all");
        CHECK.is("40: over by it", y.next(0, 14), 15);
        CHECK.is("40: over is 0 at least", y.next(0, 15), Scene.NOT);
        s.terms(0, 0, "50-hours+rain");
        s.terms(0, 0, "50-hours+rain");
        CHECK.is("40: other names stay", y.next(0, 14), Scene.NOT);
    }
}
