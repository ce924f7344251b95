/** Promises 29 to 33 and Term 4, each sentence that names a boundary, with numbers written out. */
public final class TextEdgesTest {
    private static final int NONE = SawSums.NONE;
    private static final int BILLION = 1000000000;
    private static final int LEAST = Integer.MIN_VALUE;
    private static final int MOST = Integer.MAX_VALUE;
    private static final Check CHECK = new Check("edges of texts");

    private TextEdgesTest() {
    }

    public static void main(String[] args) {
        feedToTheFull();
        feedTheHighestFirst();
        end();
        endWithinATokenAndBehindIt();
        tellEmptiesTheTape();
        told();
        count();
        sums();
        terms();
        factors();
        units();
        saws();
        sawSums();
        phis();
        words();
        numbers();
        blanks();
        ends();
        firstFault();
        leastFaultOfOnePlace();
        numbersThatCannotBe();
        tenthBracket();
        tooGreat();
        greatButInLeastTerms();
        tooGreatFirstWorkedOut();
        tooGreatComesLast();
        CHECK.finish();
    }

    private static void due(String text, long upper, long lower) {
        SawSums x = new SawSums();
        CHECK.due("[" + text + "]", 0, Tape.tell(CHECK, x, text));
        CHECK.due("[" + text + "] upper", upper, x.told(false));
        CHECK.due("[" + text + "] lower", lower, x.told(true));
        CHECK.due("[" + text + "] counts", 1, x.count(1));
    }

    private static void fault(String text, int kind, int place) {
        SawSums x = new SawSums();
        CHECK.due("ahead", 0, Tape.tell(CHECK, x, "s(1,5)-s(1,5)-3/2"));
        CHECK.due("[" + text + "]", kind + 8 * place, Tape.tell(CHECK, x, text));
        CHECK.due("[" + text + "] upper stays", -3, x.told(false));
        CHECK.due("[" + text + "] lower stays", 2, x.told(true));
        CHECK.due("[" + text + "] does not count", 1, x.count(1));
        CHECK.due("[" + text + "] s stays", 2, x.count(2));
    }

    // ---- promise 29

    private static void feedToTheFull() {
        SawSums x = new SawSums();
        for (int i = 1; i <= 15; i++) {
            CHECK.due("feed " + i, 20 * i, Tape.feed(x, i == 1 ? "1" : "", 0));
            CHECK.due("bytes", 20 * i, x.count(0));
        }
        CHECK.due("feed at 300", NONE, Tape.feed(x, "+1", 0));
        CHECK.due("none came", 300, x.count(0));
        CHECK.due("feed at 300 again", NONE, x.feed(LEAST, MOST, 0, -1, 1));
        CHECK.due("none came", 300, x.count(0));
        CHECK.due("what was there is told", 0, x.tell());
        CHECK.due("what was there is told", 1, x.told(false));
        CHECK.due("empty again", 20, Tape.feed(x, "", 0));
        for (int i = 2; i <= 15; i++) {
            Tape.feed(x, "", 0);
        }
        CHECK.yes("end 281", x.end(281));
        CHECK.due("feed at 281", NONE, Tape.feed(x, "+1", 0));
        CHECK.due("none came", 281, x.count(0));
        CHECK.yes("end 280", x.end(280));
        CHECK.due("feed at 280", 300, Tape.feed(x, "7", 0));
        CHECK.due("tell", 0, x.tell());
        CHECK.due("told", 7, x.told(false));
    }

    private static void feedTheHighestFirst() {
        SawSums x = new SawSums();
        CHECK.due("feed", 20, x.feed(0x31323334, 0x35363738, 0x392b3837, 0x36353433, 0x32312020));
        CHECK.due("tell", 0, x.tell());
        CHECK.due("123456789+87654321", 211111110, x.told(false));
        // The last byte of the twenty.
        CHECK.due("feed", 20, x.feed(0x20202020, 0x20202020, 0x20202020, 0x20202020, 0x20202035));
        CHECK.due("tell", 0, x.tell());
        CHECK.due("5", 5, x.told(false));
        // Numbers below 0 are bytes like others.
        CHECK.due("feed", 20, x.feed(0x31202020, 0x202020ff, 0x20202020, 0x20202020, 0x20202020));
        CHECK.due("byte 255 at 7", 1 + 8 * 7, x.tell());
        CHECK.due("feed", 20, x.feed(-1, -1, -1, -1, -1));
        CHECK.due("byte 255 at 0", 1, x.tell());
        CHECK.due("feed", 20, x.feed(LEAST, 0, 0, 0, 0));
        CHECK.due("byte 128 at 0", 1, x.tell());
    }

    // ---- promise 30

    private static void end() {
        SawSums x = new SawSums();
        CHECK.yes("end 0 of 0", x.end(0));
        for (int n : new int[] {1, -1, LEAST, MOST}) {
            CHECK.no("end " + n + " of 0", x.end(n));
        }
        CHECK.due("empty", 0, x.count(0));
        Tape.feed(x, "12345678901234567890", 0);
        for (int n : new int[] {21, 22, 300, 301, -1, -20, LEAST, MOST}) {
            CHECK.no("end " + n + " of 20", x.end(n));
            CHECK.due("it stays", 20, x.count(0));
        }
        CHECK.yes("end 20 of 20", x.end(20));
        CHECK.due("all", 20, x.count(0));
        CHECK.yes("end 19 of 20", x.end(19));
        CHECK.due("one less", 19, x.count(0));
        CHECK.no("end 20 of 19", x.end(20));
        CHECK.yes("end 1", x.end(1));
        CHECK.due("tell", 0, x.tell());
        CHECK.due("the first byte alone", 1, x.told(false));
        CHECK.no("end 1 behind tell", x.end(1));
        Tape.feed(x, "7", 0);
        CHECK.yes("end 0", x.end(0));
        CHECK.due("empty", 0, x.count(0));
        CHECK.due("nothing to tell", 1, x.tell());
    }

    /** What once stood behind the TAPE's end is not read, and new bytes come right behind the end. */
    private static void endWithinATokenAndBehindIt() {
        SawSums x = new SawSums();
        Tape.feed(x, "1234567890", 0);
        CHECK.yes("end 9", x.end(9));
        CHECK.due("nine digits", 0, x.tell());
        CHECK.due("nine digits", 123456789, x.told(false));
        Tape.feed(x, "phix", 0);
        CHECK.yes("end 3", x.end(3));
        CHECK.due("phi", 0, x.tell());
        Tape.feed(x, "phi", 0);
        CHECK.yes("end 2", x.end(2));
        CHECK.due("ph", 1, x.tell());
        Tape.feed(x, "1+2+3", 0);
        CHECK.yes("end 4", x.end(4));
        CHECK.due("1+2+", 1 + 8 * 4, x.tell());
        Tape.feed(x, "1+2999", 0);
        CHECK.yes("end 3", x.end(3));
        CHECK.due("behind 3 bytes", 23, Tape.feed(x, "345", 0));
        CHECK.due("1+2345", 0, x.tell());
        CHECK.due("1+2345", 2346, x.told(false));
        Tape.feed(x, "4", 0);
        CHECK.yes("end 1", x.end(1));
        CHECK.due("a shorter text behind a longer one", 0, x.tell());
        CHECK.due("a shorter text behind a longer one", 4, x.told(false));
    }

    // ---- promise 31

    private static void tellEmptiesTheTape() {
        SawSums x = new SawSums();
        CHECK.due("nothing", 1, x.tell());
        CHECK.due("nothing again", 1, x.tell());
        Tape.put(CHECK, x, "7");
        CHECK.due("a SUM", 0, x.tell());
        CHECK.due("empty", 0, x.count(0));
        CHECK.due("nothing left", 1, x.tell());
        Tape.put(CHECK, x, "x");
        CHECK.due("a FAULT", 1, x.tell());
        CHECK.due("empty", 0, x.count(0));
        CHECK.due("told last stays", 7, x.told(false));
        Tape.put(CHECK, x, " 1/0");
        CHECK.due("a FAULT", 2 + 8 * 3, x.tell());
        CHECK.due("empty", 0, x.count(0));
        CHECK.due("told last stays", 7, x.told(false));
        Tape.put(CHECK, x, "999999999*8");
        CHECK.due("a FAULT", 3 + 8 * 9, x.tell());
        CHECK.due("empty", 0, x.count(0));
        CHECK.due("told last stays", 7, x.told(false));
        CHECK.due("told last stays", 1, x.told(true));
    }

    // ---- promise 32

    private static void told() {
        SawSums x = new SawSums();
        CHECK.due("ahead of any", 0, x.told(false));
        CHECK.due("ahead of any", 1, x.told(true));
        for (String text : new String[] {"x", "1/0", "999999999*2"}) {
            CHECK.yes("a FAULT", Tape.tell(CHECK, x, text) != 0);
            CHECK.due("still ahead of any", 0, x.told(false));
            CHECK.due("still ahead of any", 1, x.told(true));
        }
        CHECK.due("tell", 0, Tape.tell(CHECK, x, "-5/10"));
        CHECK.due("least terms", -1, x.told(false));
        CHECK.due("least terms", 2, x.told(true));
        CHECK.due("tell", 0, Tape.tell(CHECK, x, "1/2-1/2"));
        CHECK.due("0 is 0 and 1", 0, x.told(false));
        CHECK.due("0 is 0 and 1", 1, x.told(true));
    }

    // ---- promise 33

    private static void count() {
        SawSums x = new SawSums();
        for (int what = 0; what < 3; what++) {
            CHECK.due("count " + what + " at first", 0, x.count(what));
        }
        for (int what : new int[] {-1, 3, -2, 4, LEAST, MOST}) {
            CHECK.due("count " + what, NONE, x.count(what));
        }
        Tape.tell(CHECK, x, "s(1,5)+s(1,5)");
        CHECK.due("s stood", 2, x.count(2));
        Tape.tell(CHECK, x, "s(1,5)+s(1,5)+s(1,5)+");
        CHECK.due("SUMS", 1, x.count(1));
        CHECK.due("one with a FAULT does not count", 2, x.count(2));
        Tape.tell(CHECK, x, "s(1,999999999)");
        CHECK.due("one too great does not count", 2, x.count(2));
        Tape.tell(CHECK, x, "saw(1/3)+phi");
        CHECK.due("saw is not s", 0, x.count(2));
        CHECK.due("SUMS", 2, x.count(1));
        Tape.tell(CHECK, x, "saw((((-s(1,5)*s(2,5)))))");
        CHECK.due("s within", 2, x.count(2));
        CHECK.due("SUMS", 3, x.count(1));
        Tape.put(CHECK, x, "1+2");
        CHECK.due("bytes", 3, x.count(0));
        CHECK.due("SUMS", 3, x.count(1));
        CHECK.due("s within", 2, x.count(2));
    }

    // ---- term 4: how a TEXT is made

    private static void sums() {
        fault("", 1, 0);
        fault("+", 1, 0);
        fault("+1", 1, 0);
        fault("1+", 1, 2);
        fault("1-", 1, 2);
        fault("1++1", 1, 2);
        fault("1 1", 1, 2);
        fault("1+1)", 1, 3);
        fault("1,1", 1, 1);
        due("1-1-1", -1, 1);
        due("1-1+1", 1, 1);
        due("1+".repeat(149) + "1 ", 150, 1);
        due("1-".repeat(149) + "01", -148, 1);
        fault("1+".repeat(150), 1, 300);
    }

    private static void terms() {
        fault("*", 1, 0);
        fault("*1", 1, 0);
        fault("1*", 1, 2);
        fault("1**1", 1, 2);
        fault("1*+1", 1, 2);
        due("2*3+4*5", 26, 1);
        due("2-3*4", -10, 1);
        due("1*".repeat(149) + "02", 2, 1);
        fault("1*".repeat(150), 1, 300);
    }

    private static void factors() {
        due("-1", -1, 1);
        due("1--1", 2, 1);
        due("1+-1", 0, 1);
        due("2*-1", -2, 1);
        due("-(-1)", 1, 1);
        due("-2*-3", 6, 1);
        due("-1/2", -1, 2);
        due("-0", 0, 1);
        fault("-", 1, 1);
        fault("--1", 1, 1);
        fault("1---1", 1, 3);
        fault("1*--1", 1, 3);
        fault("-+1", 1, 1);
        fault("-".repeat(300), 1, 1);
    }

    private static void units() {
        due("4/6", 2, 3);
        due("0/7", 0, 1);
        due("7/7", 1, 1);
        due("1/999999999", 1, 999999999);
        due("999999999/1", 999999999, 1);
        due("999999999/999999998", 999999999, 999999998);
        fault("1/", 1, 2);
        fault("/1", 1, 0);
        fault("1/-1", 1, 2);
        fault("1/2/3", 1, 3);
        fault("1//2", 1, 2);
        fault("1/(2)", 1, 2);
        fault("(1)/2", 1, 3);
        fault("1/phi", 1, 2);
        fault("phi/2", 1, 3);
        fault("1/s(1,5)", 1, 2);
        fault("(", 1, 1);
        fault(")", 1, 0);
        fault("()", 1, 1);
        fault("(1", 1, 2);
        fault("(1))", 1, 3);
        fault("(1,2)", 1, 2);
        fault("1(2)", 1, 1);
        fault("(1)(2)", 1, 3);
    }

    private static void saws() {
        due("saw(0)", 0, 1);
        due("saw(1)", 0, 1);
        due("saw(-999999999)", 0, 1);
        due("saw(1/2)", 0, 1);
        due("saw(-1/3)", 1, 6);
        due("saw(1/500000000)", -249999999, 500000000);
        due("saw(s(1,5))", -3, 10);
        fault("saw", 1, 3);
        fault("saw(", 1, 4);
        fault("saw()", 1, 4);
        fault("saw(1", 1, 5);
        fault("saw 1", 1, 4);
        fault("saw(1,2)", 1, 5);
        fault("saw saw(1)", 1, 4);
        fault("saw-(1)", 1, 3);
    }

    private static void sawSums() {
        due("s(0,1)", 0, 1);
        due("s(-0,1)", 0, 1);
        due("s(7,1)", 0, 1);
        due("s(-999999999,1)", 0, 1);
        due("s(999999999,999999999)", 0, 1);
        due("s(0,999999999)", 0, 1);
        due("s(1,2)", 0, 1);
        due("s(4,3)", 1, 18);
        due("s(-1,3)", -1, 18);
        due("s(6,9)", -1, 18);
        fault("s", 1, 1);
        fault("s(", 1, 2);
        fault("s()", 1, 2);
        fault("s(,5)", 1, 2);
        fault("s(1", 1, 3);
        fault("s(1)", 1, 3);
        fault("s(1,", 1, 4);
        fault("s(1,)", 1, 4);
        fault("s(1,5", 1, 5);
        fault("s(1,5,7)", 1, 5);
        fault("s(1 5)", 1, 4);
        fault("s(--1,5)", 1, 3);
        fault("s(1,--5)", 1, 5);
        fault("s(+1,5)", 1, 2);
        fault("s(1,+5)", 1, 4);
        fault("s(1/2,5)", 1, 3);
        fault("s(1,5/2)", 1, 5);
        fault("s((1),5)", 1, 2);
        fault("s(1,(5))", 1, 4);
        fault("s(phi,5)", 1, 2);
        fault("s(1,phi)", 1, 4);
        fault("s(-,5)", 1, 3);
        fault("s(1,-)", 1, 5);
        fault("s 1,5", 1, 2);
        fault("s(1234567890,5)", 1, 2);
    }

    private static void phis() {
        fault("phi phi", 1, 4);
        fault("phi(1)", 1, 3);
        fault("phi1", 1, 3);
        fault("2phi", 1, 1);
        SawSums x = new SawSums();
        CHECK.due("of a new MATRIX", 0, Tape.tell(CHECK, x, "phi"));
        CHECK.due("of a new MATRIX", 0, x.told(false));
        CHECK.due("of a new MATRIX", 1, x.told(true));
        Tape.put(CHECK, x, "phi");
        CHECK.yes("set", x.set(1, BILLION, 0, 1));
        CHECK.due("10^9", 0, x.tell());
        CHECK.due("it is that of the MATRIX as it is told", BILLION, x.told(false));
        CHECK.due("10^9 with a minus", 0, Tape.tell(CHECK, x, "-phi"));
        CHECK.due("10^9 with a minus", -BILLION, x.told(false));
        CHECK.due("10^9 and 1", 3 + 8 * 3, Tape.tell(CHECK, x, "phi+1"));
        CHECK.yes("set", x.set(BILLION, BILLION - 1, 1, 1));
        CHECK.due("1 above 10^9", 3, Tape.tell(CHECK, x, "phi"));
        CHECK.due("1 above 10^9, times 0", 3 + 8 * 2, Tape.tell(CHECK, x, "0*phi"));
        CHECK.due("1 above 10^9, less itself", 3 + 8 * 1, Tape.tell(CHECK, x, "(phi-phi)"));
        CHECK.yes("invert", x.invert());
        CHECK.due("1 below -10^9", 3 + 8 * 5, Tape.tell(CHECK, x, "1 +  phi"));
        CHECK.due("told last stays", -BILLION, x.told(false));
    }

    // ---- term 4: TOKENS

    private static void words() {
        fault("a", 1, 0);
        fault("z", 1, 0);
        fault("sa(1)", 1, 0);
        fault("saws(1)", 1, 0);
        fault("sss(1,5)", 1, 0);
        fault("sphi", 1, 0);
        fault("ph", 1, 0);
        fault("phis", 1, 0);
        fault("p hi", 1, 0);
        fault("s aw(1)", 1, 2);
        fault("Saw(1)", 1, 0);
        fault("sAw(1)", 1, 1);
        fault("saW(1)", 1, 0);
        fault("1+x", 1, 2);
        fault("s".repeat(300), 1, 0);
        fault("sz(1,5)", 1, 0);
        fault("zs(1,5)", 1, 0);
        fault("as(1,5)", 1, 0);
        // The bytes beside a and z.
        fault("`", 1, 0);
        fault("{", 1, 0);
        fault("s`(1,5)", 1, 1);
        fault("s{(1,5)", 1, 1);
    }

    private static void numbers() {
        due("0", 0, 1);
        due("9", 9, 1);
        due("000000000", 0, 1);
        due("000000009", 9, 1);
        due("999999999", 999999999, 1);
        fault("1000000000", 1, 0);
        fault("0000000000", 1, 0);
        fault("0000000001", 1, 0);
        fault("9".repeat(300), 1, 0);
        fault("1+1000000000", 1, 2);
        fault("1/1000000000", 1, 2);
        fault("s(1,1000000000)", 1, 4);
        fault("s(1,-1000000000)", 1, 5);
        fault("(1000000000", 1, 1);
        fault("1 1000000000", 1, 2);
        // The bytes beside 0 and 9.
        fault("1:", 1, 1);
        fault("1.", 1, 1);
        fault("1 2", 1, 2);
        fault("1_2", 1, 1);
    }

    private static void blanks() {
        due(" \n1 \n", 1, 1);
        due("1 \n + \n 2 \n * \n 3", 7, 1);
        due("1 / 2", 1, 2);
        due("- 1", -1, 1);
        due("s\n(\n-\n1\n,\n3\n)", -1, 18);
        due("saw ( 1 / 3 )", -1, 6);
        due("( 1 )", 1, 1);
        due(" ".repeat(299) + "7", 7, 1);
        due("7" + "\n".repeat(299), 7, 1);
        for (char sign : new char[] {0, 9, 11, 12, 13, 31, 127, 128, 160, 133, 255}) {
            fault("1" + sign, 1, 1);
            fault(sign + "1", 1, 0);
            fault("1 +" + sign + "1", 1, 3);
        }
    }

    /** The end's place is the text's length, blanks too. */
    private static void ends() {
        fault(" ", 1, 1);
        fault("\n", 1, 1);
        fault("1+ ", 1, 3);
        fault("1+ \n ", 1, 5);
        fault("(1 ", 1, 3);
        fault("s(1,5  ", 1, 7);
        fault(" ".repeat(300), 1, 300);
        fault("(1" + " ".repeat(298), 1, 300);
    }

    // ---- term 4: FAULTS

    private static void firstFault() {
        fault("x+y", 1, 0);
        fault("1/0+x", 2, 2);
        fault("x+1/0", 1, 0);
        fault("1/0+1/0", 2, 2);
        fault("1/0/0", 2, 2);
        fault("s(1,0", 2, 4);
        fault("s(1,0)+s(", 2, 4);
        fault("s(x,0)", 1, 2);
        fault("s(1,0x)", 2, 4);
        fault("((((((((((x", 2, 9);
        fault("x((((((((((", 1, 0);
        fault("1/0((((((((((", 2, 2);
    }

    private static void leastFaultOfOnePlace() {
        fault("1/0000000000", 1, 2);
        fault("s(1,0000000000)", 1, 4);
        fault("s(1,-0000000001)", 1, 5);
        fault("(((((((((1(", 1, 10);
        fault("(((((((((phi(", 1, 12);
        fault("(((((((((1+1 (", 1, 13);
        fault("((((((((s(1,(", 1, 12);
    }

    private static void numbersThatCannotBe() {
        fault("1/0", 2, 2);
        fault("1/ 0", 2, 3);
        fault("0/0", 2, 2);
        fault("1/000000000", 2, 2);
        fault("-1/0", 2, 3);
        fault("s(1,0)", 2, 4);
        fault("s(1,000000000)", 2, 4);
        fault("s(0,0)", 2, 4);
        // At its NUMBER, not at the sign ahead of it.
        fault("s(1,-0)", 2, 5);
        fault("s(1,-1)", 2, 5);
        fault("s(1, - \n 1)", 2, 9);
        fault("s(1,-999999999)", 2, 5);
        fault("saw(1/0)", 2, 6);
        due("s(0,1)+s(-1,1)+1/1", 1, 1);
        fault(" ".repeat(297) + "1/0", 2, 299);
    }

    private static void tenthBracket() {
        due("(((((((((1)))))))))", 1, 1);
        fault("((((((((((1))))))))))", 2, 9);
        fault("((((((((( (1))))))))))", 2, 10);
        fault("(".repeat(300), 2, 9);
        fault("(((((((((", 1, 9);
        // Those that are closed are not open at once.
        due("(((((((((1)))))))))+(((((((((1)))))))))", 2, 1);
        due("((((((((" + "(1)+(1)" + "))))))))", 2, 1);
        due("(1)+".repeat(12) + "1", 13, 1);
        // Those behind saw and s are open, too.
        due("saw(((((((((1/3)))))))))", -1, 6);
        fault("saw((((((((((1/3))))))))))", 2, 12);
        fault("(((((((((saw(1/3))))))))))", 2, 12);
        due("((((((((s(1,5)))))))))", 1, 5);
        fault("(((((((((s(1,5))))))))))", 2, 10);
        due("saw(".repeat(9) + "1/3" + ")".repeat(9), -1, 6);
        fault("saw(".repeat(10) + "1/3" + ")".repeat(10), 2, 39);
    }

    /** 10^9 is not above 10^9; 1 more is. */
    private static void tooGreat() {
        due("999999999+1", BILLION, 1);
        fault("999999999+2", 3, 9);
        due("-999999999-1", -BILLION, 1);
        fault("-999999999-2", 3, 10);
        due("500000000*2", BILLION, 1);
        due("-500000000*2", -BILLION, 1);
        fault("333333334*3", 3, 9);
        fault("-333333334*3", 3, 10);
        due("1/500000000*1/2", 1, BILLION);
        fault("1/333333334*1/3", 3, 11);
        due("1/500000000*-1/2", -1, BILLION);
        due("1/999999937+0", 1, 999999937);
        fault("1/999999937+1/2", 3, 11);
        fault("1/999999937 - 1/2", 3, 12);
        due("saw(1/500000000)", -249999999, 500000000);
        due("saw(1/499999999)", -499999997, 999999998);
        fault("saw(1/500000001)", 3, 0);
        fault(" saw(1/999999999)", 3, 1);
        fault("2*saw(1/999999999)", 3, 2);
        fault("s(1,999999999)", 3, 0);
        fault("1 - s(1,999999999)", 3, 4);
        fault("-s(1,999999999)", 3, 1);
        fault("s(433494437,701408733)", 3, 0);
    }

    private static void greatButInLeastTerms() {
        due("999999999/999999998*999999998/999999999", 1, 1);
        due("999999999/999999998+1/999999998", 500000000, 499999999);
        due("999999999/999999998-1/999999998", 1, 1);
        due("1/999999999+1/999999999", 2, 999999999);
        due("999999999*1/999999999", 1, 1);
        due("500000000*4/2", BILLION, 1);
        due("saw(2/999999998)", -499999997, 999999998);
    }

    /** As it is worked out, from the left, what stands within ahead. */
    private static void tooGreatFirstWorkedOut() {
        fault("999999999*2+999999999*2", 3, 9);
        fault("999999999+2+999999999*2", 3, 9);
        fault("999999999+2*999999999", 3, 11);
        fault("999999999+(2+999999999)", 3, 12);
        fault("(999999999+2)+999999999*2", 3, 10);
        fault("1+999999999+2*3", 3, 11);
        fault("999999999*2*(999999999*2)", 3, 9);
        fault("999999999*(999999999*2)", 3, 20);
        fault("saw(999999999*2)", 3, 13);
        fault("saw(saw(1/999999999))", 3, 4);
        fault("0*(999999999*2)", 3, 12);
        fault("999999999+999999999-999999999", 3, 9);
        fault("(s(1,999999999)-s(1,999999999))", 3, 1);
    }

    private static void tooGreatComesLast() {
        fault("999999999*2+x", 1, 12);
        fault("999999999*2+", 1, 12);
        fault("999999999*2+1/0", 2, 14);
        fault("s(1,999999999)+s(1,-1)", 2, 20);
        fault("s(1,999999999)((((((((((", 1, 14);
        fault("999999999*2*((((((((((1", 2, 21);
    }
}
