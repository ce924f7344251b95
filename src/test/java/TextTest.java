import java.util.Random;

/** Promises 29 to 33. */
public final class TextTest {
    private static final int NONE = SawSums.NONE;
    private static final int BILLION = 1000000000;
    private static final Check CHECK = new Check("texts");

    private TextTest() {
    }

    public static void main(String[] args) {
        feedAndEnd();
        order();
        toldAndCount();
        values();
        standing();
        being();
        tooGreat();
        brackets();
        tokens();
        longTexts();
        phis();
        apart();
        random();
        CHECK.finish();
    }

    private static int tell(SawSums x, String text) {
        return Tape.tell(CHECK, x, text);
    }

    private static void due(String text, long upper, long lower) {
        SawSums x = new SawSums();
        CHECK.due(text, 0, tell(x, text));
        CHECK.due(text + " upper", upper, x.told(false));
        CHECK.due(text + " lower", lower, x.told(true));
        CHECK.due(text + " sums", 1, x.count(1));
        against(new SawSums(), text);
    }

    private static void fault(String text, int kind, int place) {
        SawSums x = new SawSums();
        CHECK.due(text, 0, tell(x, "2/4+s(1,5)"));
        CHECK.due(text, kind + 8 * place, tell(x, text));
        CHECK.due(text + ": upper stays", 7, x.told(false));
        CHECK.due(text + ": lower stays", 10, x.told(true));
        CHECK.due(text + ": sums stay", 1, x.count(1));
        CHECK.due(text + ": s stays", 1, x.count(2));
        against(new SawSums(), text);
    }

    /** Told by the oracle, too. */
    private static void against(SawSums x, String text) {
        long upper = x.told(false);
        long lower = x.told(true);
        int sums = x.count(1);
        int ofS = x.count(2);
        TextOracle oracle = new TextOracle(text, x.phi(0));
        CHECK.due("[" + text + "]", oracle.fault, tell(x, text));
        boolean good = oracle.fault == 0;
        CHECK.due("[" + text + "] upper", good ? oracle.value.part(false) : upper, x.told(false));
        CHECK.due("[" + text + "] lower", good ? oracle.value.part(true) : lower, x.told(true));
        CHECK.due("[" + text + "] sums", good ? sums + 1 : sums, x.count(1));
        CHECK.due("[" + text + "] s", good ? oracle.sums : ofS, x.count(2));
    }

    private static void feedAndEnd() {
        SawSums x = new SawSums();
        for (int i = 1; i <= 15; i++) {
            CHECK.due("feed " + i, 20 * i, x.feed(0, 0, 0, 0, 0));
        }
        CHECK.due("feed beyond 300", NONE, x.feed(0, 0, 0, 0, 0));
        CHECK.due("none come", 300, x.count(0));
        CHECK.no("end 301", x.end(301));
        CHECK.no("end -1", x.end(-1));
        CHECK.no("end least", x.end(Integer.MIN_VALUE));
        CHECK.no("end greatest", x.end(Integer.MAX_VALUE));
        CHECK.due("it stays", 300, x.count(0));
        CHECK.yes("end 300", x.end(300));
        CHECK.yes("end 281", x.end(281));
        CHECK.due("feed at 281", NONE, x.feed(1, 2, 3, 4, 5));
        CHECK.due("none come", 281, x.count(0));
        CHECK.yes("end 280", x.end(280));
        CHECK.due("feed at 280", 300, x.feed(1, 2, 3, 4, 5));
        CHECK.yes("end 0", x.end(0));
        CHECK.due("empty", 0, x.count(0));
        CHECK.yes("end 0 of 0", x.end(0));
        CHECK.no("end 1 of 0", x.end(1));
        CHECK.due("tell empty", 1, x.tell());
    }

    private static void order() {
        String text = "12345678+0+987654321";
        SawSums x = new SawSums();
        Tape.put(CHECK, x, text);
        CHECK.due("all twenty bytes in order", 0, x.tell());
        CHECK.due("their SUM", 999999999, x.told(false));
        Tape.put(CHECK, x, "1+20000000000000000000");
        CHECK.yes("end 4", x.end(4));
        CHECK.due("the rest comes behind the first 4", 24, Tape.feed(x, "+5                +7", 0));
        CHECK.due("tell", 0, x.tell());
        CHECK.due("1+20+5+7", 33, x.told(false));
    }

    private static void toldAndCount() {
        SawSums x = new SawSums();
        CHECK.due("told ahead of any", 0, x.told(false));
        CHECK.due("told ahead of any", 1, x.told(true));
        CHECK.due("count 1", 0, x.count(1));
        CHECK.due("count 2", 0, x.count(2));
        CHECK.due("a fault first", 1, tell(x, "x"));
        CHECK.due("told ahead of any", 0, x.told(false));
        CHECK.due("told ahead of any", 1, x.told(true));
        CHECK.due("tell", 0, tell(x, "s(1,5)+saw(1/3)*s(2,5)+s(1,1)"));
        CHECK.due("s stood 3 times", 3, x.count(2));
        CHECK.due("told", 1, x.told(false));
        CHECK.due("told", 5, x.told(true));
        CHECK.due("tell", 0, tell(x, "saw(1/3)"));
        CHECK.due("s stood never", 0, x.count(2));
        CHECK.due("two SUMS", 2, x.count(1));
        for (int what : new int[] {-1, 3, Integer.MIN_VALUE, Integer.MAX_VALUE}) {
            CHECK.due("count " + what, NONE, x.count(what));
        }
    }

    private static void values() {
        due("0", 0, 1);
        due("-0", 0, 1);
        due("7", 7, 1);
        due("000000007", 7, 1);
        due("999999999", 999999999, 1);
        due("-999999999", -999999999, 1);
        due("6/4", 3, 2);
        due("-6/4", -3, 2);
        due("0/5", 0, 1);
        due("1/999999999", 1, 999999999);
        due("1+2*3", 7, 1);
        due("(1+2)*3", 9, 1);
        due("10-2-3", 5, 1);
        due("10-(2-3)", 11, 1);
        due("2*-3", -6, 1);
        due("2--3", 5, 1);
        due("2+-3", -1, 1);
        due("-2*-3", 6, 1);
        due("1/2*2/3", 1, 3);
        due("1/2-1/3", 1, 6);
        due("saw(7/3)", -1, 6);
        due("saw(-7/3)", 1, 6);
        due("saw(1/2)", 0, 1);
        due("saw(5)", 0, 1);
        due("saw(3/4)", 1, 4);
        due("-saw(3/4)", -1, 4);
        due("saw(saw(3/4))", -1, 4);
        due("s(1,5)", 1, 5);
        due("s(-1,5)", -1, 5);
        due("s(2,10)", 1, 5);
        due("s(0,5)", 0, 1);
        due("s(-0,1)", 0, 1);
        due("-s(1,5)", -1, 5);
        due("s(987,1597)", Exact.sum(987, 1597).part(false), Exact.sum(987, 1597).part(true));
        due("s(999999999,999999999)+s(-999999999,1)", 0, 1);
        due("phi", 0, 1);
        due("500000000*2", BILLION, 1);
        due("999999999+1", BILLION, 1);
        due("1/500000000*1/2", 1, BILLION);
        due("0*999999999*0", 0, 1);
        due("  1 \n+\n 2 ", 3, 1);
        due("s ( 1 , 5 ) * saw ( 1 / 3 )", -1, 30);
        due("- 5", -5, 1);
        due("s(- 1,5)", -1, 5);
    }

    private static void standing() {
        fault("", 1, 0);
        fault(" ", 1, 1);
        fault(" \n ", 1, 3);
        fault("+1", 1, 0);
        fault("*1", 1, 0);
        fault("--1", 1, 1);
        fault("1+", 1, 2);
        fault("1+ ", 1, 3);
        fault("1 2", 1, 2);
        fault("1/", 1, 2);
        fault("1/-2", 1, 2);
        fault("1/(2)", 1, 2);
        fault("1/2/3", 1, 3);
        fault("(1)/2", 1, 3);
        fault("phi/2", 1, 3);
        fault("s(1,5)/2", 1, 6);
        fault("2*--3", 1, 3);
        fault("(1", 1, 2);
        fault("()", 1, 1);
        fault("1)", 1, 1);
        fault("(1))", 1, 3);
        fault("saw", 1, 3);
        fault("saw 1", 1, 4);
        fault("saw()", 1, 4);
        fault("saw(1", 1, 5);
        fault("saw(1,2)", 1, 5);
        fault("s", 1, 1);
        fault("s1", 1, 1);
        fault("s()", 1, 2);
        fault("s(1)", 1, 3);
        fault("s(1,)", 1, 4);
        fault("s(1,5", 1, 5);
        fault("s(1,5,6)", 1, 5);
        fault("s(1+1,5)", 1, 3);
        fault("s(--1,5)", 1, 3);
        fault("s(1,--5)", 1, 5);
        fault("s(1,-)", 1, 5);
        fault("s(1/2,5)", 1, 3);
        fault("s((1),5)", 1, 2);
        fault("phi(1)", 1, 3);
        fault("phi phi", 1, 4);
        fault("ss(1,5)", 1, 0);
        fault("sa(1)", 1, 0);
        fault("sawsaw(1)", 1, 0);
        fault("ph", 1, 0);
        fault("phii", 1, 0);
        fault("S(1,5)", 1, 0);
        fault("PHI", 1, 0);
        fault("1\t+2", 1, 1);
        fault("1.5", 1, 1);
        fault("1\r", 1, 1);
        fault("\0", 1, 0);
        fault("1+\u00ff", 1, 2);
        fault("1\u00b9", 1, 1);
        fault("1234567890", 1, 0);
        fault("0000000000", 1, 0);
        fault("1+ 1234567890", 1, 3);
        fault("1/1234567890", 1, 2);
        fault("1/0000000000", 1, 2);
        fault("s(1234567890,5)", 1, 2);
        fault("s(1,-0000000000)", 1, 5);
        fault("1 1234567890", 1, 2);
    }

    private static void being() {
        fault("1/0", 2, 2);
        fault("1/ 000000000", 2, 3);
        fault("0/0", 2, 2);
        fault("s(1,0)", 2, 4);
        fault("s(1,-0)", 2, 5);
        fault("s(1,- 5)", 2, 6);
        fault("s(1,0", 2, 4);
        fault("1/0+", 2, 2);
        fault("1/0 1/0", 2, 2);
        fault("x+1/0", 1, 0);
        fault("1/0+x", 2, 2);
        fault("1+2+saw(1/0)", 2, 10);
        fault("s(0,-1)+x", 2, 5);
    }

    private static void tooGreat() {
        fault("999999999*2", 3, 9);
        fault("999999999+2", 3, 9);
        fault("-999999999-2", 3, 10);
        fault("1/999999999*1/2", 3, 11);
        fault("1/999999999+1/2", 3, 11);
        fault("saw(1/999999999)", 3, 0);
        fault("1+saw(1/999999999)", 3, 2);
        fault("1+s(1,999999999)", 3, 2);
        fault("s(433494437,701408733)", 3, 0);
        fault("2+999999999*2+999999999*3", 3, 11);
        fault("999999999+2+999999999*3", 3, 9);
        fault("999999999+2*999999999", 3, 11);
        fault("999999999+999999999-999999999", 3, 9);
        fault("0*(999999999+2)", 3, 12);
        fault("saw(999999999*999999999)", 3, 13);
        fault("saw(1/2+s(1,999999999))", 3, 8);
        fault("s(1,999999999)*(999999999*2)", 3, 0);
        fault("(999999999*2)*s(1,999999999)", 3, 10);
        // The other kinds come first, wherever they stand.
        fault("999999999*2+x", 1, 12);
        fault("999999999*2+1/0", 2, 14);
        fault("s(1,999999999)+", 1, 15);
    }

    private static void brackets() {
        due("(((((((((1)))))))))", 1, 1);
        fault("((((((((((1))))))))))", 2, 9);
        due("(1)+(2)+(3)+(4)+(5)+(6)+(7)+(8)+(9)+(10)+(11)", 66, 1);
        due("((((((((s(1,5)))))))))", 1, 5);
        due("((((((((saw(1/3)))))))))", -1, 6);
        fault("(((((((((s(1,5))))))))))", 2, 10);
        fault("(((((((((saw(1))))))))))", 2, 12);
        fault("(((((((((1(", 1, 10);
        fault("(((((((((phi(", 1, 12);
        fault("(((((((((", 1, 9);
        fault("saw(saw(saw(saw(saw(saw(saw(saw(saw(saw(1", 2, 39);
        fault("((((((((((", 2, 9);
        fault("((((((((1)))))))))))", 1, 17);
    }

    private static void tokens() {
        // Every byte alone, and every byte behind a NUMBER.
        for (int sign = 0; sign < 256; sign++) {
            against(new SawSums(), "" + (char) sign);
            against(new SawSums(), "1" + (char) sign);
            against(new SawSums(), "1" + (char) sign + "1");
            against(new SawSums(), "s" + (char) sign + "(1,5)");
        }
    }

    private static void longTexts() {
        due("1+".repeat(149) + "01", 150, 1);
        due("1-".repeat(149) + "10", -157, 1);
        due("1*".repeat(149) + "20", 20, 1);
        due(" ".repeat(299) + "7", 7, 1);
        due("7" + "\n".repeat(299), 7, 1);
        fault(" ".repeat(300), 1, 300);
        fault("1+".repeat(150), 1, 300);
        fault("9".repeat(300), 1, 0);
        fault("s".repeat(300), 1, 0);
        fault("(".repeat(300), 2, 9);
        fault("-".repeat(300), 1, 1);
        fault("1+".repeat(148) + "1/0 ", 2, 298);
        SawSums x = new SawSums();
        CHECK.due("many s", 0, tell(x, "s(1,5)+".repeat(42) + "s(1,5)"));
        CHECK.due("many s", 43, x.count(2));
        CHECK.due("many s", 43, x.told(false));
        CHECK.due("many s", 5, x.told(true));
    }

    private static void phis() {
        SawSums x = new SawSums();
        x.set(1, 0, 5, 1);
        against(x, "phi*phi+phi");
        CHECK.due("phi", 2, x.told(false));
        x.set(1, BILLION, 0, 1);
        CHECK.due("greatest", 0, tell(x, "phi"));
        CHECK.due("greatest", BILLION, x.told(false));
        against(x, "phi+1");
        against(x, "phi*phi");
        x.set(1, -BILLION, 0, 1);
        CHECK.due("least", 0, tell(x, "phi"));
        CHECK.due("least", -BILLION, x.told(false));
        x.set(BILLION, BILLION - 1, 1, 1);
        CHECK.due("too great", 3 + 8 * 2, tell(x, "0*phi"));
        CHECK.due("what was told stays", -BILLION, x.told(false));
        against(x, "phi+x");
        x.invert();
        CHECK.due("too great", 3 + 8, tell(x, "-phi"));
    }

    /** Other calls leave the TAPE and what was told alone, and texts leave the MATRIX alone. */
    private static void apart() {
        SawSums x = new SawSums();
        CHECK.due("tell", 0, tell(x, "s(1,3)"));
        Tape.put(CHECK, x, "s(1,5)+phi*2");
        x.set(2, 5, 1, 3);
        x.saw(1, 3, false);
        x.sum(5, 77, true);
        x.both(3, 4, false);
        x.three(3, 4, 5, false);
        x.above(3, 4, 50);
        x.alike(3, 499, NONE);
        x.sorts(499, 0);
        x.pyramid(30, 20, 10);
        x.rings(997, NONE);
        x.twins(997, NONE);
        x.word(NONE);
        CHECK.due("the TAPE stays", 12, x.count(0));
        CHECK.due("what was told stays", 1, x.told(false));
        CHECK.due("what was told stays", 18, x.told(true));
        CHECK.due("one SUM yet", 1, x.count(1));
        CHECK.due("phi", 5, x.phi(0));
        CHECK.due("tell", 0, x.tell());
        CHECK.due("1/5 + 5*2", 51, x.told(false));
        CHECK.due("1/5 + 5*2", 5, x.told(true));
        CHECK.due("a stays", 2, x.of(0));
        CHECK.due("b stays", 5, x.of(1));
        CHECK.due("c stays", 1, x.of(2));
        CHECK.due("d stays", 3, x.of(3));
    }

    private static final String[] PARTS = {"+", "-", "*", "/", "(", ")", ",", "saw", "s", "phi", "saw(", "s(", "s(1,5)",
        "0", "1", "2", "3", "7", "10", "999999999", "1000000007", "12345", " ", "\n", "x", "1/2", "2/3", "-1", "s(7,1",
        "500000000", "999999937", "31623"};

    private static String sum(Random random, int depth) {
        StringBuilder text = new StringBuilder(term(random, depth));
        while (random.nextInt(3) == 0) {
            text.append(random.nextBoolean() ? "+" : " - ").append(term(random, depth));
        }
        return text.toString();
    }

    private static String term(Random random, int depth) {
        StringBuilder text = new StringBuilder(factor(random, depth));
        while (random.nextInt(3) == 0) {
            text.append("*").append(factor(random, depth));
        }
        return text.toString();
    }

    private static String number(Random random) {
        int most = random.nextInt(4) == 0 ? BILLION : random.nextInt(4) == 0 ? 100000 : 12;
        return Integer.toString(random.nextInt(most));
    }

    private static String factor(Random random, int depth) {
        String sign = random.nextInt(4) == 0 ? "-" : "";
        switch (random.nextInt(depth > 0 ? 7 : 4)) {
            case 0:
                return sign + number(random);
            case 1:
                return sign + number(random) + "/" + number(random);
            case 2:
                return sign + "s(" + (random.nextBoolean() ? "-" : "") + number(random) + "," + number(random) + ")";
            case 3:
                return sign + "phi";
            case 4:
                return sign + "saw(" + sum(random, depth - 1) + ")";
            default:
                return sign + "(" + sum(random, depth - 1) + ")";
        }
    }

    private static String cut(String text) {
        return text.length() > 300 ? text.substring(0, 300) : text;
    }

    private static String broken(Random random, String text) {
        StringBuilder changed = new StringBuilder(text);
        for (int i = random.nextInt(3); i > 0 && changed.length() > 0; i--) {
            int at = random.nextInt(changed.length());
            String part = PARTS[random.nextInt(PARTS.length)];
            if (random.nextBoolean()) {
                changed.insert(at, part);
            } else {
                changed.replace(at, at + 1, random.nextBoolean() ? part : "");
            }
        }
        return changed.toString();
    }

    private static void random() {
        Random random = new Random(13);
        int[] met = new int[4];
        for (int run = 0; run < 2000; run++) {
            SawSums x = new SawSums();
            x.shift(random.nextInt(9) - 4);
            x.turn();
            x.shift(random.nextInt(9) - 4);
            for (int i = 0; i < 15; i++) {
                String text = sum(random, random.nextInt(10));
                if (i % 3 == 0) {
                    text = broken(random, text);
                }
                if (i % 10 == 9) {
                    StringBuilder loose = new StringBuilder();
                    for (int n = random.nextInt(30); n > 0; n--) {
                        loose.append(PARTS[random.nextInt(PARTS.length)]);
                    }
                    text = loose.toString();
                }
                text = cut(text);
                against(x, text);
                met[new TextOracle(text, x.phi(0)).fault & 7]++;
            }
        }
        for (int kind = 0; kind < 4; kind++) {
            CHECK.yes("kind " + kind + " was met often (" + met[kind] + ")", met[kind] > 1000);
        }
    }
}
