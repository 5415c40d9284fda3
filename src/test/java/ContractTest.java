import java.util.List;

/** Term 4: each byte, each token behind each beginning of a text, the limits, and what lines cost. */
public final class ContractTest {
    private static final Due due = new Due("ContractTest");
    private static final int NONE = SleepingCars.NONE;
    private static final String LINE_BEGINS = "when axle berth flat free";
    private static final String TEST_BEGINS = "night stop km hour sold";

    /** Beginnings of texts, with the tokens that go on there ('END': the text may end there). */
    private static final String[][] GOES_ON = {
        {"", LINE_BEGINS + " END"},
        {"flat 1 ;", LINE_BEGINS + " END"},
        {"when night : flat 1 ;", LINE_BEGINS + " END"},
        {"axle", "1"},
        {"berth", "1"},
        {"flat", "1"},
        {"free", "1"},
        {"flat 1", ";"},
        {"when", "not " + TEST_BEGINS},
        {"when not", TEST_BEGINS},
        {"when night", "and :"},
        {"when not night", "and :"},
        {"when stop", "< > ="},
        {"when km", "< > ="},
        {"when hour", "< > ="},
        {"when sold", "< > ="},
        {"when not km", "< > ="},
        {"when km <", "1"},
        {"when km >", "1"},
        {"when km =", "1"},
        {"when km < 1", "and :"},
        {"when night and", "not " + TEST_BEGINS},
        {"when night and not", TEST_BEGINS},
        {"when night and km < 1", "and :"},
        {"when night and night", "and :"},
        {"when night :", "axle berth flat free"},
        {"when night : free", "1"},
        {"when night : free 1", ";"},
    };
    private static final String[] TOKENS = {
        "when", "and", "not", "night", "stop", "km", "hour", "sold", "axle", "berth", "flat", "free",
        "1", ":", ";", "<", ">", "=", "toll", "12345", "#",
    };

    public static void main(String[] args) {
        eachTokenBehindEachBeginning();
        eachByteAtFirst();
        eachByteBetween();
        eachByteBehindDigits();
        tokensGoAsLongAsTheyGo();
        numbersOfDigits();
        linesAtMost16();
        testsAtMost4();
        faultsInTheirOrder();
        placesOfTheEnd();
        fullTapes();
        feedsTheHighestByteFirst();
        testsAtTheirBounds();
        nightBeginsAndEnds();
        hoursOfTheDay();
        chargesByTheirNumbers();
        allLinesThatHold();
        due.close();
    }

    private static void faultAt(String text, int fault, int place) {
        SleepingCars x = new SleepingCars();
        int lines = Due.contract(x, text);
        due.same("fault of '" + text + "'", x.fault(0), fault);
        due.same("place of '" + text + "'", x.fault(1), place);
        due.same("contract of '" + text + "'", lines, fault == 0 ? x.count(5) : NONE);
    }

    private static void eachTokenBehindEachBeginning() {
        due.of("Term 4: 1 the first byte or token with which no text goes on");
        for (String[] row : GOES_ON) {
            List<String> right = List.of(row[1].split(" "));
            boolean mayEnd = right.contains("END");
            faultAt(row[0], mayEnd ? 0 : 1, mayEnd ? NONE : row[0].length());
            for (String token : TOKENS) {
                String text = row[0] + "\n" + token;
                if (!right.contains(token)) {
                    faultAt(text, 1, row[0].length() + 1);
                } else if (token.equals(";")) {
                    faultAt(text, 0, NONE);
                } else {
                    faultAt(text, 1, text.length());
                }
            }
        }
    }

    private static boolean isBlank(int b) {
        return b == 10 || b == 32;
    }

    private static boolean isLetter(int b) {
        return b >= 97 && b <= 122;
    }

    private static boolean isDigit(int b) {
        return b >= 48 && b <= 57;
    }

    private static void eachByteAtFirst() {
        due.of("Term 4: blanks (10, 32)");
        for (int b = 0; b < 256; b++) {
            faultAt((char) b + "", isBlank(b) ? 0 : 1, isBlank(b) ? NONE : 0);
            faultAt((char) b + "flat 1;", isBlank(b) ? 0 : 1, isBlank(b) ? NONE : 0);
            faultAt("flat 1;" + (char) b, isBlank(b) ? 0 : 1, isBlank(b) ? NONE : 7);
        }
    }

    /** Behind 'flat' a letter makes another word of it, and a digit begins the number. */
    private static void eachByteBetween() {
        due.of("Term 4: WORDS, rows of letters a .. z");
        for (int b = 0; b < 256; b++) {
            boolean goesOn = isBlank(b) || isDigit(b);
            faultAt("flat" + (char) b + "1;", goesOn ? 0 : 1, goesOn ? NONE : isLetter(b) ? 0 : 4);
        }
    }

    private static void eachByteBehindDigits() {
        due.of("Term 4: NUMBERS, 1 to 4 digits; signs one byte each");
        for (int b = 0; b < 256; b++) {
            boolean goesOn = isBlank(b) || isDigit(b);
            faultAt("flat 1" + (char) b + ";", goesOn ? 0 : 1, goesOn ? NONE : b == ';' ? 7 : 6);
            faultAt("when km<1" + (char) b + "flat 2;", b == ':' ? 0 : 1, b == ':' ? NONE : placeBehindTest(b));
            boolean isSign = b == '<' || b == '>' || b == '=';
            int place = isLetter(b) ? 5 : isBlank(b) ? 8 : 7;
            faultAt("when km" + (char) b + "1:flat 2;", isSign ? 0 : 1, isSign ? NONE : place);
        }
    }

    /** A letter makes another word of 'flat', a blank or a digit leaves it where ':' is due. */
    private static int placeBehindTest(int b) {
        return isBlank(b) || isDigit(b) ? 10 : 9;
    }

    private static void tokensGoAsLongAsTheyGo() {
        due.of("Term 4: TOKENS, as long as they go, blanks between");
        faultAt("flat1;free2;", 0, NONE);
        faultAt("flatter 1;", 1, 0);
        faultAt("fla 1;", 1, 0);
        faultAt("flatfree 1;", 1, 0);
        faultAt("flat free 1;", 1, 5);
        faultAt("fl at 1;", 1, 0);
        faultAt("whennight:flat 1;", 1, 0);
        faultAt("when notnight:flat 1;", 1, 5);
        faultAt("when night andnight:flat 1;", 1, 11);
        faultAt("when\nnight\n:\nflat\n1\n;\n", 0, NONE);
        faultAt("when night:flat1;when km<1and night:flat2;", 0, NONE);
        faultAt("flat 1 2;", 1, 7);
        faultAt("flat 12;", 0, NONE);
    }

    private static void numbersOfDigits() {
        due.of("Term 4: NUMBERS, 1 to 4 digits (a longer row of digits is no token)");
        faultAt("flat ;", 1, 5);
        faultAt("flat 0;", 0, NONE);
        faultAt("flat 9999;", 0, NONE);
        faultAt("flat 0000;", 0, NONE);
        faultAt("flat 00000;", 1, 5);
        faultAt("flat 10000;", 1, 5);
        faultAt("flat 99999999999999999999;", 1, 5);
        faultAt("when km<9999:flat 1;", 0, NONE);
        faultAt("when km<10000:flat 1;", 1, 8);
        faultAt("flat 1;12345", 1, 7);
        faultAt("12345 flat", 1, 0);
        faultAt("flat 1234 5;", 1, 10);
        faultAt("flat 12345", 1, 5);
    }

    private static void linesAtMost16() {
        due.of("Term 4: 3 one too many, at its first token: a 17th LINE");
        SleepingCars x = new SleepingCars();
        for (int lines = 0; lines <= 16; lines++) {
            due.same("lines", Due.contract(x, "flat 1;".repeat(lines)), lines);
            due.same("lines", x.count(5), lines);
        }
        faultAt("flat 1;".repeat(17), 3, 112);
        faultAt("flat 1;".repeat(16) + "  ", 0, NONE);
        faultAt("flat 1;".repeat(16) + "  free 1;", 3, 114);
        faultAt("flat 1;".repeat(16) + "\nwhen night:free 1;", 3, 113);
        faultAt("flat 1;".repeat(18), 3, 112);
        faultAt("flat1;".repeat(66), 3, 96);
        due.same("refused", Due.contract(x, "flat 2;".repeat(17)), NONE);
        due.same("lines of the one before", x.count(5), 16);
    }

    private static String tests(int number) {
        return "when night" + " and night".repeat(number - 1);
    }

    private static void testsAtMost4() {
        due.of("Term 4: 3 one too many, at its first token: a 5th TEST of a LINE");
        for (int number = 1; number <= 4; number++) {
            faultAt(tests(number) + ":flat 1;", 0, NONE);
        }
        faultAt(tests(5) + ":flat 1;", 3, 45);
        faultAt(tests(6) + ":flat 1;", 3, 45);
        faultAt(tests(4) + " and not night:flat 1;", 3, 45);
        faultAt(tests(4) + " and km<5:flat 1;", 3, 45);
        faultAt(tests(4) + "\n and\n\nnot sold=5:flat 1;", 3, 47);
        faultAt(tests(4) + ":flat 1;" + tests(4) + ":flat 1;", 0, NONE);
        faultAt(tests(4) + ":flat 1;" + tests(5) + ":flat 1;", 3, 48 + 45);
    }

    private static void faultsInTheirOrder() {
        due.of("Term 4: 1 .. If there is none: the first of these: 3");
        faultAt("flat 1;".repeat(17) + "flat", 1, 123);
        faultAt("flat 1;".repeat(17) + "#", 1, 119);
        faultAt("flat 1;".repeat(16) + "flat 12345;", 1, 117);
        faultAt("flat 1;".repeat(16) + "toll", 1, 112);
        faultAt(tests(5), 1, 50);
        faultAt(tests(5) + " flat 1;", 1, 51);
        faultAt(tests(5) + ":flat 1", 1, 57);
        faultAt(tests(4) + " and", 1, 44);
        faultAt(tests(4) + " and and", 1, 45);
        faultAt(tests(5) + ":flat 1;" + "flat 1;".repeat(17), 3, 45);
        faultAt("flat 1;".repeat(16) + tests(5) + ":flat 1;", 3, 112);
        faultAt("flat 1;".repeat(15) + tests(5) + ":flat 1;flat 1;", 3, 105 + 45);
        faultAt("flat 1;toll;#", 1, 7);
        faultAt("flat 1;#toll", 1, 7);
    }

    private static void placesOfTheEnd() {
        due.of("Term 4: FAULTS, with their places (a token's first byte; the end's)");
        faultAt("flat", 1, 4);
        faultAt("flat ", 1, 5);
        faultAt("  flat \n ", 1, 9);
        faultAt("when night", 1, 10);
        faultAt(" \n flat 1", 1, 9);
        faultAt("flat" + " ".repeat(396), 1, 400);
        faultAt("flat 1" + " ".repeat(393) + ";", 0, NONE);
    }

    private static void fullTapes() {
        due.of("Term 4: THE TAPE has at most 400 bytes");
        SleepingCars x = new SleepingCars();
        x.run(1, 1);
        due.same("400 bytes", Due.contract(x, " ".repeat(392) + "flat 37;"), 1);
        due.same("the last bytes count", x.cost(1, 0), 37);
        String line = "when not night and not night:flat1;";
        due.same("11 lines", Due.contract(x, line.repeat(11) + "free 999 ;     "), 12);
        faultAt(";".repeat(400), 1, 0);
        faultAt("x".repeat(400), 1, 0);
        faultAt("flat" + "1".repeat(396), 1, 4);
        faultAt("when " + "km<1and ".repeat(49) + "km", 1, 399);
        faultAt("when " + "km<1and ".repeat(48) + "km<1:flat1;", 3, 37);
        faultAt(" ".repeat(400), 0, NONE);
        faultAt(" ".repeat(399) + "#", 1, 399);
    }

    private static void feedsTheHighestByteFirst() {
        due.of("Promise 17: twenty bytes come behind it, of each number the highest first");
        SleepingCars x = new SleepingCars();
        x.run(1, 1);
        due.same("feed", x.feed(0x666c6174, 0x31323334, 0x3b66720a, 0x20202020, 0x20202020), 20);
        due.same("end", x.end(11), 11);
        due.same("feed", x.feed(0x65652032, 0x3b666c61, 0x74203335, 0x3b202020, 0x20202020), 31);
        due.same("contract", x.contract(), 3);
        due.same("1234 - 2 + 35", x.cost(1, 0), 1267);
        for (int at = 0; at < 20; at++) {
            int[] numbers = {0x20202020, 0x20202020, 0x20202020, 0x20202020, 0x20202020};
            numbers[at / 4] ^= 0xa0 << 24 - 8 * (at % 4);
            x.feed(numbers[0], numbers[1], numbers[2], numbers[3], numbers[4]);
            due.same("contract with a byte 128 at " + at, x.contract(), NONE);
            due.same("its place", x.fault(1), at);
        }
    }

    /** Six stops; legs of 10, 20 .. km that begin at hours 0, 5, 6, 21, 22; 0, 1, 2, 1, 0 are sold. */
    private static SleepingCars priced() {
        SleepingCars x = new SleepingCars();
        x.line(6);
        int[] hours = {5, 1, 15, 1, 3};
        for (int stop = 0; stop < 5; stop++) {
            due.yes("stretch", x.stretch(stop, 10 * (stop + 1), hours[stop]));
        }
        x.run(3, 2);
        x.sell(0, 3, 1, 3);
        x.sell(0, 3, 2, 4);
        return x;
    }

    private static void holdsOn(String test, String legs) {
        SleepingCars x = priced();
        due.same("contract when " + test, Due.contract(x, "when " + test + ":flat 1;when not " + test + ":free 1;"), 2);
        for (int stop = 0; stop < legs.length(); stop++) {
            due.same(test + " on leg " + stop, x.cost(3, stop), legs.charAt(stop) == '1' ? 1 : -1);
        }
    }

    private static void testsAtTheirBounds() {
        due.of("Term 4: TEST: ('stop' | 'km' | 'hour' | 'sold') ('<' | '>' | '=') NUMBER");
        holdsOn("stop<2", "11000");
        holdsOn("stop>2", "00011");
        holdsOn("stop=2", "00100");
        holdsOn("stop<0", "00000");
        holdsOn("stop>0", "01111");
        holdsOn("km<30", "11000");
        holdsOn("km>30", "00011");
        holdsOn("km=30", "00100");
        holdsOn("km=31", "00000");
        holdsOn("km<9999", "11111");
        holdsOn("hour<6", "11000");
        holdsOn("hour>6", "00011");
        holdsOn("hour=6", "00100");
        holdsOn("hour=0006", "00100");
        holdsOn("sold<1", "10001");
        holdsOn("sold>1", "00100");
        holdsOn("sold=1", "01010");
        holdsOn("sold=0", "10001");
        holdsOn("sold=2", "00100");
        due.of("Term 4: TESTS hold together");
        SleepingCars x = priced();
        due.same("contract", Due.contract(x, "when stop>0 and km<50 and not hour=6 and sold<2:flat 1;"), 1);
        for (int stop = 0; stop < 5; stop++) {
            due.same("all four on leg " + stop, x.cost(3, stop), stop == 1 || stop == 3 ? 1 : 0);
        }
    }

    /** What 'flat 1' with a test costs on a second leg that begins at an hour from 1 to 24. */
    private static long costAtHour(String test, int hour) {
        SleepingCars x = new SleepingCars();
        x.line(3);
        x.stretch(0, 1, hour);
        x.run(1, 1);
        Due.contract(x, "when " + test + ":flat 1;");
        return x.cost(1, 1);
    }

    private static void nightBeginsAndEnds() {
        due.of("Term 4: night: that is 22 or more, or below 6");
        for (int hour = 1; hour <= 24; hour++) {
            boolean night = hour >= 22 || hour < 6;
            due.same("night at " + hour, costAtHour("night", hour), night ? 1 : 0);
            due.same("not night at " + hour, costAtHour("not night", hour), night ? 0 : 1);
        }
    }

    private static void hoursOfTheDay() {
        due.of("Term 4: hour: of the day, 0 .. 23, in which it begins");
        for (int hour = 1; hour <= 24; hour++) {
            due.same("hour at " + hour, costAtHour("hour=" + hour % 24, hour), 1);
        }
        due.same("no hour 24", costAtHour("hour=24", 24), 0);
        due.same("hour 23 of the day", costAtHour("hour=23", 23), 1);
        due.same("hour 0 of the next one", costAtHour("hour=0", 24), 1);
        SleepingCars x = new SleepingCars();
        x.line(10);
        for (int stop = 0; stop < 9; stop++) {
            x.stretch(stop, 1, 23);
        }
        x.run(59, 1);
        Due.contract(x, "when hour=16:flat 1;");
        due.same("the eighth stop, 184 hours on", x.cost(59, 8), 1);
        due.same("no other one", x.cost(59, NONE), 1);
    }

    private static long costOf(String line, int km, int sold) {
        SleepingCars x = new SleepingCars();
        x.stretch(0, km, 1);
        x.run(1, 10);
        for (int i = 0; i < sold; i++) {
            x.sell(0, 1, 0, 1);
        }
        due.same("contract " + line, Due.contract(x, line), 1);
        due.same("all together", x.cost(1, NONE), x.cost(1, 0));
        return x.cost(1, 0);
    }

    private static void chargesByTheirNumbers() {
        due.of("Term 4: axle: NUMBER times 4 times KM; berth: NUMBER times sold; flat: NUMBER; free: less NUMBER");
        due.same("axle 0", costOf("axle 0;", 500, 10), 0);
        due.same("axle 1", costOf("axle 1;", 1, 10), 4);
        due.same("axle 9999", costOf("axle 9999;", 500, 10), 19998000);
        due.same("berth 9999 of none", costOf("berth 9999;", 500, 0), 0);
        due.same("berth 7 of one", costOf("berth 7;", 500, 1), 7);
        due.same("berth 9999 of ten", costOf("berth 9999;", 500, 10), 99990);
        due.same("flat 0", costOf("flat 0;", 500, 10), 0);
        due.same("flat 9999", costOf("flat 9999;", 500, 10), 9999);
        due.of("Term 4: a stretch may cost less than nothing");
        due.same("free 0", costOf("free 0;", 500, 10), 0);
        due.same("free 1", costOf("free 1;", 500, 10), -1);
        due.same("free 9999", costOf("free 9999;", 500, 10), -9999);
    }

    private static void allLinesThatHold() {
        due.of("Term 4: all LINES whose TESTS hold together");
        SleepingCars x = priced();
        due.same("contract", Due.contract(x, "flat 100;free 30;when sold>0:berth 7;when stop=1:axle 2;when night:flat 5;"), 5);
        long[] legs = {75, 70 + 7 + 160 + 5, 70 + 14, 70 + 7, 75};
        long sum = 0;
        for (int stop = 0; stop < 5; stop++) {
            due.same("leg " + stop, x.cost(3, stop), legs[stop]);
            sum += legs[stop];
        }
        due.same("all together", x.cost(3, NONE), sum);
        x = new SleepingCars();
        x.line(10);
        for (int stop = 0; stop < 9; stop++) {
            x.stretch(stop, 500, 24);
        }
        x.run(59, 1);
        due.same("contract", Due.contract(x, "axle 9999;".repeat(16)), 16);
        due.same("16 lines of one leg", x.cost(59, 8), 16L * 9999 * 2000);
        due.same("above an int", x.cost(59, NONE), 16L * 9 * 9999 * 2000);
        due.same("contract", Due.contract(x, "free 9999;".repeat(16)), 16);
        due.same("below 0", x.cost(59, NONE), -16L * 9 * 9999);
    }
}
