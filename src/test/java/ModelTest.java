import java.util.Random;

/** Runs of calls by a fixed seed, each call on the class and on the model; both answer the same. */
public final class ModelTest {
    private static final int RUNS = 6000;
    /** The document promises nothing of an object behind its 512th call. */
    private static final int CALLS = 512;
    private static final int LOOKS_AT_LAST = 100;
    private static final String[] PIECES = {
        "when ", " and ", " not ", "night", "stop", "km", "hour", "sold", "axle ", "berth ", "flat ", "free ",
        "<", ">", "=", ":", ";", "0", "1", "12", "500", "12345", "\n", "toll", "#", "flat 3;",
    };

    private final Random random;
    private final Due due;
    private final SleepingCars x = new SleepingCars();
    private final Model y = new Model();
    private int days = 5;
    private int calls = 0;

    private ModelTest(int seed, Due due) {
        this.random = new Random(seed);
        this.due = due;
    }

    public static void main(String[] args) {
        Due due = new Due("ModelTest");
        for (int seed = 0; seed < RUNS && due.wrong() < 20; seed++) {
            new ModelTest(seed, due).play(seed);
        }
        due.close();
    }

    private void play(int seed) {
        days = 2 + random.nextInt(seed % 4 == 0 ? 58 : 5);
        setUp();
        int dense = random.nextInt(3);
        int before = due.wrong();
        while (calls < CALLS - LOOKS_AT_LAST && due.wrong() == before) {
            step(dense);
        }
        lookAtCounts();
        while (calls < CALLS && due.wrong() == before) {
            look(random.nextInt(7));
        }
        if (due.wrong() > before) {
            System.out.println("  seed " + seed + ", call " + calls);
        }
    }

    private void same(String call, long got, long want) {
        calls++;
        due.same(call, got, want);
    }

    private void same(String call, boolean got, boolean want) {
        same(call, got ? 1 : 0, want ? 1 : 0);
    }

    /** Mostly 0 .. n - 1, now and then one outside. */
    private int about(int n) {
        int r = random.nextInt(40);
        if (r == 0) {
            return n;
        }
        if (r == 1) {
            return -1;
        }
        if (r == 2) {
            return random.nextInt(20) == 0 ? random.nextInt() : random.nextInt(n);
        }
        return random.nextInt(n);
    }

    private void setUp() {
        int n = 2 + random.nextInt(9);
        same("line", x.line(n), y.line(n));
        for (int i = 0; i < n; i++) {
            if (random.nextInt(3) > 0) {
                int km = 1 + random.nextInt(500);
                int hours = 1 + random.nextInt(random.nextBoolean() ? 4 : 24);
                same("stretch", x.stretch(i, km, hours), y.stretch(i, km, hours));
            }
        }
        for (int i = 0; i < 6; i++) {
            int stop = random.nextInt(n);
            same("office", x.office(i, stop), y.office(i, stop));
        }
        shareBerths();
    }

    private void shareBerths() {
        int offices = 1 + random.nextInt(6);
        for (int i = 0; i < 10; i++) {
            int office = random.nextInt(offices);
            same("share", x.share(i, office), y.share(i, office));
        }
    }

    private void step(int dense) {
        int r = random.nextInt(100);
        if (r < 25 + 10 * dense) {
            sell();
        } else if (r < 65) {
            act(random.nextInt(9));
        } else if (r < 72) {
            change();
        } else {
            look(random.nextInt(12));
        }
    }

    private void sell() {
        int office = about(6);
        int day = 1 + about(days);
        int from = about(y.count(0));
        int to = from + 1 + about(3);
        same("sell", x.sell(office, day, from, to), y.sell(office, day, from, to));
    }

    private void act(int which) {
        int office = about(6);
        int day = 1 + about(days);
        int from = about(y.count(0));
        int to = from + 1 + about(4);
        switch (which) {
            case 0, 1 -> {
                int ticket = about(Math.max(1, y.count(2)));
                same("back", x.back(ticket), y.back(ticket));
            }
            case 2, 3 -> {
                int other = about(6);
                same("letter", x.letter(office, other, day, from, to), y.letter(office, other, day, from, to));
            }
            case 4 -> {
                int n = random.nextInt(30) == 0 ? about(102) : 1 + random.nextInt(5);
                same("hours", x.hours(n), y.hours(n));
            }
            case 5 -> same("moved", x.moved(day), y.moved(day));
            case 6 -> same("wouldFit", x.wouldFit(office, day, from, to), y.wouldFit(office, day, from, to));
            case 7 -> {
                int berths = 1 + about(10);
                same("run", x.run(day, berths), y.run(day, berths));
            }
            default -> {
                if (random.nextInt(4) == 0) {
                    text();
                }
            }
        }
    }

    private void change() {
        switch (random.nextInt(7)) {
            case 0 -> {
                int n = about(12);
                same("line", x.line(n), y.line(n));
            }
            case 1 -> {
                int stop = about(9);
                int km = about(502);
                int hours = about(26);
                same("stretch", x.stretch(stop, km, hours), y.stretch(stop, km, hours));
            }
            case 2 -> {
                int office = about(6);
                int stop = about(10);
                same("office", x.office(office, stop), y.office(office, stop));
            }
            case 3 -> {
                int berth = about(10);
                int office = about(6);
                same("share", x.share(berth, office), y.share(berth, office));
            }
            case 4, 5 -> {
                int k = about(3);
                same("image", x.image(k), y.image(k));
            }
            default -> {
                int k = about(3);
                same("again", x.again(k), y.again(k));
            }
        }
    }

    private void look(int which) {
        int day = 1 + about(days);
        switch (which) {
            case 0 -> {
                int ticket = about(Math.max(1, y.count(2)));
                int what = about(6);
                same("ticket", x.ticket(ticket, what), y.ticket(ticket, what));
            }
            case 1 -> {
                int letter = about(Math.max(1, y.count(3)));
                int what = about(4);
                same("post", x.post(letter, what), y.post(letter, what));
            }
            case 2 -> {
                int berth = about(10);
                int stop = about(y.count(0));
                same("lies", x.lies(day, berth, stop), y.lies(day, berth, stop));
            }
            case 3, 4 -> {
                int what = about(20);
                same("told", x.told(day, what), y.told(day, what));
            }
            case 5, 6 -> {
                int stop = about(y.count(0)) - random.nextInt(2);
                same("cost", x.cost(day, stop), y.cost(day, stop));
            }
            case 7 -> {
                int set = random.nextInt() & random.nextInt();
                int rest = about(49);
                same("cars", x.cars(set, rest), y.cars(set, rest));
            }
            case 8 -> {
                int what = about(8);
                same("count", x.count(what), y.count(what));
            }
            case 9 -> {
                int what = about(2);
                same("fault", x.fault(what), y.fault(what));
            }
            case 10 -> {
                int[] n = random.ints(5).toArray();
                same("feed", x.feed(n[0], n[1], n[2], n[3], n[4]), y.feed(n[0], n[1], n[2], n[3], n[4]));
            }
            default -> {
                int n = about(401);
                same("end", x.end(n), y.end(n));
            }
        }
    }

    private void text() {
        same("end", x.end(0), y.end(0));
        StringBuilder text = new StringBuilder();
        int style = random.nextInt(4);
        int pieces = random.nextInt(40);
        for (int i = 0; i < pieces; i++) {
            text.append(style == 0 ? PIECES[random.nextInt(PIECES.length)] : goodLine(style));
        }
        text.setLength(Math.min(400, text.length()));
        if (text.length() > 0 && random.nextInt(4) == 0) {
            int at = random.nextInt(text.length());
            text.replace(at, at + random.nextInt(2), PIECES[random.nextInt(PIECES.length)]);
            text.setLength(Math.min(400, text.length()));
        }
        while (style > 1 && text.length() > 0 && text.charAt(text.length() - 1) != ';') {
            text.setLength(text.length() - 1);
        }
        calls += (text.length() + 19) / 20;
        same("fed", Due.feed(x, 0, text.toString()), feedModel(text.toString()));
        same("contract of " + text, x.contract(), y.contract());
        same("fault of " + text, x.fault(0), y.fault(0));
        same("place of " + text, x.fault(1), y.fault(1));
    }

    private int feedModel(String text) {
        for (int at = 0; at < text.length(); at += 20) {
            int[] n = new int[5];
            for (int i = 0; i < 20; i++) {
                n[i / 4] |= (at + i < text.length() ? text.charAt(at + i) : ' ') << 24 - 8 * (i % 4);
            }
            y.feed(n[0], n[1], n[2], n[3], n[4]);
        }
        return y.end(text.length());
    }

    private String goodLine(int style) {
        StringBuilder line = new StringBuilder();
        int tests = random.nextInt(style == 3 ? 7 : 3);
        for (int i = 0; i < tests; i++) {
            line.append(i == 0 ? "when " : " and ").append(random.nextInt(3) == 0 ? "not " : "");
            int subject = 3 + random.nextInt(5);
            line.append(PIECES[subject]);
            if (subject != 3) {
                line.append(PIECES[12 + random.nextInt(3)]).append(random.nextInt(subject == 5 ? 500 : 12));
            }
        }
        line.append(tests == 0 ? "" : ":").append(PIECES[8 + random.nextInt(4)]);
        return line.append(random.nextInt(random.nextInt(3) == 0 ? 10000 : 10)).append(';').toString();
    }

    private void lookAtCounts() {
        for (int what = 0; what < 8; what++) {
            same("count", x.count(what), y.count(what));
        }
    }
}
