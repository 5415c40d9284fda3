import java.util.ArrayList;
import java.util.Comparator;
import java.util.List;
import java.util.regex.Matcher;
import java.util.regex.Pattern;

/** The document's words once more, as plainly and as slowly as they can be followed. */
final class Model {
    record Ticket(int number, int day, int berth, int from, int to, int office, boolean given) {
        boolean lies(int ofDay) {
            return day == ofDay && !given;
        }

        boolean over(int otherFrom, int otherTo) {
            return from < otherTo && otherFrom < to;
        }

        Ticket inBerth(int other) {
            return new Ticket(number, day, other, from, to, office, given);
        }
    }

    record Letter(int other, int day, int from, int to, int comes, int answer, int sold) {
    }

    record Test(boolean not, String subject, char sign, int number) {
    }

    record Line(List<Test> tests, String charge, int number) {
    }

    /** All that an image has. */
    private static final class Told {
        int now = 0;
        List<int[]> legs = new ArrayList<>();
        int[] offices = new int[6];
        int[] shares = new int[10];
        int[][] charts = new int[60][];
        List<Ticket> tickets = new ArrayList<>();
        List<Letter> letters = new ArrayList<>();
        List<Line> lines = List.of();

        Told copy() {
            Told other = new Told();
            other.now = now;
            legs.forEach(leg -> other.legs.add(leg.clone()));
            other.offices = offices.clone();
            other.shares = shares.clone();
            for (int day = 0; day < 60; day++) {
                other.charts[day] = charts[day] == null ? null : charts[day].clone();
            }
            other.tickets = new ArrayList<>(tickets);
            other.letters = new ArrayList<>(letters);
            other.lines = lines;
            return other;
        }

        int stops() {
            return legs.size() + 1;
        }

        int at(int stop) {
            return legs.subList(0, stop).stream().mapToInt(leg -> leg[1]).sum();
        }

        boolean isRun(int day) {
            return day >= 0 && day < 60 && charts[day] != null;
        }

        boolean isStop(int stop) {
            return stop >= 0 && stop < stops();
        }

        boolean isAsked(int day, int from, int to) {
            return isRun(day) && isStop(from) && isStop(to) && from < to;
        }

        int runs() {
            int runs = 0;
            for (int[] chart : charts) {
                runs += chart == null ? 0 : 1;
            }
            return runs;
        }

        boolean isOn(int day, int berth, int office) {
            return 24 * day - now <= 12 || charts[day][berth] == office;
        }

        int sold(int day, int stop) {
            return (int) tickets.stream().filter(t -> t.lies(day) && t.over(stop, stop + 1)).count();
        }
    }

    private Told told = new Told();
    private final Told[] images = new Told[3];
    private String tape = "";
    private int fault = 0;
    private int place = -1;

    Model() {
        line(2);
    }

    private static boolean isOffice(int office) {
        return 0 <= office && office <= 5;
    }

    boolean line(int n) {
        if (told.runs() > 0 || n < 2 || n > 10) {
            return false;
        }
        told.legs = new ArrayList<>();
        for (int i = 1; i < n; i++) {
            told.legs.add(new int[] {1, 1});
        }
        told.offices = new int[6];
        return true;
    }

    boolean stretch(int stop, int km, int hours) {
        if (told.runs() > 0 || stop < 0 || stop >= told.legs.size()) {
            return false;
        }
        if (km < 1 || km > 500 || hours < 1 || hours > 24) {
            return false;
        }
        told.legs.set(stop, new int[] {km, hours});
        return true;
    }

    boolean office(int office, int stop) {
        if (told.runs() > 0 || !isOffice(office) || !told.isStop(stop)) {
            return false;
        }
        told.offices[office] = stop;
        return true;
    }

    boolean share(int berth, int office) {
        if (berth < 0 || berth > 9 || !isOffice(office)) {
            return false;
        }
        told.shares[berth] = office;
        return true;
    }

    boolean run(int day, int berths) {
        if (told.isRun(day) || day < 0 || day > 59 || told.now >= 24 * day || berths < 1 || berths > 10) {
            return false;
        }
        told.charts[day] = java.util.Arrays.copyOf(told.shares, berths);
        return true;
    }

    int sell(int office, int day, int from, int to) {
        if (!isOffice(office) || !told.isAsked(day, from, to) || told.tickets.size() == 300) {
            return -1;
        }
        if (told.now >= 24 * day + told.at(from)) {
            return -1;
        }
        int best = -1;
        for (int berth = told.charts[day].length - 1; berth >= 0; berth--) {
            if (told.isOn(day, berth, office) && isFree(day, berth, from, to)) {
                best = best < 0 || gap(day, berth, from, to) <= gap(day, best, from, to) ? berth : best;
            }
        }
        if (best < 0) {
            return -1;
        }
        int number = told.tickets.size();
        told.tickets.add(new Ticket(number, day, best, from, to, office, false));
        return number;
    }

    private boolean isFree(int day, int berth, int from, int to) {
        return told.tickets.stream().noneMatch(t -> t.lies(day) && t.berth() == berth && t.over(from, to));
    }

    private int gap(int day, int berth, int from, int to) {
        int ahead = told.tickets.stream().filter(t -> t.lies(day) && t.berth() == berth && t.to() <= from)
            .mapToInt(Ticket::to).max().orElse(0);
        int behind = told.tickets.stream().filter(t -> t.lies(day) && t.berth() == berth && t.from() >= to)
            .mapToInt(Ticket::from).min().orElse(told.stops() - 1);
        return behind - ahead;
    }

    boolean back(int ticket) {
        if (ticket < 0 || ticket >= told.tickets.size()) {
            return false;
        }
        Ticket t = told.tickets.get(ticket);
        if (t.given() || told.now >= 24 * t.day() + told.at(t.from())) {
            return false;
        }
        told.tickets.set(ticket, new Ticket(ticket, t.day(), t.berth(), t.from(), t.to(), t.office(), true));
        return true;
    }

    int letter(int office, int other, int day, int from, int to) {
        if (!isOffice(office) || !isOffice(other) || office == other || !told.isAsked(day, from, to)) {
            return -1;
        }
        if (told.tickets.size() == 300 || told.letters.size() == 100) {
            return -1;
        }
        int low = Math.min(told.offices[office], told.offices[other]);
        int high = Math.max(told.offices[office], told.offices[other]);
        int way = 1 + told.at(high) - told.at(low);
        told.letters.add(new Letter(other, day, from, to, told.now + way, told.now + way + way, -1));
        return told.letters.size() - 1;
    }

    int post(int letter, int what) {
        if (letter < 0 || letter >= told.letters.size() || what < 0 || what > 3) {
            return -1;
        }
        Letter l = told.letters.get(letter);
        int stands = told.now >= l.answer() ? 2 : told.now >= l.comes() ? 1 : 0;
        return new int[] {l.comes(), l.answer(), stands, stands == 2 ? l.sold() : -2}[what];
    }

    int hours(int n) {
        if (n < 1 || n > 100 || told.now + n > 2000) {
            return -1;
        }
        for (int i = 0; i < n; i++) {
            told.now++;
            for (int k = 0; k < told.letters.size(); k++) {
                Letter l = told.letters.get(k);
                if (l.comes() == told.now) {
                    int sold = sell(l.other(), l.day(), l.from(), l.to());
                    told.letters.set(k, new Letter(l.other(), l.day(), l.from(), l.to(), l.comes(), l.answer(), sold));
                }
            }
        }
        return told.now;
    }

    /** The tickets that lie in berths of an office's chart, by where they begin, then by numbers. */
    private List<Ticket> ofChart(int day, int office) {
        List<Ticket> those = new ArrayList<>();
        for (Ticket t : told.tickets) {
            if (t.lies(day) && told.isOn(day, t.berth(), office)) {
                those.add(t);
            }
        }
        those.sort(Comparator.comparingInt(Ticket::from).thenComparingInt(Ticket::number));
        return those;
    }

    /** Each in the first berth of the chart that is free for it; null if one finds none. */
    private List<Ticket> laid(List<Ticket> those, int day, int office) {
        List<Ticket> laid = new ArrayList<>();
        for (Ticket t : those) {
            int berth = 0;
            while (berth < told.charts[day].length && !isFreeIn(laid, day, office, berth, t)) {
                berth++;
            }
            if (berth == told.charts[day].length) {
                return null;
            }
            laid.add(t.inBerth(berth));
        }
        return laid;
    }

    private boolean isFreeIn(List<Ticket> laid, int day, int office, int berth, Ticket t) {
        return told.isOn(day, berth, office)
            && laid.stream().noneMatch(l -> l.berth() == berth && l.over(t.from(), t.to()));
    }

    int moved(int day) {
        if (!told.isRun(day) || told.now >= 24 * day) {
            return -1;
        }
        int moved = 0;
        for (int office = 0; office < 6; office++) {
            for (Ticket t : laid(ofChart(day, office), day, office)) {
                moved += told.tickets.get(t.number()).berth() == t.berth() ? 0 : 1;
                told.tickets.set(t.number(), t);
            }
        }
        return moved;
    }

    boolean wouldFit(int office, int day, int from, int to) {
        if (!isOffice(office) || !told.isAsked(day, from, to) || told.now >= 24 * day) {
            return false;
        }
        List<Ticket> those = ofChart(day, office);
        those.add(new Ticket(300, day, 0, from, to, office, false));
        those.sort(Comparator.comparingInt(Ticket::from).thenComparingInt(Ticket::number));
        return laid(those, day, office) != null;
    }

    int ticket(int ticket, int what) {
        if (ticket < 0 || ticket >= told.tickets.size() || what < 0 || what > 5) {
            return -1;
        }
        Ticket t = told.tickets.get(ticket);
        return new int[] {t.day(), t.berth(), t.from(), t.to(), t.office(), t.given() ? 1 : 0}[what];
    }

    int lies(int day, int berth, int stop) {
        if (!told.isRun(day) || berth < 0 || berth >= told.charts[day].length) {
            return -2;
        }
        if (stop < 0 || stop >= told.legs.size()) {
            return -2;
        }
        return told.tickets.stream().filter(t -> t.lies(day) && t.berth() == berth && t.over(stop, stop + 1))
            .mapToInt(Ticket::number).findFirst().orElse(-1);
    }

    int told(int day, int what) {
        if (!told.isRun(day)) {
            return -1;
        }
        int tickets = (int) told.tickets.stream().filter(t -> t.lies(day)).count();
        int most = 0;
        for (int stop = 0; stop < told.legs.size(); stop++) {
            most = Math.max(most, told.sold(day, stop));
        }
        int legs = told.tickets.stream().filter(t -> t.lies(day)).mapToInt(t -> t.to() - t.from()).sum();
        if (what >= 10 && what < 10 + told.charts[day].length) {
            return told.charts[day][what - 10];
        }
        if (what < 0 || what > 5) {
            return -1;
        }
        int left = told.now >= 24 * day ? 1 : 0;
        return new int[] {told.charts[day].length, tickets, most, legs, tickets, left}[what];
    }

    int feed(int a, int b, int c, int d, int e) {
        if (tape.length() > 380) {
            return -1;
        }
        for (int number : new int[] {a, b, c, d, e}) {
            for (int k = 3; k >= 0; k--) {
                tape += (char) (number >>> 8 * k & 0xff);
            }
        }
        return tape.length();
    }

    int end(int n) {
        if (n < 0 || n > tape.length()) {
            return -1;
        }
        tape = tape.substring(0, n);
        return n;
    }

    private static final Pattern TOKEN = Pattern.compile("[ \n]*(?:([a-z]+)|([0-9]{1,4}(?![0-9]))|([:;<>=]))");
    private static final String[] WORDS = {
        "when", "and", "not", "night", "stop", "km", "hour", "sold", "axle", "berth", "flat", "free",
    };
    // A letter a token: w when, a and, o not, g night, s a subject, c a charge, p < > =, n a number.
    private static final String KINDS = "waogssssccccpppn";
    private static final Pattern TEXT =
        Pattern.compile("(?:(?:wo?(?:g|spn)(?:ao?(?:g|spn))*:)?cn;)*");

    private static char kind(String token) {
        for (int i = 0; i < WORDS.length; i++) {
            if (WORDS[i].equals(token)) {
                return KINDS.charAt(i);
            }
        }
        char first = token.charAt(0);
        if (first >= '0' && first <= '9') {
            return 'n';
        }
        return "<>=".indexOf(first) >= 0 ? 'p' : ":;".indexOf(first) >= 0 ? first : '?';
    }

    private static boolean goesOn(String kinds) {
        Matcher m = TEXT.matcher(kinds);
        return m.matches() || m.hitEnd();
    }

    int contract() {
        List<String> tokens = new ArrayList<>();
        List<Integer> places = new ArrayList<>();
        String kinds = "";
        Matcher m = TOKEN.matcher(tape);
        int at = 0;
        fault = 0;
        place = -1;
        String text = tape;
        tape = "";
        while (m.region(at, text.length()).lookingAt()) {
            String token = m.group().strip();
            tokens.add(token);
            places.add(m.end() - token.length());
            at = m.end();
            kinds += kind(token);
        }
        while (at < text.length() && " \n".indexOf(text.charAt(at)) >= 0) {
            at++;
        }
        for (int i = 1; i <= kinds.length(); i++) {
            if (!goesOn(kinds.substring(0, i))) {
                return faulty(1, places.get(i - 1));
            }
        }
        if (at < text.length() || !TEXT.matcher(kinds).matches()) {
            return faulty(1, at);
        }
        return take(tokens, places);
    }

    private int faulty(int kind, int at) {
        fault = kind;
        place = at;
        return -1;
    }

    private int take(List<String> tokens, List<Integer> places) {
        List<Line> lines = new ArrayList<>();
        int i = 0;
        while (i < tokens.size()) {
            if (lines.size() == 16) {
                return faulty(3, places.get(i));
            }
            List<Test> tests = new ArrayList<>();
            while (tokens.get(i).equals("when") || tokens.get(i).equals("and")) {
                i++;
                if (tests.size() == 4) {
                    return faulty(3, places.get(i));
                }
                boolean not = tokens.get(i).equals("not");
                i += not ? 1 : 0;
                String subject = tokens.get(i++);
                if (subject.equals("night")) {
                    tests.add(new Test(not, subject, ' ', 0));
                } else {
                    tests.add(new Test(not, subject, tokens.get(i).charAt(0), Integer.parseInt(tokens.get(i + 1))));
                    i += 2;
                }
            }
            i += tests.isEmpty() ? 0 : 1;
            lines.add(new Line(tests, tokens.get(i), Integer.parseInt(tokens.get(i + 1))));
            i += 3;
        }
        told.lines = lines;
        return lines.size();
    }

    int fault(int what) {
        return what == 0 ? fault : what == 1 ? place : -1;
    }

    long cost(int day, int stop) {
        if (!told.isRun(day) || stop < -1 || stop >= told.legs.size()) {
            return 0;
        }
        long sum = 0;
        for (int leg = 0; leg < told.legs.size(); leg++) {
            sum += stop == -1 || stop == leg ? costOf(day, leg) : 0;
        }
        return sum;
    }

    private long costOf(int day, int leg) {
        long sum = 0;
        for (Line line : told.lines) {
            if (line.tests().stream().allMatch(test -> holds(test, day, leg))) {
                long number = line.number();
                sum += switch (line.charge()) {
                    case "axle" -> number * 4 * told.legs.get(leg)[0];
                    case "berth" -> number * told.sold(day, leg);
                    case "flat" -> number;
                    default -> -number;
                };
            }
        }
        return sum;
    }

    private boolean holds(Test test, int day, int leg) {
        int hour = (24 * day + told.at(leg)) % 24;
        int value = switch (test.subject()) {
            case "stop" -> leg;
            case "km" -> told.legs.get(leg)[0];
            case "hour" -> hour;
            case "sold" -> told.sold(day, leg);
            default -> 0;
        };
        boolean plain = switch (test.sign()) {
            case '<' -> value < test.number();
            case '>' -> value > test.number();
            case '=' -> value == test.number();
            default -> hour >= 22 || hour < 6;
        };
        return plain != test.not();
    }

    /** As few cars as there are days that no car of an earlier day is matched with. */
    int cars(int days, int rest) {
        if (days < 0 || rest < 0 || rest > 48) {
            return -1;
        }
        int[] carOf = new int[30];
        java.util.Arrays.fill(carOf, -1);
        int cars = 0;
        for (int day = 0; day < 30; day++) {
            if ((days & 1 << day) != 0 && !match(days, day, rest, carOf, new boolean[30])) {
                cars++;
            }
        }
        return cars;
    }

    /** carOf[e]: the day whose run is done by the car of day e's run next. */
    private boolean match(int days, int day, int rest, int[] carOf, boolean[] seen) {
        for (int e = 0; e < day; e++) {
            int comes = 24 * e + told.at(told.stops() - 1);
            int home = comes + rest + told.at(told.stops() - 1);
            if ((days & 1 << e) != 0 && !seen[e] && home + rest <= 24 * day) {
                seen[e] = true;
                if (carOf[e] < 0 || match(days, carOf[e], rest, carOf, seen)) {
                    carOf[e] = day;
                    return true;
                }
            }
        }
        return false;
    }

    int count(int what) {
        int km = told.legs.stream().mapToInt(leg -> leg[0]).sum();
        int[] row = {
            told.stops(), told.runs(), told.tickets.size(), told.letters.size(), told.now, told.lines.size(),
            told.at(told.stops() - 1), km,
        };
        return what < 0 || what >= row.length ? -1 : row[what];
    }

    boolean image(int k) {
        if (k < 0 || k > 2) {
            return false;
        }
        images[k] = told.copy();
        return true;
    }

    boolean again(int k) {
        if (k < 0 || k > 2 || images[k] == null) {
            return false;
        }
        told = images[k].copy();
        return true;
    }
}
