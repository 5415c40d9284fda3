import java.util.Arrays;

/** Sleeping cars on one long line; ../shared/DOC.md says what each call does. */
public final class SleepingCars {
    public static final int NONE = -1;

    /** What lies() answers for no such place, and post() for a letter that is not answered. */
    private static final int UNKNOWN = -2;

    private static final int LEAST_STOPS = 2;
    private static final int MOST_STOPS = 10;
    private static final int MOST_KM = 500;
    private static final int DAY_HOURS = 24;
    private static final int DAYS = 60;
    private static final int MOST_BERTHS = 10;
    private static final int OFFICES = 6;
    private static final int LAST_HOUR = 2000;
    private static final int MOST_HOURS_A_CALL = 100;
    private static final int MOST_TICKETS = 300;
    private static final int MOST_LETTERS = 100;
    private static final int SHARED_CHART_HOURS = 12;
    private static final int SET_DAYS = 30;
    private static final int MOST_REST = 48;
    private static final int IMAGES = 3;

    private static final int MOST_BYTES = 400;
    private static final int FEED_BYTES = 20;
    private static final int MOST_DIGITS = 4;
    private static final int MOST_LINES = 16;
    private static final int MOST_TESTS = 4;
    private static final int CAR_AXLES = 4;
    private static final int NIGHT_BEGINS = 22;
    private static final int NIGHT_ENDS = 6;

    private static final int NO_FAULT = 0;
    private static final int WRONG_TOKEN = 1;
    private static final int TOO_MANY = 3;

    // Kinds of tokens. The first five are also the places of a stretch's facts, so they begin at 0.
    private static final int STOP = 0;
    private static final int KM = 1;
    private static final int HOUR = 2;
    private static final int SOLD = 3;
    private static final int NIGHT = 4;
    private static final int FACTS = 5;
    private static final int WHEN = 5;
    private static final int AND = 6;
    private static final int NOT = 7;
    private static final int AXLE = 8;
    private static final int BERTH = 9;
    private static final int FLAT = 10;
    private static final int FREE = 11;
    private static final int NUMBER = 12;
    private static final int COLON = 13;
    private static final int SEMICOLON = 14;
    private static final int LESS = 15;
    private static final int MORE = 16;
    private static final int EQUAL = 17;
    private static final int OTHER_WORD = 18;
    private static final int NO_TOKEN = 19;
    private static final int TAPE_END = 20;

    private final Book book = new Book();
    private final Book[] images = new Book[IMAGES];
    private final Tape tape = new Tape();
    private final Reader reader = new Reader();

    public SleepingCars() {
    }

    public boolean line(int n) {
        if (book.runs.size > 0 || n < LEAST_STOPS || n > MOST_STOPS) {
            return false;
        }
        book.route.lay(n);
        Arrays.fill(book.officeStops, 0);
        return true;
    }

    public boolean stretch(int stop, int km, int hours) {
        if (book.runs.size > 0 || !book.route.hasLeg(stop)) {
            return false;
        }
        if (km < 1 || km > MOST_KM || hours < 1 || hours > DAY_HOURS) {
            return false;
        }
        book.route.legKm[stop] = km;
        book.route.legHours[stop] = hours;
        return true;
    }

    public boolean office(int office, int stop) {
        if (book.runs.size > 0 || !isOffice(office) || !book.route.isStop(stop)) {
            return false;
        }
        book.officeStops[office] = stop;
        return true;
    }

    public boolean share(int berth, int office) {
        if (berth < 0 || berth >= MOST_BERTHS || !isOffice(office)) {
            return false;
        }
        book.shares[berth] = office;
        return true;
    }

    public boolean run(int day, int berths) {
        if (day < 0 || day >= DAYS || book.runs.isTold(day) || book.hasLeft(day, 0)) {
            return false;
        }
        if (berths < 1 || berths > MOST_BERTHS) {
            return false;
        }
        book.runs.add(day, berths, book.shares);
        return true;
    }

    public int sell(int office, int day, int from, int to) {
        if (!isOffice(office) || !book.isRunStretch(day, from, to)) {
            return NONE;
        }
        return book.sellStretch(office, day, from, to);
    }

    public boolean back(int ticket) {
        return book.tickets.has(ticket) && book.takeBack(ticket);
    }

    public int letter(int office, int other, int day, int from, int to) {
        if (!isOffice(office) || !isOffice(other) || office == other) {
            return NONE;
        }
        if (!book.isRunStretch(day, from, to) || book.tickets.isFull()) {
            return NONE;
        }
        int way = book.letterHours(office, other);
        return book.letters.add(other, day, from, to, book.now + way, book.now + 2 * way);
    }

    public int post(int letter, int what) {
        if (!book.letters.has(letter)) {
            return NONE;
        }
        switch (what) {
            case 0:
                return book.letters.comes[letter];
            case 1:
                return book.letters.answered[letter];
            case 2:
                return book.letters.standing(letter, book.now);
            case 3:
                return book.now < book.letters.answered[letter] ? UNKNOWN : book.letters.sold[letter];
            default:
                return NONE;
        }
    }

    public int hours(int n) {
        if (n < 1 || n > MOST_HOURS_A_CALL || book.now + n > LAST_HOUR) {
            return NONE;
        }
        for (int i = 0; i < n; i++) {
            book.beginNextHour();
        }
        return book.now;
    }

    public int moved(int day) {
        if (!book.runs.isTold(day) || book.hasLeft(day, 0)) {
            return NONE;
        }
        return book.layAnew(day);
    }

    public boolean wouldFit(int office, int day, int from, int to) {
        if (!isOffice(office) || !book.isRunStretch(day, from, to) || book.hasLeft(day, 0)) {
            return false;
        }
        return book.hasRoom(office, day, from, to);
    }

    public int ticket(int ticket, int what) {
        if (!book.tickets.has(ticket)) {
            return NONE;
        }
        switch (what) {
            case 0:
                return book.tickets.days[ticket];
            case 1:
                return book.tickets.berths[ticket];
            case 2:
                return book.tickets.froms[ticket];
            case 3:
                return book.tickets.tos[ticket];
            case 4:
                return book.tickets.offices[ticket];
            case 5:
                return book.tickets.given[ticket];
            default:
                return NONE;
        }
    }

    public int lies(int day, int berth, int stop) {
        if (!book.runs.hasBerth(day, berth) || !book.route.hasLeg(stop)) {
            return UNKNOWN;
        }
        return book.tickets.find(day, berth, stop);
    }

    public int told(int day, int what) {
        if (!book.runs.isTold(day)) {
            return NONE;
        }
        switch (what) {
            case 0:
                return book.runs.berths[day];
            case 1:
            case 4:
                return book.tickets.liveOf(day);
            case 2:
                return book.mostSold(day);
            case 3:
                return book.legsSold(day);
            case 5:
                return book.hasLeft(day, 0) ? 1 : 0;
            default:
                return ownerOrNone(day, what);
        }
    }

    public int feed(int a, int b, int c, int d, int e) {
        if (tape.size + FEED_BYTES > MOST_BYTES) {
            return NONE;
        }
        tape.append(a);
        tape.append(b);
        tape.append(c);
        tape.append(d);
        tape.append(e);
        return tape.size;
    }

    public int end(int n) {
        if (n < 0 || n > tape.size) {
            return NONE;
        }
        tape.size = n;
        return n;
    }

    public int contract() {
        reader.read(tape);
        tape.size = 0;
        if (reader.faultKind != NO_FAULT) {
            return NONE;
        }
        book.rates.copyFrom(reader.draft);
        return book.rates.lines;
    }

    public int fault(int what) {
        switch (what) {
            case 0:
                return reader.faultKind;
            case 1:
                return reader.faultPlace;
            default:
                return NONE;
        }
    }

    public long cost(int day, int stop) {
        if (!book.runs.isTold(day)) {
            return 0;
        }
        if (stop == NONE) {
            return book.priceOfRun(day);
        }
        return book.route.hasLeg(stop) ? book.priceOfLeg(day, stop) : 0;
    }

    public int cars(int days, int rest) {
        if (days < 0 || rest < 0 || rest > MOST_REST) {
            return NONE;
        }
        int away = 2 * (book.route.allHours() + rest);
        int most = 0;
        for (int day = 0; day < SET_DAYS; day++) {
            if (isInSet(days, day)) {
                most = Math.max(most, carsOut(days, day, away));
            }
        }
        return most;
    }

    public int count(int what) {
        switch (what) {
            case 0:
                return book.route.stops;
            case 1:
                return book.runs.size;
            case 2:
                return book.tickets.size;
            case 3:
                return book.letters.size;
            case 4:
                return book.now;
            case 5:
                return book.rates.lines;
            case 6:
                return book.route.allHours();
            case 7:
                return book.route.allKm();
            default:
                return NONE;
        }
    }

    public boolean image(int k) {
        if (k < 0 || k >= IMAGES) {
            return false;
        }
        // Made once and used again, as an object that was made is never given back.
        if (images[k] == null) {
            images[k] = new Book();
        }
        images[k].copyFrom(book);
        return true;
    }

    public boolean again(int k) {
        if (k < 0 || k >= IMAGES || images[k] == null) {
            return false;
        }
        book.copyFrom(images[k]);
        return true;
    }

    private static boolean isOffice(int office) {
        return office >= 0 && office < OFFICES;
    }

    private int ownerOrNone(int day, int what) {
        // Below 10 first: what - 10 of a very low number would wrap round.
        if (what < 10 || !book.runs.hasBerth(day, what - 10)) {
            return NONE;
        }
        return book.runs.owner(day, what - 10);
    }

    private static boolean isInSet(int days, int day) {
        return (days >> day & 1) == 1;
    }

    /** How many cars are not ready for another run as that of a day leaves, its own among them. */
    private static int carsOut(int days, int day, int away) {
        int out = 0;
        for (int earlier = 0; earlier <= day; earlier++) {
            if (isInSet(days, earlier) && DAY_HOURS * (day - earlier) < away) {
                out++;
            }
        }
        return out;
    }

    /** A bit for each leg between neighbours from one stop up to a later one. */
    private static int legsBetween(int from, int to) {
        return (1 << to) - (1 << from);
    }

    /** The stops, and the legs from each to the next one. */
    private static final class Route {
        int stops;
        final int[] legKm = new int[MOST_STOPS - 1];
        final int[] legHours = new int[MOST_STOPS - 1];

        Route() {
            lay(LEAST_STOPS);
        }

        void lay(int n) {
            stops = n;
            Arrays.fill(legKm, 1);
            Arrays.fill(legHours, 1);
        }

        boolean isStop(int stop) {
            return stop >= 0 && stop < stops;
        }

        boolean hasLeg(int stop) {
            return stop >= 0 && stop < stops - 1;
        }

        boolean isStretch(int from, int to) {
            return from >= 0 && from < to && to < stops;
        }

        int hoursTo(int stop) {
            int sum = 0;
            for (int leg = 0; leg < stop && leg < legHours.length; leg++) {
                sum += legHours[leg];
            }
            return sum;
        }

        int allHours() {
            return hoursTo(stops - 1);
        }

        int allKm() {
            int sum = 0;
            for (int leg = 0; leg < stops - 1; leg++) {
                sum += legKm[leg];
            }
            return sum;
        }

        void copyFrom(Route other) {
            stops = other.stops;
            System.arraycopy(other.legKm, 0, legKm, 0, legKm.length);
            System.arraycopy(other.legHours, 0, legHours, 0, legHours.length);
        }
    }

    /** The runs by their days: the berths of each, whose charts these are on, and which legs are sold. */
    private static final class Runs {
        int size;
        final int[] berths = new int[DAYS];
        final int[] owners = new int[DAYS * MOST_BERTHS];
        final int[] soldLegs = new int[DAYS * MOST_BERTHS];

        boolean isTold(int day) {
            return day >= 0 && day < DAYS && berths[day] > 0;
        }

        boolean hasBerth(int day, int berth) {
            return isTold(day) && berth >= 0 && berth < berths[day];
        }

        void add(int day, int howMany, int[] shares) {
            size++;
            berths[day] = howMany;
            System.arraycopy(shares, 0, owners, day * MOST_BERTHS, MOST_BERTHS);
        }

        int owner(int day, int berth) {
            return owners[day * MOST_BERTHS + berth];
        }

        int legsOf(int day, int berth) {
            return soldLegs[day * MOST_BERTHS + berth];
        }

        void setLegs(int day, int berth, int legs) {
            soldLegs[day * MOST_BERTHS + berth] = legs;
        }

        boolean isSold(int day, int berth, int stop) {
            return (legsOf(day, berth) >> stop & 1) == 1;
        }

        int soldOn(int day, int stop) {
            int sold = 0;
            for (int berth = 0; berth < berths[day]; berth++) {
                if (isSold(day, berth, stop)) {
                    sold++;
                }
            }
            return sold;
        }

        /** How long the free row of legs is that a free stretch lies in. */
        int gap(int day, int berth, int from, int to, int last) {
            int begin = from;
            while (begin > 0 && !isSold(day, berth, begin - 1)) {
                begin--;
            }
            int finish = to;
            while (finish < last && !isSold(day, berth, finish)) {
                finish++;
            }
            return finish - begin;
        }

        void copyFrom(Runs other) {
            size = other.size;
            System.arraycopy(other.berths, 0, berths, 0, berths.length);
            System.arraycopy(other.owners, 0, owners, 0, owners.length);
            System.arraycopy(other.soldLegs, 0, soldLegs, 0, soldLegs.length);
        }
    }

    /** All tickets that were ever sold, by their numbers. */
    private static final class Tickets {
        int size;
        final int[] days = new int[MOST_TICKETS];
        final int[] berths = new int[MOST_TICKETS];
        final int[] froms = new int[MOST_TICKETS];
        final int[] tos = new int[MOST_TICKETS];
        final int[] offices = new int[MOST_TICKETS];
        final int[] given = new int[MOST_TICKETS];

        boolean has(int number) {
            return number >= 0 && number < size;
        }

        boolean isFull() {
            return size >= MOST_TICKETS;
        }

        int add(int office, int day, int berth, int from, int to) {
            if (isFull()) {
                return NONE;
            }
            days[size] = day;
            berths[size] = berth;
            froms[size] = from;
            tos[size] = to;
            offices[size] = office;
            given[size] = 0;
            size++;
            return size - 1;
        }

        boolean isLive(int number, int day) {
            return given[number] == 0 && days[number] == day;
        }

        int legsOf(int number) {
            return legsBetween(froms[number], tos[number]);
        }

        int liveOf(int day) {
            int live = 0;
            for (int i = 0; i < size; i++) {
                if (isLive(i, day)) {
                    live++;
                }
            }
            return live;
        }

        int find(int day, int berth, int stop) {
            for (int i = 0; i < size; i++) {
                if (isLive(i, day) && berths[i] == berth && froms[i] <= stop && stop < tos[i]) {
                    return i;
                }
            }
            return NONE;
        }

        void copyFrom(Tickets other) {
            size = other.size;
            System.arraycopy(other.days, 0, days, 0, size);
            System.arraycopy(other.berths, 0, berths, 0, size);
            System.arraycopy(other.froms, 0, froms, 0, size);
            System.arraycopy(other.tos, 0, tos, 0, size);
            System.arraycopy(other.offices, 0, offices, 0, size);
            System.arraycopy(other.given, 0, given, 0, size);
        }
    }

    /** All letters that were ever sent, by their numbers; an office is the one that is asked. */
    private static final class Letters {
        int size;
        final int[] offices = new int[MOST_LETTERS];
        final int[] days = new int[MOST_LETTERS];
        final int[] froms = new int[MOST_LETTERS];
        final int[] tos = new int[MOST_LETTERS];
        final int[] comes = new int[MOST_LETTERS];
        final int[] answered = new int[MOST_LETTERS];
        final int[] sold = new int[MOST_LETTERS];

        boolean has(int number) {
            return number >= 0 && number < size;
        }

        int add(int office, int day, int from, int to, int comesAt, int answeredAt) {
            if (size >= MOST_LETTERS) {
                return NONE;
            }
            offices[size] = office;
            days[size] = day;
            froms[size] = from;
            tos[size] = to;
            comes[size] = comesAt;
            answered[size] = answeredAt;
            sold[size] = NONE;
            size++;
            return size - 1;
        }

        int standing(int number, int now) {
            if (now < comes[number]) {
                return 0;
            }
            return now < answered[number] ? 1 : 2;
        }

        void copyFrom(Letters other) {
            size = other.size;
            System.arraycopy(other.offices, 0, offices, 0, size);
            System.arraycopy(other.days, 0, days, 0, size);
            System.arraycopy(other.froms, 0, froms, 0, size);
            System.arraycopy(other.tos, 0, tos, 0, size);
            System.arraycopy(other.comes, 0, comes, 0, size);
            System.arraycopy(other.answered, 0, answered, 0, size);
            System.arraycopy(other.sold, 0, sold, 0, size);
        }
    }

    /** The lines of a contract; test t of line k is at k * MOST_TESTS + t. */
    private static final class Rates {
        int lines;
        final int[] charges = new int[MOST_LINES];
        final int[] amounts = new int[MOST_LINES];
        final int[] tests = new int[MOST_LINES];
        final int[] subjects = new int[MOST_LINES * MOST_TESTS];
        final int[] signs = new int[MOST_LINES * MOST_TESTS];
        final int[] bounds = new int[MOST_LINES * MOST_TESTS];
        final int[] negated = new int[MOST_LINES * MOST_TESTS];

        void clear() {
            lines = 0;
            Arrays.fill(tests, 0);
        }

        /** Another test of the line that is not added yet; one too many is a fault, and not kept. */
        void addTest(int subject, int sign, int bound, boolean not) {
            if (lines >= MOST_LINES || tests[lines] >= MOST_TESTS) {
                return;
            }
            int at = lines * MOST_TESTS + tests[lines];
            subjects[at] = subject;
            signs[at] = sign;
            bounds[at] = bound;
            negated[at] = not ? 1 : 0;
            tests[lines]++;
        }

        void addLine(int charge, int amount) {
            if (lines >= MOST_LINES) {
                return;
            }
            charges[lines] = charge;
            amounts[lines] = amount;
            lines++;
        }

        long priceOf(int[] facts) {
            long sum = 0;
            for (int i = 0; i < lines; i++) {
                if (allHold(i, facts)) {
                    sum += amounts[i] * timesCharged(charges[i], facts);
                }
            }
            return sum;
        }

        private boolean allHold(int number, int[] facts) {
            for (int i = 0; i < tests[number]; i++) {
                if (!holds(number * MOST_TESTS + i, facts)) {
                    return false;
                }
            }
            return true;
        }

        private boolean holds(int at, int[] facts) {
            boolean plain = compares(facts[subjects[at]], signs[at], bounds[at]);
            return plain != (negated[at] == 1);
        }

        private static boolean compares(int value, int sign, int bound) {
            if (sign == LESS) {
                return value < bound;
            }
            return sign == MORE ? value > bound : value == bound;
        }

        private static long timesCharged(int charge, int[] facts) {
            switch (charge) {
                case AXLE:
                    return (long) CAR_AXLES * facts[KM];
                case BERTH:
                    return facts[SOLD];
                case FREE:
                    return -1;
                default:
                    return 1;
            }
        }

        void copyFrom(Rates other) {
            lines = other.lines;
            System.arraycopy(other.charges, 0, charges, 0, charges.length);
            System.arraycopy(other.amounts, 0, amounts, 0, amounts.length);
            System.arraycopy(other.tests, 0, tests, 0, tests.length);
            System.arraycopy(other.subjects, 0, subjects, 0, subjects.length);
            System.arraycopy(other.signs, 0, signs, 0, signs.length);
            System.arraycopy(other.bounds, 0, bounds, 0, bounds.length);
            System.arraycopy(other.negated, 0, negated, 0, negated.length);
        }
    }

    /** All that an image holds. */
    private static final class Book {
        int now;
        final Route route = new Route();
        final Runs runs = new Runs();
        final Tickets tickets = new Tickets();
        final Letters letters = new Letters();
        final Rates rates = new Rates();
        final int[] officeStops = new int[OFFICES];
        final int[] shares = new int[MOST_BERTHS];
        private final int[] newLegs = new int[MOST_BERTHS];
        private final int[] facts = new int[FACTS];

        boolean isRunStretch(int day, int from, int to) {
            return runs.isTold(day) && route.isStretch(from, to);
        }

        boolean hasLeft(int day, int stop) {
            return now >= DAY_HOURS * day + route.hoursTo(stop);
        }

        private boolean isOnChart(int office, int day, int berth) {
            return now >= DAY_HOURS * day - SHARED_CHART_HOURS || runs.owner(day, berth) == office;
        }

        int sellStretch(int office, int day, int from, int to) {
            if (tickets.isFull() || hasLeft(day, from)) {
                return NONE;
            }
            int berth = tightestBerth(office, day, from, to);
            if (berth == NONE) {
                return NONE;
            }
            runs.setLegs(day, berth, runs.legsOf(day, berth) | legsBetween(from, to));
            return tickets.add(office, day, berth, from, to);
        }

        private int tightestBerth(int office, int day, int from, int to) {
            int best = NONE;
            int bestGap = MOST_STOPS;
            for (int berth = 0; berth < runs.berths[day]; berth++) {
                boolean isFree = (runs.legsOf(day, berth) & legsBetween(from, to)) == 0;
                if (isFree && isOnChart(office, day, berth)) {
                    int gap = runs.gap(day, berth, from, to, route.stops - 1);
                    if (gap < bestGap) {
                        best = berth;
                        bestGap = gap;
                    }
                }
            }
            return best;
        }

        boolean takeBack(int ticket) {
            int day = tickets.days[ticket];
            if (tickets.given[ticket] == 1 || hasLeft(day, tickets.froms[ticket])) {
                return false;
            }
            int berth = tickets.berths[ticket];
            tickets.given[ticket] = 1;
            runs.setLegs(day, berth, runs.legsOf(day, berth) & ~tickets.legsOf(ticket));
            return true;
        }

        int letterHours(int office, int other) {
            int between = route.hoursTo(officeStops[office]) - route.hoursTo(officeStops[other]);
            return 1 + Math.abs(between);
        }

        /** Nothing is to be done for answers: that they are there is seen from the hour. */
        void beginNextHour() {
            now++;
            for (int i = 0; i < letters.size; i++) {
                if (letters.comes[i] == now) {
                    letters.sold[i] = sellStretch(letters.offices[i], letters.days[i], letters.froms[i], letters.tos[i]);
                }
            }
        }

        /** One pass lays all offices' tickets: while charts are apart none takes a berth of another. */
        int layAnew(int day) {
            Arrays.fill(newLegs, 0);
            int changed = 0;
            for (int stop = 0; stop < route.stops - 1; stop++) {
                for (int i = 0; i < tickets.size; i++) {
                    if (tickets.froms[i] == stop && tickets.isLive(i, day) && layTicket(i, day)) {
                        changed++;
                    }
                }
            }
            for (int berth = 0; berth < runs.berths[day]; berth++) {
                runs.setLegs(day, berth, newLegs[berth]);
            }
            return changed;
        }

        /** Whether the ticket comes to lie in another berth than before. */
        private boolean layTicket(int ticket, int day) {
            int before = tickets.berths[ticket];
            int office = runs.owner(day, before);
            for (int berth = 0; berth < runs.berths[day]; berth++) {
                boolean isFree = (newLegs[berth] & tickets.legsOf(ticket)) == 0;
                if (isFree && isOnChart(office, day, berth)) {
                    newLegs[berth] |= tickets.legsOf(ticket);
                    tickets.berths[ticket] = berth;
                    return berth != before;
                }
            }
            return false;
        }

        /**
         * Laid by where they begin, tickets find berths just if nowhere more of them lie over one
         * another than the chart has berths; so it is enough to count.
         */
        boolean hasRoom(int office, int day, int from, int to) {
            for (int stop = from; stop < to; stop++) {
                if (!hasRoomOn(office, day, stop)) {
                    return false;
                }
            }
            return true;
        }

        private boolean hasRoomOn(int office, int day, int stop) {
            for (int berth = 0; berth < runs.berths[day]; berth++) {
                if (isOnChart(office, day, berth) && !runs.isSold(day, berth, stop)) {
                    return true;
                }
            }
            return false;
        }

        int mostSold(int day) {
            int most = 0;
            for (int stop = 0; stop < route.stops - 1; stop++) {
                most = Math.max(most, runs.soldOn(day, stop));
            }
            return most;
        }

        int legsSold(int day) {
            int sum = 0;
            for (int stop = 0; stop < route.stops - 1; stop++) {
                sum += runs.soldOn(day, stop);
            }
            return sum;
        }

        long priceOfRun(int day) {
            long sum = 0;
            for (int stop = 0; stop < route.stops - 1; stop++) {
                sum += priceOfLeg(day, stop);
            }
            return sum;
        }

        long priceOfLeg(int day, int stop) {
            // Runs leave at the first hour of a day, so the day itself does not change the hour of the day.
            int hour = route.hoursTo(stop) % DAY_HOURS;
            facts[STOP] = stop;
            facts[KM] = route.legKm[stop];
            facts[HOUR] = hour;
            facts[SOLD] = runs.soldOn(day, stop);
            facts[NIGHT] = hour >= NIGHT_BEGINS || hour < NIGHT_ENDS ? 1 : 0;
            return rates.priceOf(facts);
        }

        void copyFrom(Book other) {
            now = other.now;
            route.copyFrom(other.route);
            runs.copyFrom(other.runs);
            tickets.copyFrom(other.tickets);
            letters.copyFrom(other.letters);
            rates.copyFrom(other.rates);
            System.arraycopy(other.officeStops, 0, officeStops, 0, officeStops.length);
            System.arraycopy(other.shares, 0, shares, 0, shares.length);
        }
    }

    private static final class Tape {
        int size;
        final int[] bytes = new int[MOST_BYTES];

        /** The caller has seen that there is room. */
        void append(int number) {
            for (int shift = 24; shift >= 0 && size < MOST_BYTES; shift -= 8) {
                bytes[size] = number >> shift & 255;
                size++;
            }
        }
    }

    /** The tokens of a tape and its end; what is no token stands among them, and goes on no text. */
    private static final class Tokens {
        int size;
        final int[] kinds = new int[MOST_BYTES + 1];
        final int[] numbers = new int[MOST_BYTES + 1];
        final int[] places = new int[MOST_BYTES + 1];

        void split(Tape tape) {
            size = 0;
            int at = 0;
            while (at < tape.size) {
                at += Math.max(1, takeAt(tape, at));
            }
            add(TAPE_END, 0, tape.size);
        }

        int kindAt(int index) {
            return index >= 0 && index < size ? kinds[index] : TAPE_END;
        }

        int numberAt(int index) {
            return index >= 0 && index < size ? numbers[index] : 0;
        }

        int placeAt(int index) {
            return index >= 0 && index < size ? places[index] : NONE;
        }

        private void add(int kind, int number, int place) {
            if (size < kinds.length) {
                kinds[size] = kind;
                numbers[size] = number;
                places[size] = place;
                size++;
            }
        }

        /** Takes a blank, or the token that begins at a place: how many bytes it has. */
        private int takeAt(Tape tape, int at) {
            int first = tape.bytes[at];
            if (first == ' ' || first == '\n') {
                return 1;
            }
            if (isIn(first, 'a', 'z')) {
                int length = rowLength(tape, at, 'a', 'z');
                add(wordKind(tape, at, length), 0, at);
                return length;
            }
            if (isIn(first, '0', '9')) {
                int length = rowLength(tape, at, '0', '9');
                add(length > MOST_DIGITS ? NO_TOKEN : NUMBER, numberOf(tape, at, length), at);
                return length;
            }
            add(signKind(first), 0, at);
            return 1;
        }

        private static boolean isIn(int value, char least, char most) {
            return value >= least && value <= most;
        }

        private static int rowLength(Tape tape, int at, char least, char most) {
            int behind = at;
            while (behind < tape.size && isIn(tape.bytes[behind], least, most)) {
                behind++;
            }
            return behind - at;
        }

        private static int numberOf(Tape tape, int at, int length) {
            int number = 0;
            for (int i = at; i < at + length && i < at + MOST_DIGITS; i++) {
                number = 10 * number + tape.bytes[i] - '0';
            }
            return number;
        }

        private static int signKind(int sign) {
            switch (sign) {
                case ':':
                    return COLON;
                case ';':
                    return SEMICOLON;
                case '<':
                    return LESS;
                case '>':
                    return MORE;
                case '=':
                    return EQUAL;
                default:
                    return NO_TOKEN;
            }
        }

        private static int wordKind(Tape tape, int at, int length) {
            for (int kind = STOP; kind <= FREE; kind++) {
                if (spells(tape, at, length, wordOf(kind))) {
                    return kind;
                }
            }
            return OTHER_WORD;
        }

        private static String wordOf(int kind) {
            switch (kind) {
                case STOP:
                    return "stop";
                case KM:
                    return "km";
                case HOUR:
                    return "hour";
                case SOLD:
                    return "sold";
                case NIGHT:
                    return "night";
                case WHEN:
                    return "when";
                case AND:
                    return "and";
                case NOT:
                    return "not";
                case AXLE:
                    return "axle";
                case BERTH:
                    return "berth";
                case FLAT:
                    return "flat";
                default:
                    return "free";
            }
        }

        private static boolean spells(Tape tape, int at, int length, String word) {
            if (length != word.length()) {
                return false;
            }
            for (int i = 0; i < length; i++) {
                if (tape.bytes[at + i] != word.charAt(i)) {
                    return false;
                }
            }
            return true;
        }
    }

    /** Reads a tape as a contract's text into a draft; the draft counts only without a fault. */
    private static final class Reader {
        int faultKind = NO_FAULT;
        int faultPlace = NONE;
        final Rates draft = new Rates();
        private final Tokens tokens = new Tokens();
        private int at;
        private int surplusPlace;

        void read(Tape tape) {
            faultKind = NO_FAULT;
            faultPlace = NONE;
            surplusPlace = NONE;
            at = 0;
            draft.clear();
            tokens.split(tape);
            for (int lines = 0; lines < MOST_BYTES && isSound() && !isNext(TAPE_END); lines++) {
                readLine(lines >= MOST_LINES);
            }
            // A line too many counts only in a text that is one, so only its place was kept till here.
            if (isSound() && surplusPlace != NONE) {
                faultKind = TOO_MANY;
                faultPlace = surplusPlace;
            }
        }

        private void readLine(boolean isSurplus) {
            if (isSurplus) {
                noteSurplus();
            }
            if (isNext(WHEN)) {
                readTests();
                takeIf(isNext(COLON));
            }
            int charge = tokens.kindAt(at);
            takeIf(charge >= AXLE && charge <= FREE);
            int amount = tokens.numberAt(at);
            takeIf(isNext(NUMBER));
            takeIf(isNext(SEMICOLON));
            if (isSound()) {
                draft.addLine(charge, amount);
            }
        }

        private void readTests() {
            int tests = 0;
            do {
                at++;
                readTest(tests >= MOST_TESTS);
                tests++;
            } while (tests < MOST_BYTES && isSound() && isNext(AND));
        }

        private void readTest(boolean isSurplus) {
            if (isSurplus) {
                noteSurplus();
            }
            boolean not = isNext(NOT);
            if (not) {
                at++;
            }
            int subject = tokens.kindAt(at);
            takeIf(subject >= STOP && subject <= NIGHT);
            if (subject == NIGHT) {
                draft.addTest(NIGHT, EQUAL, 1, not);
                return;
            }
            int sign = tokens.kindAt(at);
            takeIf(sign >= LESS && sign <= EQUAL);
            int bound = tokens.numberAt(at);
            takeIf(isNext(NUMBER));
            if (isSound()) {
                draft.addTest(subject, sign, bound, not);
            }
        }

        private boolean isSound() {
            return faultKind == NO_FAULT;
        }

        private boolean isNext(int kind) {
            return tokens.kindAt(at) == kind;
        }

        /** Goes on behind the next token if it is a right one; behind a fault nothing is looked at. */
        private void takeIf(boolean isRight) {
            if (!isSound()) {
                return;
            }
            if (isRight) {
                at++;
                return;
            }
            faultKind = WRONG_TOKEN;
            faultPlace = tokens.placeAt(at);
        }

        private void noteSurplus() {
            if (surplusPlace == NONE) {
                surplusPlace = tokens.placeAt(at);
            }
        }
    }
}
