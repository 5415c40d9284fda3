/** By hand: for each promise ordinary inputs, the edges that the document names, and wrong inputs. */
public final class PromisesTest {
    private static final Due due = new Due("PromisesTest");
    private static final int NONE = SleepingCars.NONE;
    private static final int LOW = Integer.MIN_VALUE;
    private static final int HIGH = Integer.MAX_VALUE;

    public static void main(String[] args) {
        newObject();
        line();
        stretch();
        office();
        share();
        run();
        sell();
        sellsTheLeastGap();
        sellsByCharts();
        sellsInTime();
        sells300();
        back();
        letter();
        letterNeedsARoomyBook();
        post();
        postByNumbers();
        hours();
        moved();
        movedByCharts();
        wouldFit();
        wouldFitByCharts();
        ticket();
        lies();
        told();
        feed();
        end();
        contract();
        faultsOfTokens();
        faultsOfTooMany();
        cost();
        costByTests();
        cars();
        count();
        image();
        again();
        againWithAllRows();
        fullToTheBrim();
        due.close();
    }

    /** A line of n stops, each leg one km and one hour. */
    private static SleepingCars lineOf(int n) {
        SleepingCars x = new SleepingCars();
        due.yes("line", x.line(n));
        return x;
    }

    private static void go(SleepingCars x, int hour) {
        while (x.count(4) < hour) {
            x.hours(Math.min(100, hour - x.count(4)));
        }
        due.same("now", x.count(4), hour);
    }

    private static void newObject() {
        SleepingCars x = new SleepingCars();
        int[] counts = {2, 0, 0, 0, 0, 0, 1, 1};
        for (int what = 0; what < counts.length; what++) {
            due.same("new count " + what, x.count(what), counts[what]);
        }
        due.same("new fault", x.fault(0), 0);
        due.same("new place", x.fault(1), NONE);
        due.same("new tape", x.end(1), NONE);
        due.same("new tape", x.end(0), 0);
        for (int k = 0; k < 3; k++) {
            due.no("new image " + k, x.again(k));
        }
        due.yes("run", x.run(1, 1));
        due.same("new cost", x.cost(1, NONE), 0);
        due.same("NONE", SleepingCars.NONE, -1);
    }

    private static void line() {
        SleepingCars x = lineOf(10);
        due.same("stops", x.count(0), 10);
        due.yes("stretch", x.stretch(8, 500, 24));
        due.same("km", x.count(7), 508);
        due.same("hours", x.count(6), 32);
        due.no("line 11", x.line(11));
        due.no("line 1", x.line(1));
        due.no("line low", x.line(LOW));
        due.no("line high", x.line(HIGH));
        due.same("stops kept", x.count(0), 10);
        due.yes("the same n again", x.line(10));
        due.same("km anew", x.count(7), 9);
        due.same("hours anew", x.count(6), 9);
        due.yes("office", x.office(1, 9));
        due.yes("line 2", x.line(2));
        due.yes("run", x.run(1, 1));
        due.same("letter", x.letter(0, 1, 1, 0, 1), 0);
        due.same("offices are at stop 0", x.post(0, 0), 1);
        due.no("line with runs", x.line(3));
        due.same("stops with runs", x.count(0), 2);
    }

    private static void stretch() {
        SleepingCars x = lineOf(3);
        due.yes("stretch", x.stretch(0, 1, 1));
        due.yes("stretch", x.stretch(1, 500, 24));
        due.same("km", x.count(7), 501);
        due.same("hours", x.count(6), 25);
        due.no("no leg from the last", x.stretch(2, 1, 1));
        due.no("stop -1", x.stretch(-1, 1, 1));
        due.no("stop low", x.stretch(LOW, 1, 1));
        due.no("stop high", x.stretch(HIGH, 1, 1));
        due.no("km 0", x.stretch(0, 0, 1));
        due.no("km 501", x.stretch(0, 501, 1));
        due.no("hours 0", x.stretch(0, 1, 0));
        due.no("hours 25", x.stretch(0, 1, 25));
        due.same("km kept", x.count(7), 501);
        due.same("hours kept", x.count(6), 25);
        due.yes("run", x.run(1, 1));
        due.no("stretch with runs", x.stretch(0, 2, 2));
    }

    private static void office() {
        SleepingCars x = lineOf(3);
        due.yes("office", x.office(5, 2));
        due.yes("office", x.office(0, 1));
        due.yes("office back at stop 0", x.office(4, 2) && x.office(4, 0));
        due.no("office 6", x.office(6, 0));
        due.no("office -1", x.office(-1, 0));
        due.no("stop 3", x.office(0, 3));
        due.no("stop -1", x.office(0, -1));
        due.yes("run", x.run(1, 1));
        due.no("office with runs", x.office(0, 0));
        x.letter(0, 5, 1, 0, 1);
        due.same("from stop 1 to stop 2", x.post(0, 0), 2);
        x.letter(5, 1, 1, 0, 1);
        due.same("from stop 2 to stop 0", x.post(1, 0), 3);
    }

    private static void share() {
        SleepingCars x = lineOf(3);
        due.yes("run", x.run(1, 10));
        due.yes("share", x.share(9, 5));
        due.yes("share", x.share(0, 3));
        due.no("berth 10", x.share(10, 0));
        due.no("berth -1", x.share(-1, 0));
        due.no("office 6", x.share(0, 6));
        due.no("office -1", x.share(0, -1));
        due.yes("run", x.run(2, 10));
        due.same("told ahead", x.told(1, 10), 0);
        due.same("told ahead", x.told(1, 19), 0);
        due.same("told behind", x.told(2, 10), 3);
        due.same("told behind", x.told(2, 11), 0);
        due.same("told behind", x.told(2, 19), 5);
        due.yes("share again", x.share(0, 4));
        due.same("told is told", x.told(2, 10), 3);
        due.no("line with runs", x.line(3));
    }

    private static void run() {
        SleepingCars x = lineOf(3);
        due.no("day 0 has begun", x.run(0, 1));
        due.yes("day 1", x.run(1, 1));
        due.no("day 1 twice", x.run(1, 2));
        due.no("day 60", x.run(60, 1));
        due.no("day -1", x.run(-1, 1));
        due.no("day low", x.run(LOW, 1));
        due.no("day high", x.run(HIGH, 1));
        due.yes("day 59", x.run(59, 10));
        due.no("0 berths", x.run(2, 0));
        due.no("11 berths", x.run(2, 11));
        due.no("-1 berths", x.run(2, -1));
        due.same("runs", x.count(1), 2);
        due.same("berths", x.told(1, 0), 1);
        go(x, 47);
        due.yes("an hour ahead", x.run(2, 3));
        go(x, 72);
        due.no("its first hour", x.run(3, 3));
        due.yes("the next day", x.run(4, 3));
    }

    private static void sell() {
        SleepingCars x = lineOf(4);
        due.same("no run", x.sell(0, 1, 0, 1), NONE);
        x.run(1, 1);
        due.same("office -1", x.sell(-1, 1, 0, 1), NONE);
        due.same("office 6", x.sell(6, 1, 0, 1), NONE);
        due.same("day 2", x.sell(0, 2, 0, 1), NONE);
        due.same("day -1", x.sell(0, -1, 0, 1), NONE);
        due.same("day 60", x.sell(0, 60, 0, 1), NONE);
        due.same("from -1", x.sell(0, 1, -1, 1), NONE);
        due.same("to 4", x.sell(0, 1, 0, 4), NONE);
        due.same("to high", x.sell(0, 1, 0, HIGH), NONE);
        due.same("nothing", x.sell(0, 1, 1, 1), NONE);
        due.same("backwards", x.sell(0, 1, 2, 1), NONE);
        due.same("first", x.sell(0, 1, 1, 2), 0);
        due.same("over it", x.sell(0, 1, 0, 3), NONE);
        due.same("over its end", x.sell(0, 1, 0, 2), NONE);
        due.same("over its beginning", x.sell(0, 1, 1, 3), NONE);
        due.same("the same", x.sell(0, 1, 1, 2), NONE);
        due.same("ends where it begins", x.sell(0, 1, 0, 1), 1);
        due.same("begins where it ends", x.sell(0, 1, 2, 3), 2);
        due.same("tickets", x.count(2), 3);
    }

    private static void sellsTheLeastGap() {
        SleepingCars x = lineOf(7);
        x.run(1, 4);
        due.same("t", x.sell(0, 1, 0, 2), 0);
        due.same("all gaps are 6", x.ticket(0, 1), 0);
        due.same("t", x.sell(0, 1, 4, 6), 1);
        due.same("gap 4 of berth 0", x.ticket(1, 1), 0);
        due.same("t", x.sell(0, 1, 3, 5), 2);
        due.same("berth 0 is not free", x.ticket(2, 1), 1);
        due.same("t", x.sell(0, 1, 2, 3), 3);
        due.same("gap 2 of berth 0, gap 3 of berth 1", x.ticket(3, 1), 0);
        due.same("t", x.sell(0, 1, 5, 6), 4);
        due.same("gap 1 of berth 1", x.ticket(4, 1), 1);
        due.same("t", x.sell(0, 1, 3, 6), 5);
        due.same("only 2 and 3 are free", x.ticket(5, 1), 2);
        due.same("t", x.sell(0, 1, 0, 3), 6);
        due.same("gap 3 of berths 1 and 2", x.ticket(6, 1), 1);
    }

    private static void sellsByCharts() {
        SleepingCars x = lineOf(3);
        x.share(1, 2);
        x.run(1, 2);
        x.run(2, 2);
        due.same("office 2", x.sell(2, 1, 0, 2), 0);
        due.same("its berth", x.ticket(0, 1), 1);
        due.same("who sold it", x.ticket(0, 4), 2);
        due.same("office 2 has no other", x.sell(2, 1, 0, 1), NONE);
        due.same("office 1 has none", x.sell(1, 1, 0, 1), NONE);
        go(x, 11);
        due.same("13 hours ahead", x.sell(2, 1, 0, 1), NONE);
        go(x, 12);
        due.same("12 hours ahead", x.sell(2, 1, 0, 1), 1);
        due.same("a berth of all charts", x.ticket(1, 1), 0);
        due.same("who sold it", x.ticket(1, 4), 2);
        due.same("any office", x.sell(1, 1, 1, 2), 2);
        due.same("the next run is not so near", x.sell(1, 2, 1, 2), NONE);
        due.same("told stays", x.told(1, 10), 0);
    }

    private static void sellsInTime() {
        SleepingCars x = lineOf(3);
        x.stretch(0, 1, 5);
        x.stretch(1, 1, 7);
        x.run(1, 9);
        go(x, 23);
        due.same("an hour ahead", x.sell(0, 1, 0, 2), 0);
        go(x, 24);
        due.same("as it leaves", x.sell(0, 1, 0, 2), NONE);
        due.same("farther on", x.sell(0, 1, 1, 2), 1);
        go(x, 28);
        due.same("farther on", x.sell(3, 1, 1, 2), 2);
        go(x, 29);
        due.same("as it leaves there", x.sell(0, 1, 1, 2), NONE);
    }

    private static void sells300() {
        SleepingCars x = lineOf(10);
        for (int day = 1; day <= 4; day++) {
            x.run(day, 10);
        }
        int sold = 0;
        for (int day = 1; day <= 4; day++) {
            for (int berth = 0; berth < 10; berth++) {
                for (int stop = 0; stop < 9 && sold < 300; stop++) {
                    due.same("t", x.sell(0, day, stop, stop + 1), sold);
                    sold++;
                }
            }
        }
        due.same("300", x.count(2), 300);
        due.same("the 301st", x.sell(0, 4, 8, 9), NONE);
        due.yes("back", x.back(299));
        due.same("also with one given back", x.sell(0, 4, 8, 9), NONE);
        due.same("300", x.count(2), 300);
        due.same("no letter", x.letter(0, 1, 4, 8, 9), NONE);
        due.yes("it would fit", x.wouldFit(0, 4, 8, 9));
        due.same("the last", x.ticket(299, 5), 1);
        due.same("none behind it", x.ticket(300, 0), NONE);
    }

    private static void back() {
        SleepingCars x = lineOf(3);
        x.stretch(0, 1, 5);
        x.run(1, 1);
        due.no("none such", x.back(0));
        x.sell(0, 1, 0, 1);
        x.sell(0, 1, 1, 2);
        due.no("-1", x.back(-1));
        due.no("2", x.back(2));
        due.no("low", x.back(LOW));
        due.yes("back", x.back(0));
        due.no("twice", x.back(0));
        due.same("it is kept", x.count(2), 2);
        due.same("given back", x.ticket(0, 5), 1);
        due.same("not given back", x.ticket(1, 5), 0);
        due.same("free", x.lies(1, 0, 0), NONE);
        due.same("not free", x.lies(1, 0, 1), 1);
        due.same("sold again", x.sell(0, 1, 0, 1), 2);
        due.same("the other lies there", x.lies(1, 0, 0), 2);
        go(x, 23);
        due.yes("an hour ahead", x.back(2));
        due.same("t", x.sell(0, 1, 0, 1), 3);
        go(x, 24);
        due.no("as it leaves", x.back(3));
        go(x, 28);
        due.yes("farther on", x.back(1));
        due.same("t", x.sell(0, 1, 1, 2), 4);
        go(x, 29);
        due.no("as it leaves there", x.back(4));
        due.same("lies", x.lies(1, 0, 1), 4);
    }

    private static void letter() {
        SleepingCars x = lineOf(3);
        due.same("no run", x.letter(0, 1, 1, 0, 1), NONE);
        x.run(1, 1);
        due.same("office -1", x.letter(-1, 1, 1, 0, 1), NONE);
        due.same("office 6", x.letter(6, 1, 1, 0, 1), NONE);
        due.same("other -1", x.letter(0, -1, 1, 0, 1), NONE);
        due.same("other 6", x.letter(0, 6, 1, 0, 1), NONE);
        due.same("to itself", x.letter(1, 1, 1, 0, 1), NONE);
        due.same("day 2", x.letter(0, 1, 2, 0, 1), NONE);
        due.same("from -1", x.letter(0, 1, 1, -1, 1), NONE);
        due.same("to 3", x.letter(0, 1, 1, 0, 3), NONE);
        due.same("nothing", x.letter(0, 1, 1, 1, 1), NONE);
        due.same("letters", x.count(3), 0);
        due.same("also with no berth of its chart", x.letter(0, 1, 1, 0, 2), 0);
        go(x, 99);
        due.same("also too late", x.letter(0, 1, 1, 0, 2), 1);
        for (int i = 2; i < 100; i++) {
            due.same("letter", x.letter(5, 0, 1, 0, 2), i);
        }
        due.same("letters", x.count(3), 100);
        due.same("the 101st", x.letter(5, 0, 1, 0, 2), NONE);
        due.same("letters", x.count(3), 100);
        go(x, 101);
        due.same("too late", x.post(99, 3), NONE);
        due.same("no ticket", x.count(2), 0);
    }

    /** A letter is on its way as the 300th ticket is sold. */
    private static void letterNeedsARoomyBook() {
        SleepingCars x = lineOf(10);
        for (int day = 1; day <= 4; day++) {
            x.run(day, 10);
        }
        for (int i = 0; i < 299; i++) {
            x.sell(0, 1 + i / 90, i % 9, i % 9 + 1);
        }
        due.same("sent", x.letter(1, 0, 4, 0, 9), 0);
        due.same("sent", x.letter(1, 0, 4, 0, 9), 1);
        x.hours(2);
        due.same("the 300th", x.post(0, 3), 299);
        due.same("no 301st", x.post(1, 3), NONE);
    }

    private static void post() {
        SleepingCars x = lineOf(4);
        x.stretch(0, 1, 2);
        x.stretch(1, 1, 3);
        x.stretch(2, 1, 4);
        x.office(1, 3);
        x.office(2, 1);
        x.share(0, 1);
        x.run(3, 2);
        go(x, 5);
        due.same("letter", x.letter(2, 1, 3, 1, 2), 0);
        due.same("comes: 1 + 3 + 4 hours", x.post(0, 0), 13);
        due.same("answer", x.post(0, 1), 21);
        go(x, 12);
        due.same("under way", x.post(0, 2), 0);
        due.same("not yet", x.post(0, 3), -2);
        due.same("not yet", x.count(2), 0);
        go(x, 13);
        due.same("dealt with", x.post(0, 2), 1);
        due.same("sold", x.count(2), 1);
        due.same("not yet", x.post(0, 3), -2);
        due.same("by the other one", x.ticket(0, 4), 1);
        due.same("on its chart", x.ticket(0, 1), 0);
        due.same("stretch", x.ticket(0, 2) * 10 + x.ticket(0, 3), 12);
        go(x, 20);
        due.same("dealt with", x.post(0, 2), 1);
        due.same("not yet", x.post(0, 3), -2);
        go(x, 21);
        due.same("answer is there", x.post(0, 2), 2);
        due.same("the ticket", x.post(0, 3), 0);
        due.same("what 4", x.post(0, 4), NONE);
        due.same("what -1", x.post(0, -1), NONE);
        due.same("letter 1", x.post(1, 0), NONE);
        due.same("letter -1", x.post(-1, 0), NONE);
        due.same("letter back", x.letter(1, 2, 3, 1, 2), 1);
        due.same("as far back", x.post(1, 0), 29);
        go(x, 37);
        due.same("office 2 has no berth", x.post(1, 3), NONE);
        due.same("but an answer", x.post(1, 2), 2);
    }

    /** Letters that come in one hour are dealt with by numbers, whenever they were sent. */
    private static void postByNumbers() {
        SleepingCars x = lineOf(3);
        x.office(1, 2);
        x.run(2, 1);
        due.same("from afar", x.letter(1, 0, 2, 0, 1), 0);
        x.hours(2);
        due.same("from near", x.letter(2, 0, 2, 0, 2), 1);
        due.same("the same hour", x.post(0, 0), x.post(1, 0));
        x.hours(1);
        due.same("one of them", x.count(2), 1);
        due.same("the first one", x.ticket(0, 3), 1);
        due.same("under way", x.post(1, 2), 1);
        x.hours(10);
        due.same("the first", x.post(0, 3), 0);
        due.same("the second", x.post(1, 3), NONE);
        due.same("all charts from hour 36 on", x.letter(0, 3, 2, 1, 2), 2);
        x.hours(2);
        due.same("not on its chart", x.post(2, 3), NONE);
        go(x, 35);
        due.same("comes at hour 36", x.letter(0, 3, 2, 1, 2), 3);
        x.hours(2);
        due.same("all charts", x.post(3, 3), 1);
        due.yes("back", x.back(1));
        go(x, 47);
        due.same("comes as it leaves", x.letter(0, 3, 2, 0, 2), 4);
        due.yes("back", x.back(0));
        due.same("comes ahead of that", x.letter(0, 3, 2, 1, 2), 5);
        x.hours(2);
        due.same("too late", x.post(4, 3), NONE);
        due.same("in time", x.post(5, 3), 2);
    }

    private static void hours() {
        SleepingCars x = new SleepingCars();
        due.same("0", x.hours(0), NONE);
        due.same("-1", x.hours(-1), NONE);
        due.same("101", x.hours(101), NONE);
        due.same("low", x.hours(LOW), NONE);
        due.same("high", x.hours(HIGH), NONE);
        due.same("1", x.hours(1), 1);
        for (int i = 1; i < 20; i++) {
            due.same("100", x.hours(100), 100 * i + 1);
        }
        due.same("above 2000", x.hours(100), NONE);
        due.same("now", x.count(4), 1901);
        due.same("2000", x.hours(99), 2000);
        due.same("2001", x.hours(1), NONE);
        due.same("now", x.count(4), 2000);
    }

    private static void moved() {
        SleepingCars x = lineOf(6);
        due.same("no run", x.moved(1), NONE);
        due.same("day -1", x.moved(-1), NONE);
        due.same("day 60", x.moved(60), NONE);
        x.run(1, 3);
        due.same("nothing lies there", x.moved(1), 0);
        x.sell(0, 1, 0, 2);
        x.sell(0, 1, 1, 3);
        x.sell(0, 1, 2, 5);
        x.sell(0, 1, 3, 5);
        x.sell(0, 1, 0, 1);
        int[] berths = {0, 1, 0, 1, 1};
        for (int i = 0; i < berths.length; i++) {
            due.same("berth of " + i, x.ticket(i, 1), berths[i]);
        }
        due.same("as they lie", x.moved(1), 0);
        x.back(0);
        x.sell(0, 1, 4, 5);
        due.same("t 5", x.ticket(5, 1), 2);
        due.same("all but 5", x.moved(1), 4);
        // by beginnings: 4 [0,1) to 0, 1 [1,3) to 0, 2 [2,5) to 1, 3 [3,5) to 0, 5 [4,5) to 2
        int[] behind = {0, 0, 1, 0, 0, 2};
        for (int i = 0; i < behind.length; i++) {
            due.same("berth then of " + i, x.ticket(i, 1), behind[i]);
        }
        due.same("who lies there", x.lies(1, 1, 2), 2);
        due.same("nobody", x.lies(1, 1, 1), NONE);
        due.same("once more", x.moved(1), 0);
        due.same("what is free is sold", x.sell(0, 1, 0, 2), 6);
        due.same("there", x.ticket(6, 1), 1);
        go(x, 23);
        due.same("an hour ahead", x.moved(1), 0);
        go(x, 24);
        due.same("it has left", x.moved(1), NONE);
    }

    private static void movedByCharts() {
        SleepingCars x = lineOf(4);
        x.share(1, 2);
        x.share(3, 2);
        x.run(2, 4);
        // Office 2 has berths 1 and 3, office 0 has 0 and 2.
        x.sell(2, 2, 0, 3);
        x.sell(2, 2, 1, 2);
        x.sell(0, 2, 0, 3);
        x.sell(0, 2, 2, 3);
        due.same("t 1", x.ticket(1, 1), 3);
        due.same("t 3", x.ticket(3, 1), 2);
        x.back(0);
        x.back(2);
        due.same("each within its chart", x.moved(2), 2);
        due.same("t 1", x.ticket(1, 1), 1);
        due.same("t 3", x.ticket(3, 1), 0);
        go(x, 36);
        due.same("all berths are on all charts", x.moved(2), 1);
        due.same("t 1", x.ticket(1, 1), 0);
        due.same("t 3", x.ticket(3, 1), 0);
        due.same("who sold it", x.ticket(1, 4), 2);
    }

    private static void wouldFit() {
        SleepingCars x = lineOf(4);
        due.no("no run", x.wouldFit(0, 1, 0, 1));
        x.run(1, 2);
        due.yes("free as it is", x.wouldFit(0, 1, 0, 3));
        due.no("office -1", x.wouldFit(-1, 1, 0, 1));
        due.no("office 6", x.wouldFit(6, 1, 0, 1));
        due.no("day 2", x.wouldFit(0, 2, 0, 1));
        due.no("day -1", x.wouldFit(0, -1, 0, 1));
        due.no("from -1", x.wouldFit(0, 1, -1, 1));
        due.no("to 4", x.wouldFit(0, 1, 0, 4));
        due.no("nothing", x.wouldFit(0, 1, 2, 2));
        due.no("backwards", x.wouldFit(0, 1, 2, 1));
        x.sell(0, 1, 0, 2);
        x.sell(0, 1, 0, 1);
        x.sell(0, 1, 2, 3);
        x.back(0);
        due.same("t 1", x.ticket(1, 1), 1);
        due.same("t 2", x.ticket(2, 1), 0);
        due.same("no berth is free", x.sell(0, 1, 0, 3), NONE);
        due.yes("with 1 and 2 in one berth", x.wouldFit(0, 1, 0, 3));
        due.same("nothing was moved", x.ticket(1, 1), 1);
        due.same("nothing was sold", x.count(2), 3);
        due.same("moved", x.moved(1), 1);
        due.same("now it can be", x.sell(0, 1, 0, 3), 3);
        due.no("three over one another", x.wouldFit(0, 1, 0, 2));
        due.yes("two over one another", x.wouldFit(0, 1, 1, 2));
        go(x, 23);
        due.yes("an hour ahead", x.wouldFit(0, 1, 1, 2));
        go(x, 24);
        due.no("it has left", x.wouldFit(0, 1, 1, 2));
        due.same("though it can be sold", x.sell(0, 1, 1, 2), 4);
    }

    private static void wouldFitByCharts() {
        SleepingCars x = lineOf(3);
        x.share(1, 2);
        x.run(1, 2);
        due.yes("office 2", x.wouldFit(2, 1, 0, 2));
        due.no("office 1 has no berth", x.wouldFit(1, 1, 0, 2));
        x.sell(2, 1, 0, 1);
        due.no("its berth is sold there", x.wouldFit(2, 1, 0, 2));
        due.yes("behind it", x.wouldFit(2, 1, 1, 2));
        go(x, 11);
        due.no("13 hours ahead", x.wouldFit(1, 1, 0, 2));
        go(x, 12);
        due.yes("12 hours ahead", x.wouldFit(1, 1, 0, 2));
        due.yes("12 hours ahead", x.wouldFit(2, 1, 0, 2));
    }

    private static void ticket() {
        SleepingCars x = lineOf(5);
        due.same("none such", x.ticket(0, 0), NONE);
        x.share(0, 1);
        x.share(1, 3);
        x.run(7, 2);
        due.same("t", x.sell(3, 7, 2, 4), 0);
        int[] row = {7, 1, 2, 4, 3, 0};
        for (int what = 0; what < row.length; what++) {
            due.same("what " + what, x.ticket(0, what), row[what]);
        }
        due.same("what 6", x.ticket(0, 6), NONE);
        due.same("what -1", x.ticket(0, -1), NONE);
        due.same("ticket 1", x.ticket(1, 0), NONE);
        due.same("ticket -1", x.ticket(-1, 0), NONE);
        x.back(0);
        due.same("given back", x.ticket(0, 5), 1);
        due.same("its berth", x.ticket(0, 1), 1);
    }

    private static void lies() {
        SleepingCars x = lineOf(4);
        due.same("no run", x.lies(1, 0, 0), -2);
        x.run(1, 2);
        x.sell(0, 1, 1, 3);
        due.same("ahead", x.lies(1, 0, 0), NONE);
        due.same("first leg", x.lies(1, 0, 1), 0);
        due.same("last leg", x.lies(1, 0, 2), 0);
        due.same("another berth", x.lies(1, 1, 1), NONE);
        due.same("the last stop", x.lies(1, 0, 3), -2);
        due.same("stop -1", x.lies(1, 0, -1), -2);
        due.same("berth 2", x.lies(1, 2, 0), -2);
        due.same("berth -1", x.lies(1, -1, 0), -2);
        due.same("day 2", x.lies(2, 0, 0), -2);
        due.same("day -1", x.lies(-1, 0, 0), -2);
        due.same("day 60", x.lies(60, 0, 0), -2);
        go(x, 100);
        due.same("also when it has left", x.lies(1, 0, 1), 0);
    }

    private static void told() {
        SleepingCars x = lineOf(5);
        due.same("no run", x.told(1, 0), NONE);
        x.share(2, 4);
        x.run(1, 3);
        due.same("no tickets", x.told(1, 1), 0);
        x.sell(0, 1, 0, 1);
        due.same("ticket 0", x.told(1, 1), 1);
        x.back(0);
        due.same("nothing sold", x.told(1, 2), 0);
        due.same("nothing sold", x.told(1, 3), 0);
        due.same("no linen", x.told(1, 4), 0);
        x.run(2, 10);
        x.sell(0, 1, 0, 2);
        x.sell(0, 1, 1, 4);
        x.sell(4, 1, 1, 2);
        x.sell(0, 1, 2, 3);
        x.back(1);
        x.sell(0, 2, 0, 4);
        int[] row = {3, 3, 2, 5, 3, 0};
        for (int what = 0; what < row.length; what++) {
            due.same("what " + what, x.told(1, what), row[what]);
        }
        x.run(3, 2);
        x.sell(0, 3, 0, 1);
        due.same("most on the first leg", x.told(3, 2), 1);
        due.same("most of the other run", x.told(2, 2), 1);
        due.same("legs of the other run", x.told(2, 3), 4);
        due.same("what 6", x.told(1, 6), NONE);
        due.same("what 9", x.told(1, 9), NONE);
        due.same("what -1", x.told(1, -1), NONE);
        due.same("what low", x.told(1, LOW), NONE);
        due.same("what high", x.told(1, HIGH), NONE);
        due.same("office of berth 0", x.told(1, 10), 0);
        due.same("office of berth 2", x.told(1, 12), 4);
        due.same("no berth 3", x.told(1, 13), NONE);
        due.same("office of berth 9", x.told(2, 19), 0);
        due.same("what 20", x.told(2, 20), NONE);
        due.same("day 4", x.told(4, 0), NONE);
        due.same("day -1", x.told(-1, 0), NONE);
        due.same("day 60", x.told(60, 0), NONE);
        go(x, 23);
        due.same("not left", x.told(1, 5), 0);
        go(x, 24);
        due.same("left", x.told(1, 5), 1);
        due.same("not left", x.told(2, 5), 0);
    }

    private static void feed() {
        SleepingCars x = new SleepingCars();
        for (int i = 1; i <= 20; i++) {
            due.same("feed", x.feed(0x666c6174, 0x20202037, 0x3b202020, 0x20202020, 0x20202020), 20 * i);
        }
        due.same("401", x.feed(0, 0, 0, 0, 0), NONE);
        due.same("400", x.end(400), 400);
        due.same("381", x.end(381), 381);
        due.same("would be 401", x.feed(0, 0, 0, 0, 0), NONE);
        due.same("380", x.end(380), 380);
        due.same("400", x.feed(-1, -2, -3, -4, -5), 400);
        due.same("20", x.end(20), 20);
        due.same("highest byte first", x.contract(), 1);
        x.feed(0x666c6174, 0x80000037, 0, 0, 0);
        due.same("a high byte", x.contract(), NONE);
        due.same("a high byte", x.fault(1), 4);
    }

    private static void end() {
        SleepingCars x = new SleepingCars();
        due.same("0 of 0", x.end(0), 0);
        due.same("1 of 0", x.end(1), NONE);
        x.feed(0x20202020, 0x20202020, 0x20202020, 0x20202020, 0x20202020);
        due.same("-1", x.end(-1), NONE);
        due.same("low", x.end(LOW), NONE);
        due.same("21", x.end(21), NONE);
        due.same("20", x.end(20), 20);
        due.same("7", x.end(7), 7);
        due.same("8", x.end(8), NONE);
        due.same("27", x.feed(0, 0, 0, 0, 0), 27);
        due.same("0", x.end(0), 0);
    }

    private static void contract() {
        SleepingCars x = new SleepingCars();
        due.same("an empty one", x.contract(), 0);
        due.same("lines", x.count(5), 0);
        due.same("one", Due.contract(x, "flat 12;"), 1);
        due.same("the tape is empty", x.end(1), NONE);
        due.same("lines", x.count(5), 1);
        x.run(1, 1);
        due.same("12", x.cost(1, 0), 12);
        due.same("a fault", Due.contract(x, "flat 13;flat"), NONE);
        due.same("the tape is empty", x.end(1), NONE);
        due.same("the other one stays", x.count(5), 1);
        due.same("the other one stays", x.cost(1, 0), 12);
        due.same("blanks", Due.contract(x, "\nflat\n 1 ;\n\n free 0002;berth3;axle4;   "), 4);
        due.same("1 - 2 + 16", x.cost(1, 0), 15);
        due.same("blanks alone", Due.contract(x, " \n "), 0);
        due.same("nothing costs", x.cost(1, 0), 0);
        due.same("all words", Due.contract(x,
            "when stop<1 and km>2 and hour=3 and not sold<4:axle 1;when not night:berth 9999;"), 2);
        due.same("tests of one before do not count", Due.contract(x, "when km>500:flat 8;") + Due.contract(x, "flat 8;"), 2);
        due.same("tests of one before do not count", x.cost(1, 0), 8);
        due.same("without blanks", Due.contract(x, "when night:flat1;flat2;when km<0:free0;"), 3);
        due.same("16 lines", Due.contract(x, "flat 1;".repeat(16)), 16);
        due.same("4 tests", Due.contract(x, "when " + "night and ".repeat(3) + "night:free 1;"), 1);
    }

    private static void faultAt(String text, int fault, int place) {
        SleepingCars x = new SleepingCars();
        due.same("contract " + text, Due.contract(x, text), fault == 0 ? x.count(5) : NONE);
        due.same("fault of " + text, x.fault(0), fault);
        due.same("place of " + text, x.fault(1), place);
        due.same("what 2 of " + text, x.fault(2), NONE);
        due.same("what -1 of " + text, x.fault(-1), NONE);
    }

    private static void faultsOfTokens() {
        faultAt("", 0, NONE);
        faultAt("flat 1;", 0, NONE);
        faultAt("axle", 1, 4);
        faultAt("axle  ", 1, 6);
        faultAt("toll 1;", 1, 0);
        faultAt("  flats 1;", 1, 2);
        faultAt("fla t 1;", 1, 0);
        faultAt("Flat 1;", 1, 0);
        faultAt("flat\t1;", 1, 4);
        faultAt("flat 1\r;", 1, 6);
        faultAt("flat 1; \u0000", 1, 8);
        faultAt("flat 1; &", 1, 8);
        faultAt("flat 12345;", 1, 5);
        faultAt("flat 00001;", 1, 5);
        faultAt("flat 1234;", 0, NONE);
        faultAt("flat 12 34;", 1, 8);
        faultAt("flat ;", 1, 5);
        faultAt("flat 1:", 1, 6);
        faultAt("flat 1", 1, 6);
        faultAt("flat 1;;", 1, 7);
        faultAt("1 flat;", 1, 0);
        faultAt("when", 1, 4);
        faultAt("when:flat 1;", 1, 4);
        faultAt("when night flat 1;", 1, 11);
        faultAt("when night", 1, 10);
        faultAt("when night:", 1, 11);
        faultAt("when night:when night:flat 1;", 1, 11);
        faultAt("when night and:flat 1;", 1, 14);
        faultAt("when night and and night:flat 1;", 1, 15);
        faultAt("when and night:flat 1;", 1, 5);
        faultAt("when km:flat 1;", 1, 7);
        faultAt("when km<:flat 1;", 1, 8);
        faultAt("when km<<1:flat 1;", 1, 8);
        faultAt("when km<=1:flat 1;", 1, 8);
        faultAt("when km 1:flat 1;", 1, 8);
        faultAt("when km<a:flat 1;", 1, 8);
        faultAt("when km<12345:flat 1;", 1, 8);
        faultAt("when not not night:flat 1;", 1, 9);
        faultAt("when not:flat 1;", 1, 8);
        faultAt("when night<1:flat 1;", 1, 10);
        faultAt("when flat 1;", 1, 5);
        faultAt("not night:flat 1;", 1, 0);
        faultAt("night:flat 1;", 1, 0);
        faultAt("toll 1; #", 1, 0);
        faultAt("when km;1:flat 1;", 1, 7);
        faultAt("when km a 1:flat 1;", 1, 8);
        faultAt("flat 1<", 1, 6);
        faultAt("blat 1;", 1, 0);
        faultAt("flax 1;", 1, 0);
        faultAt("x", 1, 0);
        faultAt("\u00ff", 1, 0);
        SleepingCars x = new SleepingCars();
        Due.contract(x, "x");
        due.same("it stays", x.fault(0), 1);
        Due.contract(x, "flat 1;");
        due.same("it goes", x.fault(0), 0);
        due.same("it goes", x.fault(1), NONE);
    }

    private static void faultsOfTooMany() {
        faultAt("flat 1;".repeat(17), 3, 112);
        faultAt("flat 1;".repeat(19), 3, 112);
        faultAt("flat 1;".repeat(16) + " \nwhen night:flat 1;", 3, 114);
        faultAt("flat 1;".repeat(17) + "flat", 1, 123);
        faultAt("flat 1;".repeat(17) + "#", 1, 119);
        faultAt("when night" + " and night".repeat(4) + ":flat 1;", 3, 45);
        faultAt("when night" + " and night".repeat(3) + " and not km<1:flat 1;", 3, 45);
        faultAt("when night" + " and night".repeat(6) + ":flat 1;", 3, 45);
        faultAt("when night" + " and night".repeat(4) + ":flat 1", 1, 57);
        faultAt("flat 1;".repeat(16) + "when night" + " and night".repeat(4) + ":flat 1;", 3, 112);
        faultAt("when night" + " and night".repeat(4) + ":flat 1;" + "flat 1;".repeat(17), 3, 45);
        faultAt("when night:flat 1;when night" + " and night".repeat(4) + ":flat 1;", 3, 63);
        faultAt("flat1;".repeat(66), 3, 96);
    }

    private static void cost() {
        SleepingCars x = lineOf(4);
        x.stretch(0, 100, 10);
        x.stretch(1, 200, 14);
        x.stretch(2, 500, 1);
        due.same("no run", x.cost(1, 0), 0);
        x.run(1, 3);
        x.sell(0, 1, 0, 2);
        x.sell(0, 1, 1, 2);
        x.back(x.sell(0, 1, 0, 3));
        due.same("contract", Due.contract(x, "axle 3;berth 7;flat 11;free 2;"), 4);
        due.same("leg 0", x.cost(1, 0), 1200 + 7 + 9);
        due.same("leg 1", x.cost(1, 1), 2400 + 14 + 9);
        due.same("leg 2", x.cost(1, 2), 6000 + 9);
        due.same("all", x.cost(1, NONE), 9600 + 21 + 27);
        due.same("last stop", x.cost(1, 3), 0);
        due.same("stop -2", x.cost(1, -2), 0);
        due.same("stop low", x.cost(1, LOW), 0);
        due.same("day 2", x.cost(2, NONE), 0);
        due.same("day -1", x.cost(-1, NONE), 0);
        due.same("day 60", x.cost(60, 0), 0);
        due.same("contract", Due.contract(x, "free 9999;"), 1);
        due.same("less than nothing", x.cost(1, 0), -9999);
        due.same("less than nothing", x.cost(1, NONE), -29997);
        x = lineOf(10);
        for (int stop = 0; stop < 9; stop++) {
            x.stretch(stop, 500, 24);
        }
        x.run(59, 1);
        due.same("contract", Due.contract(x, "axle 9999;".repeat(16)), 16);
        due.same("above an int", x.cost(59, NONE), 16L * 9 * 9999 * 2000);
    }

    /** Legs begin at hours 0, 5, 6, 21, 22, 23 and (a day on) 0. */
    private static SleepingCars nightLine() {
        SleepingCars x = lineOf(8);
        int[] hours = {5, 1, 15, 1, 1, 1, 2};
        for (int stop = 0; stop < hours.length; stop++) {
            x.stretch(stop, 10 * (stop + 1), hours[stop]);
        }
        x.run(3, 2);
        x.sell(0, 3, 2, 5);
        x.sell(0, 3, 3, 4);
        return x;
    }

    private static void holdsOn(String tests, String legs) {
        SleepingCars x = nightLine();
        due.same("contract when " + tests, Due.contract(x, "when " + tests + ":flat 1;"), 1);
        for (int stop = 0; stop < legs.length(); stop++) {
            due.same(tests + " on leg " + stop, x.cost(3, stop), legs.charAt(stop) - '0');
        }
    }

    private static void costByTests() {
        holdsOn("night", "1100111");
        holdsOn("not night", "0011000");
        holdsOn("stop<2", "1100000");
        holdsOn("stop>2", "0001111");
        holdsOn("stop=2", "0010000");
        holdsOn("not stop=2", "1101111");
        holdsOn("km<30", "1100000");
        holdsOn("km>30", "0001111");
        holdsOn("km=30", "0010000");
        holdsOn("hour<5", "1000001");
        holdsOn("hour>21", "0000110");
        holdsOn("hour=0", "1000001");
        holdsOn("hour=24", "0000000");
        holdsOn("sold=0", "1100011");
        holdsOn("sold>0", "0011100");
        holdsOn("sold>1", "0001000");
        holdsOn("not sold<2", "0001000");
        holdsOn("night and not stop<1 and km<60 and hour>21", "0000100");
        holdsOn("sold>0 and not night", "0011000");
    }

    private static void cars() {
        SleepingCars x = new SleepingCars();
        due.same("no days", x.cars(0, 0), 0);
        due.same("a day", x.cars(1, 48), 1);
        due.same("below 0", x.cars(-1, 0), NONE);
        due.same("low", x.cars(LOW, 0), NONE);
        due.same("rest -1", x.cars(1, -1), NONE);
        due.same("rest 49", x.cars(1, 49), NONE);
        due.same("rest high", x.cars(1, HIGH), NONE);
        due.same("2 hours of way", x.cars(0x3fffffff, 0), 1);
        due.same("a day away", x.cars(0x3fffffff, 11), 1);
        due.same("more than a day away", x.cars(0x3fffffff, 12), 2);
        due.same("2 + 96 hours", x.cars(0x3fffffff, 48), 5);
        due.same("only those days", x.cars(0x10101011, 48), 2);
        due.same("four days apart", x.cars(0x11111111, 47), 1);
        due.same("four days apart", x.cars(0x11111111, 48), 2);
        due.same("bit 30 is no day", x.cars(0x40000000, 0), 0);
        due.same("day 29", x.cars(0x20000000, 0), 1);
        x.line(10);
        for (int stop = 0; stop < 9; stop++) {
            x.stretch(stop, 1, 24);
        }
        due.same("432 hours", x.cars(0x3fffffff, 0), 18);
        due.same("528 hours", x.cars(0x3fffffff, 48), 22);
        due.same("days 0 and 18", x.cars(1 << 18 | 1, 0), 1);
        due.same("days 0 and 17", x.cars(1 << 17 | 1, 0), 2);
        due.same("days 0 and 18, rest", x.cars(1 << 18 | 1, 1), 2);
    }

    private static void count() {
        SleepingCars x = lineOf(3);
        x.stretch(0, 30, 4);
        x.stretch(1, 50, 6);
        x.run(1, 1);
        x.run(2, 1);
        x.run(3, 1);
        x.sell(0, 1, 0, 1);
        x.sell(0, 1, 1, 2);
        x.back(0);
        x.letter(0, 1, 1, 0, 1);
        x.hours(7);
        Due.contract(x, "flat 1;flat 2;flat 3;flat 4;");
        int[] row = {3, 3, 2, 1, 7, 4, 10, 80};
        for (int what = 0; what < row.length; what++) {
            due.same("count " + what, x.count(what), row[what]);
        }
        due.same("count 8", x.count(8), NONE);
        due.same("count -1", x.count(-1), NONE);
    }

    private static void image() {
        SleepingCars x = new SleepingCars();
        due.no("image -1", x.image(-1));
        due.no("image 3", x.image(3));
        due.yes("image 0", x.image(0));
        due.yes("line", x.line(5));
        due.yes("image 2", x.image(2));
        due.yes("line", x.line(7));
        due.yes("image 2 anew", x.image(2));
        due.no("no image 1", x.again(1));
        due.yes("again 0", x.again(0));
        due.same("stops", x.count(0), 2);
        due.yes("again 2", x.again(2));
        due.same("stops", x.count(0), 7);
        due.yes("line", x.line(9));
        due.yes("again 2", x.again(2));
        due.same("an image stays", x.count(0), 7);
    }

    private static void again() {
        SleepingCars x = lineOf(3);
        due.no("again -1", x.again(-1));
        due.no("again 3", x.again(3));
        due.no("again 1", x.again(1));
        x.stretch(0, 20, 3);
        x.office(1, 2);
        x.share(1, 1);
        due.yes("image 0, without runs", x.image(0));
        x.run(1, 2);
        x.sell(0, 1, 0, 1);
        x.letter(0, 1, 1, 0, 2);
        Due.contract(x, "flat 5;");
        x.hours(2);
        due.yes("image 1", x.image(1));
        x.back(0);
        x.hours(10);
        x.share(1, 4);
        x.run(2, 2);
        x.sell(0, 1, 0, 2);
        Due.contract(x, "flat 6;flat 7;");
        Due.contract(x, "flat 6;flat");
        x.feed(0, 0, 0, 0, 0);
        due.yes("again 1", x.again(1));
        int[] row = {3, 1, 1, 1, 2, 1, 4, 21};
        for (int what = 0; what < row.length; what++) {
            due.same("count " + what, x.count(what), row[what]);
        }
        due.same("the fault stays", x.fault(0), 1);
        due.same("its place stays", x.fault(1), 11);
        due.same("the tape stays", x.end(20), 20);
        due.same("not given back", x.ticket(0, 5), 0);
        due.same("it lies there", x.lies(1, 0, 0), 0);
        due.same("the letter is under way", x.post(0, 2), 0);
        due.same("the contract", x.cost(1, 0), 5);
        due.same("no run", x.told(2, 0), NONE);
        x.hours(3);
        due.same("the letter is dealt with", x.post(0, 2), 1);
        due.same("a ticket", x.count(2), 2);
        x.run(2, 2);
        due.same("the share", x.told(2, 11), 1);
        due.yes("again 0", x.again(0));
        due.same("no runs", x.count(1), 0);
        due.same("no contract", x.count(5), 0);
        due.yes("run", x.run(1, 2));
        due.same("nobody lies there", x.lies(1, 0, 0), NONE);
        due.same("all is free", x.sell(0, 1, 0, 2), 0);
        due.same("letter", x.letter(0, 1, 1, 0, 1), 0);
        due.same("the office", x.post(0, 0), 5);
        due.yes("again 1", x.again(1));
        due.same("now", x.count(4), 2);
    }

    /** Each row that an image has is another one when it is looked at again. */
    private static void againWithAllRows() {
        SleepingCars x = lineOf(3);
        x.stretch(0, 20, 3);
        x.stretch(1, 30, 4);
        x.office(1, 2);
        x.share(0, 3);
        x.image(0);
        x.run(4, 2);
        x.sell(3, 4, 1, 2);
        x.letter(1, 3, 4, 0, 1);
        Due.contract(x, "when stop=1 and not km<9:berth 5;");
        x.hours(16);
        x.image(1);
        due.yes("again 0", x.again(0));
        due.same("km", x.count(7), 50);
        due.same("hours", x.count(6), 7);
        x.line(4);
        x.share(0, 2);
        x.share(1, 2);
        x.run(2, 3);
        x.sell(2, 2, 0, 2);
        x.sell(2, 2, 0, 3);
        x.back(0);
        x.letter(0, 2, 2, 1, 3);
        x.letter(0, 2, 2, 1, 3);
        x.hours(1);
        Due.contract(x, "when hour>2:flat 6;");
        due.yes("again 1", x.again(1));
        int[][] tickets = {{4, 0, 1, 2, 3, 0}, {4, 0, 0, 1, 3, 0}};
        for (int i = 0; i < tickets.length; i++) {
            for (int what = 0; what < 6; what++) {
                due.same("ticket " + i + ", " + what, x.ticket(i, what), tickets[i][what]);
            }
        }
        int[] post = {8, 16, 2, 1};
        for (int what = 0; what < 4; what++) {
            due.same("post " + what, x.post(0, what), post[what]);
        }
        due.same("km", x.count(7), 50);
        due.same("hours", x.count(6), 7);
        due.same("chart", x.told(4, 10), 3);
        due.same("chart", x.told(4, 11), 0);
        due.same("share", x.run(5, 2) ? x.told(5, 10) : NONE, 3);
        due.same("cost", x.cost(4, NONE), 5);
        due.same("letter", x.letter(1, 0, 5, 0, 2), 1);
        x.image(2);
        x.again(0);
        x.run(1, 1);
        x.letter(3, 4, 1, 0, 1);
        x.letter(3, 4, 1, 0, 1);
        x.again(2);
        x.hours(16);
        due.same("the letter comes", x.post(1, 3), 2);
        due.same("its stretch", 100 * x.ticket(2, 0) + 10 * x.ticket(2, 2) + x.ticket(2, 3), 502);
        due.same("its office and berth", 10 * x.ticket(2, 4) + x.ticket(2, 1), 1);
    }

    /** The last day, ten berths, ten stops, 300 tickets, 100 letters, 400 tokens. */
    private static void fullToTheBrim() {
        SleepingCars x = lineOf(10);
        for (int day = 56; day < 60; day++) {
            due.yes("run", x.run(day, 10));
        }
        for (int i = 0; i < 100; i++) {
            due.same("letter", x.letter(1, 0, 59, i % 9, i % 9 + 1), i);
        }
        for (int i = 0; i < 300; i++) {
            due.same("t", x.sell(0, 59 - i / 90, i % 9, i % 9 + 1), i);
        }
        due.same("nothing more", x.sell(0, 56, 8, 9), NONE);
        due.same("moved", x.moved(59), 0);
        due.yes("back", x.back(0));
        due.same("one for it", x.moved(59), 9);
        due.same("nothing is left of berth 9 there", x.lies(59, 9, 0), NONE);
        due.same("the last", x.lies(59, 9, 8), 89);
        due.same("most", x.told(59, 2), 10);
        due.same("legs", x.told(59, 3), 89);
        due.same("tickets", x.told(59, 1), 89);
        due.no("full", x.wouldFit(0, 59, 0, 9) && x.wouldFit(0, 59, 1, 2));
        due.yes("free", x.wouldFit(0, 59, 0, 1));
        due.yes("image", x.image(2));
        due.same("hours", x.hours(100), 100);
        due.same("no ticket for letters", x.post(99, 3), NONE);
        due.yes("again", x.again(2));
        x = new SleepingCars();
        due.same("fault at once", Due.contract(x, ";".repeat(400)), NONE);
        due.same("its place", x.fault(1), 0);
        due.same("400 letters", Due.contract(x, "x".repeat(400)), NONE);
        due.same("400 digits", Due.contract(x, "flat" + "1".repeat(396)), NONE);
        due.same("its place", x.fault(1), 4);
        due.same("50 tests", Due.contract(x, "when " + "km<1and ".repeat(49) + "km"), NONE);
        due.same("its place", x.fault(1), 399);
    }
}
