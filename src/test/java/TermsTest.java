/** The terms of the document: for each sentence that names a boundary, both sides of it. */
public final class TermsTest {
    private static final Due due = new Due("TermsTest");
    private static final int NONE = SleepingCars.NONE;

    public static void main(String[] args) {
        atFirst();
        sharesOfLaterRuns();
        anotherLine();
        notOverEachOther();
        ticketsAreNumbered();
        gapBetweenTickets();
        gapUpToTheEnds();
        gapOfSeveral();
        gapWithoutTicketsGivenBack();
        chartsUpToThe12thHour();
        chartsOfOtherRuns();
        soldFartherOn();
        lettersGoAsLong();
        lettersStandAs();
        lettersAreAtMost100();
        lettersHourByHour();
        lettersByNumbers();
        lettersComeInTime();
        lettersFindWhatIsFree();
        lettersBehindTheLastHour();
        lettersWith300Tickets();
        movedByBeginningsAndNumbers();
        movedWithinCharts();
        movedOnlyOthers();
        fitsAsManyAsBerths();
        fitsWithinCharts();
        mostSoldOnAStretch();
        carsThatAreBackInTime();
        carsOfSets();
        due.close();
    }

    private static SleepingCars lineOf(int n) {
        SleepingCars x = new SleepingCars();
        due.yes("line", x.line(n));
        return x;
    }

    private static void go(SleepingCars x, int hour) {
        for (int now = x.count(4); now < hour; now = x.hours(Math.min(100, hour - now))) {
            due.yes("hours go by", now >= 0);
        }
    }

    private static void atFirst() {
        due.of("Term 1: OFFICES 0 .. 5 are at a STOP each (all at STOP 0 at first)");
        SleepingCars x = lineOf(3);
        x.run(1, 10);
        for (int office = 1; office < 6; office++) {
            due.same("way from 0 to " + office, x.post(x.letter(0, office, 1, 0, 1), 0), 1);
        }
        due.of("Term 1: the OFFICE that SHARES tell for b (0 at first)");
        for (int berth = 0; berth < 10; berth++) {
            due.same("office of berth " + berth, x.told(1, 10 + berth), 0);
        }
        due.of("Promise 1: 2 STOPS, 1 KM and 1 hour; no RUNS, no TICKETS, no LETTERS, no CONTRACT; hour 0");
        x = new SleepingCars();
        int[] counts = {2, 0, 0, 0, 0, 0, 1, 1};
        for (int what = 0; what < counts.length; what++) {
            due.same("count " + what, x.count(what), counts[what]);
        }
        for (int day = -1; day <= 60; day++) {
            due.same("run of day " + day, x.told(day, 0), NONE);
        }
        due.same("cost without a contract", x.run(1, 1) ? x.cost(1, NONE) : NONE, 0);
        due.same("the tape is empty", x.feed(0, 0, 0, 0, 0), 20);
    }

    private static void sharesOfLaterRuns() {
        due.of("Term 1: BERTH b of RUNS that are told from now on");
        SleepingCars x = lineOf(3);
        x.run(1, 2);
        due.yes("share", x.share(0, 3));
        x.run(2, 2);
        due.yes("share", x.share(0, 5));
        due.same("told ahead", x.told(1, 10), 0);
        due.same("told between", x.told(2, 10), 3);
        due.same("told behind", x.run(3, 2) ? x.told(3, 10) : NONE, 5);
        due.same("3 sells on day 1", x.sell(3, 1, 0, 1), NONE);
        due.same("3 sells on day 2", x.sell(3, 2, 0, 1), 0);
        due.same("3 sells on day 3", x.sell(3, 3, 0, 1), NONE);
        due.of("Term 1: a berth that a run has not, told for a later one");
        due.yes("share", x.share(9, 4));
        due.same("berth 9 of 10", x.run(4, 10) ? x.told(4, 19) : NONE, 4);
    }

    private static void anotherLine() {
        due.of("Promise 2: another LINE, (OFFICES are at STOP 0 then): nothing else is another one");
        SleepingCars x = lineOf(5);
        x.stretch(3, 70, 8);
        x.office(3, 4);
        x.share(2, 3);
        x.hours(4);
        Due.contract(x, "flat 1;");
        due.yes("line", x.line(5));
        int[] counts = {5, 0, 0, 0, 4, 1, 4, 4};
        for (int what = 0; what < counts.length; what++) {
            due.same("count " + what, x.count(what), counts[what]);
        }
        due.yes("run", x.run(1, 3));
        due.same("the share", x.told(1, 12), 3);
        due.same("the office", x.post(x.letter(0, 3, 1, 0, 1), 0), 5);
    }

    /** One berth, a ticket from 2 to 4 of stops 0 to 6. */
    private static void notOverEachOther() {
        due.of("Term 1: none of one BERTH lie over each other (one may end where the other one begins)");
        for (int from = 0; from < 6; from++) {
            for (int to = from + 1; to < 7; to++) {
                SleepingCars x = lineOf(7);
                x.run(1, 1);
                due.same("the first", x.sell(0, 1, 2, 4), 0);
                boolean apart = to <= 2 || from >= 4;
                due.same("from " + from + " to " + to, x.sell(0, 1, from, to), apart ? 1 : NONE);
                due.same("tickets", x.told(1, 1), apart ? 2 : 1);
            }
        }
    }

    private static void ticketsAreNumbered() {
        due.of("Term 1: TICKETS are numbered from 0 on, 300 at most, in the order in which they were sold");
        SleepingCars x = lineOf(10);
        for (int day = 4; day >= 1; day--) {
            x.run(day, 10);
        }
        for (int i = 0; i < 299; i++) {
            due.same("ticket", x.sell(0, 4 - i / 90, 8 - i % 9, 9 - i % 9), i);
        }
        due.same("a letter for the 300th", x.letter(0, 1, 1, 0, 1), 0);
        due.same("the 300th", x.sell(0, 1, 0, 1), 299);
        due.of("Promise 7: 300 were sold; Promise 9: as sell()");
        due.same("the 301st", x.sell(0, 1, 0, 1), NONE);
        due.same("a letter for the 301st", x.letter(0, 1, 1, 0, 1), NONE);
        due.yes("back", x.back(299));
        due.same("the 301st, one was given back", x.sell(0, 1, 0, 1), NONE);
        due.same("a letter for it", x.letter(0, 1, 1, 0, 1), NONE);
        due.same("tickets", x.count(2), 300);
        due.same("letters", x.count(3), 1);
        due.same("the 300th", x.ticket(299, 5), 1);
        due.same("no 301st", x.ticket(300, 5), NONE);
        due.no("no 301st", x.back(300));
        due.same("the last day", x.told(1, 1), 29);
    }

    /** Berth 0 has a gap of wide, berth 1 one of narrow stops around from 4 to 5. */
    private static int berthOfGaps(int[] wide, int[] narrow) {
        SleepingCars x = lineOf(10);
        x.share(1, 1);
        x.run(2, 2);
        sellAround(x, 0, wide);
        sellAround(x, 1, narrow);
        go(x, 36);
        int ticket = x.sell(5, 2, 4, 5);
        due.yes("it is sold", ticket >= 0);
        return x.ticket(ticket, 1);
    }

    private static void sellAround(SleepingCars x, int office, int[] gap) {
        if (gap[0] > 0) {
            due.yes("ahead", x.sell(office, 2, gap[0] - 1, gap[0]) >= 0);
        }
        if (gap[1] < 9) {
            due.yes("behind", x.sell(office, 2, gap[1], gap[1] + 1) >= 0);
        }
    }

    private static void gapBetweenTickets() {
        due.of("Term 1: GAP: from the end of the TICKET ahead of it up to the beginning of the one behind it; the least GAP");
        due.same("gaps 4 and 3", berthOfGaps(new int[] {2, 6}, new int[] {3, 6}), 1);
        due.same("gaps 4 and 3", berthOfGaps(new int[] {3, 7}, new int[] {3, 6}), 1);
        due.same("gaps 3 and 4", berthOfGaps(new int[] {3, 6}, new int[] {2, 6}), 0);
        due.same("gaps 2 and 1", berthOfGaps(new int[] {4, 6}, new int[] {4, 5}), 1);
        due.same("gaps 1 and 2", berthOfGaps(new int[] {4, 5}, new int[] {4, 6}), 0);
        due.same("gaps 5 and 4, from elsewhere", berthOfGaps(new int[] {4, 9}, new int[] {1, 5}), 1);
    }

    private static void gapUpToTheEnds() {
        due.of("Term 1: GAP: (or STOP 0) .. (or the last STOP)");
        due.same("0 to 5 and 1 to 5", berthOfGaps(new int[] {0, 5}, new int[] {1, 5}), 1);
        due.same("0 to 5 and 4 to 9", berthOfGaps(new int[] {0, 5}, new int[] {4, 9}), 0);
        due.same("0 to 6 and 4 to 9", berthOfGaps(new int[] {0, 6}, new int[] {4, 9}), 1);
        due.same("4 to 9 and 4 to 8", berthOfGaps(new int[] {4, 9}, new int[] {4, 8}), 1);
        due.same("3 to 9 and 0 to 5", berthOfGaps(new int[] {3, 9}, new int[] {0, 5}), 1);
        due.same("all and 1 to 9", berthOfGaps(new int[] {0, 9}, new int[] {1, 9}), 1);
        due.same("all and 0 to 8", berthOfGaps(new int[] {0, 9}, new int[] {0, 8}), 1);
    }

    private static void gapOfSeveral() {
        due.of("Term 1: of several the least BERTH");
        due.same("the same gaps", berthOfGaps(new int[] {2, 6}, new int[] {2, 6}), 0);
        due.same("as wide", berthOfGaps(new int[] {4, 7}, new int[] {3, 6}), 0);
        due.same("as wide", berthOfGaps(new int[] {0, 5}, new int[] {4, 9}), 0);
        due.same("all", berthOfGaps(new int[] {0, 9}, new int[] {0, 9}), 0);
    }

    private static void gapWithoutTicketsGivenBack() {
        due.of("Term 1: GAP, of a ticket that was given back");
        SleepingCars x = lineOf(5);
        x.run(1, 2);
        due.same("berth 0", x.ticket(x.sell(0, 1, 0, 3), 1), 0);
        due.same("berth 1", x.ticket(x.sell(0, 1, 0, 2), 1), 1);
        due.same("berth 0", x.ticket(x.sell(0, 1, 3, 4), 1), 0);
        due.yes("back", x.back(0));
        // From 2 to 3: berth 0 has a gap of 3 stops then, berth 1 one of 2.
        due.same("berth 1", x.ticket(x.sell(0, 1, 2, 3), 1), 1);
    }

    private static void chartsUpToThe12thHour() {
        due.of("Term 1: from the 12th hour ahead of that in which a RUN leaves all its BERTHS are on all CHARTS");
        for (int hour : new int[] {0, 35, 36, 37, 47}) {
            SleepingCars x = lineOf(3);
            x.share(1, 4);
            x.run(2, 2);
            go(x, hour);
            boolean late = hour >= 36;
            due.same("office 0 sells berth 0 at " + hour, x.ticket(x.sell(0, 2, 0, 2), 1), 0);
            due.same("office 0 sells one more at " + hour, x.sell(0, 2, 0, 1), late ? 1 : NONE);
            due.same("office 3 sells at " + hour, x.sell(3, 2, 1, 2), late ? 2 : NONE);
            due.same("office of berth 1 at " + hour, x.told(2, 11), 4);
        }
    }

    private static void chartsOfOtherRuns() {
        due.of("Term 1: .. ahead of that in which A RUN leaves: another one's charts stay");
        SleepingCars x = lineOf(3);
        x.run(2, 1);
        x.run(3, 1);
        go(x, 47);
        due.same("day 2", x.sell(3, 2, 0, 2), 0);
        due.same("day 3", x.sell(3, 3, 0, 2), NONE);
        go(x, 59);
        due.same("day 3, 13 hours ahead", x.sell(3, 3, 0, 2), NONE);
        go(x, 60);
        due.same("day 3, 12 hours ahead", x.sell(3, 3, 0, 2), 1);
    }

    private static void soldFartherOn() {
        due.of("Term 1: the RUN leaves the STOP where the stretch begins");
        SleepingCars x = lineOf(4);
        x.stretch(0, 1, 24);
        x.stretch(1, 1, 2);
        x.stretch(2, 1, 3);
        x.share(0, 1);
        x.run(1, 9);
        int[] leaves = {24, 48, 50};
        int sold = 0;
        for (int stop = 0; stop < 3; stop++) {
            go(x, leaves[stop] - 1);
            due.same("an hour ahead of " + stop, x.sell(2, 1, stop, 3), sold);
            due.yes("back, an hour ahead of " + stop, x.back(sold));
            due.same("an hour ahead of " + stop, x.sell(2, 1, stop, 3), sold + 1);
            go(x, leaves[stop]);
            due.same("as it leaves " + stop, x.sell(2, 1, stop, 3), NONE);
            due.no("back, as it leaves " + stop, x.back(sold + 1));
            sold += 2;
        }
        due.same("linen", x.told(1, 4), 3);
    }

    private static void lettersGoAsLong() {
        due.of("Term 2: it comes 1 hour, and as many as there are between their two STOPS, later; the answer as many hours later");
        int[] at = {0, 1, 2, 3, 3, 1};
        int[] hours = {0, 24, 26, 33};
        SleepingCars x = lineOf(4);
        x.stretch(0, 9, 24);
        x.stretch(1, 9, 2);
        x.stretch(2, 9, 7);
        for (int office = 0; office < 6; office++) {
            due.yes("office", x.office(office, at[office]));
        }
        x.run(9, 1);
        x.hours(5);
        for (int from = 0; from < 6; from++) {
            for (int to = 0; to < 6; to++) {
                if (from != to) {
                    int way = 1 + Math.abs(hours[at[from]] - hours[at[to]]);
                    int letter = x.letter(from, to, 9, 0, 1);
                    due.same("comes from " + from + " to " + to, x.post(letter, 0), 5 + way);
                    due.same("answer from " + from + " to " + to, x.post(letter, 1), 5 + 2 * way);
                }
            }
        }
    }

    private static void lettersStandAs() {
        due.of("Promise 10: 0 under way, 1 dealt with, 2 the answer is there; -2 if it is not answered yet");
        SleepingCars x = lineOf(3);
        x.stretch(0, 1, 3);
        x.office(1, 1);
        x.run(3, 1);
        due.same("one that can be", x.letter(1, 0, 3, 0, 1), 0);
        due.same("one that can not be", x.letter(0, 1, 3, 1, 2), 1);
        int[] stands = {0, 0, 0, 0, 1, 1, 1, 1, 2, 2};
        for (int hour = 0; hour < stands.length; hour++) {
            due.same("how 0 stands at " + hour, x.post(0, 2), stands[hour]);
            due.same("how 1 stands at " + hour, x.post(1, 2), stands[hour]);
            due.same("ticket of 0 at " + hour, x.post(0, 3), stands[hour] == 2 ? 0 : -2);
            due.same("ticket of 1 at " + hour, x.post(1, 3), stands[hour] == 2 ? NONE : -2);
            due.same("tickets at " + hour, x.count(2), stands[hour] == 0 ? 0 : 1);
            x.hours(1);
        }
    }

    private static void lettersAreAtMost100() {
        due.of("Term 2: at most 100 LETTERS, from 0 on; Promise 9: or there were 100");
        SleepingCars x = lineOf(3);
        x.run(1, 1);
        for (int i = 0; i < 99; i++) {
            due.same("letter", x.letter(0, 1, 1, 0, 1), i);
        }
        x.hours(3);
        due.same("the 100th", x.letter(1, 0, 1, 0, 1), 99);
        due.same("the 101st", x.letter(1, 0, 1, 0, 1), NONE);
        x.hours(3);
        due.same("the 101st, all are answered", x.letter(1, 0, 1, 0, 1), NONE);
        due.same("letters", x.count(3), 100);
        due.same("the 100th", x.post(99, 3), 0);
        due.same("no 101st", x.post(100, 0), NONE);
    }

    private static void lettersHourByHour() {
        due.of("Term 2: HOUR by HOUR");
        for (int step : new int[] {1, 3, 6}) {
            SleepingCars x = lineOf(3);
            x.stretch(0, 1, 4);
            x.office(1, 1);
            x.run(2, 1);
            due.same("from afar", x.letter(1, 0, 2, 0, 1), 0);
            due.same("from near", x.letter(2, 0, 2, 0, 2), 1);
            for (int hour = step; hour <= 12; hour += step) {
                due.same("hours", x.hours(step), hour);
            }
            due.same("the later one finds none", x.post(0, 3), NONE);
            due.same("the earlier one", x.post(1, 3), 0);
        }
    }

    private static void lettersByNumbers() {
        due.of("Term 2: those LETTERS that come then are dealt with by numbers");
        SleepingCars x = lineOf(3);
        x.stretch(0, 1, 4);
        x.office(1, 1);
        x.run(2, 2);
        due.same("from afar", x.letter(1, 0, 2, 0, 1), 0);
        x.hours(4);
        due.same("from near", x.letter(2, 0, 2, 0, 2), 1);
        due.same("from near", x.letter(3, 0, 2, 1, 2), 2);
        due.same("from near", x.letter(4, 0, 2, 1, 2), 3);
        due.same("from near", x.letter(4, 5, 2, 1, 2), 4);
        x.hours(10);
        int[] tickets = {0, 1, 2, NONE, NONE};
        for (int i = 0; i < tickets.length; i++) {
            due.same("ticket of letter " + i, x.post(i, 3), tickets[i]);
        }
        due.same("the office that was asked", x.ticket(0, 4), 0);
    }

    /** A letter of one hour's way to office 4, which has no berth of its own. */
    private static int soldByLetterAt(int hour, int from) {
        SleepingCars x = lineOf(3);
        x.stretch(0, 1, 6);
        x.run(2, 1);
        go(x, hour - 1);
        due.same("letter", x.letter(0, 4, 2, from, 2), 0);
        x.hours(2);
        return x.post(0, 3);
    }

    private static void lettersComeInTime() {
        due.of("Term 2: the other OFFICE SELLS then if it can: all CHARTS from the 12th hour ahead on");
        due.same("comes at 35", soldByLetterAt(35, 0), NONE);
        due.same("comes at 36", soldByLetterAt(36, 0), 0);
        due.of("Term 2: the other OFFICE SELLS then if it can: not from the hour on in which the RUN leaves");
        due.same("comes at 47", soldByLetterAt(47, 0), 0);
        due.same("comes at 48", soldByLetterAt(48, 0), NONE);
        due.same("comes at 53, farther on", soldByLetterAt(53, 1), 0);
        due.same("comes at 54, farther on", soldByLetterAt(54, 1), NONE);
    }

    private static void lettersFindWhatIsFree() {
        due.of("Term 2: the other OFFICE SELLS then if it can: what is free as the letter comes");
        SleepingCars x = lineOf(3);
        x.run(2, 1);
        due.same("ticket", x.sell(0, 2, 0, 2), 0);
        due.same("sent while it is sold", x.letter(1, 0, 2, 0, 1), 0);
        due.yes("back", x.back(0));
        x.hours(2);
        due.same("free as it comes", x.post(0, 3), 1);
        due.same("sent while it is free", x.letter(1, 0, 2, 1, 2), 1);
        due.same("ticket", x.sell(0, 2, 1, 2), 2);
        x.hours(2);
        due.same("sold as it comes", x.post(1, 3), NONE);
    }

    private static void lettersBehindTheLastHour() {
        due.of("Term 1: HOURS are numbered from 0 on, to 2000: a letter that would come later");
        SleepingCars x = lineOf(3);
        x.run(59, 1);
        go(x, 1998);
        due.same("letter", x.letter(0, 1, 59, 0, 1), 0);
        x.hours(1);
        due.same("letter", x.letter(0, 1, 59, 0, 1), 1);
        x.hours(1);
        due.same("letter", x.letter(0, 1, 59, 0, 1), 2);
        due.same("no hour more", x.hours(1), NONE);
        int[][] rows = {{1999, 2000, 2, NONE}, {2000, 2001, 1, -2}, {2001, 2002, 0, -2}};
        for (int i = 0; i < rows.length; i++) {
            for (int what = 0; what < 4; what++) {
                due.same("post of " + i + ", " + what, x.post(i, what), rows[i][what]);
            }
        }
    }

    private static void lettersWith300Tickets() {
        due.of("Term 2: the other OFFICE SELLS then if it can: 300 TICKETS at most");
        SleepingCars x = lineOf(10);
        for (int day = 1; day <= 4; day++) {
            x.run(day, 10);
        }
        for (int i = 0; i < 299; i++) {
            x.sell(0, 1 + i / 90, i % 9, i % 9 + 1);
        }
        due.same("sent", x.letter(1, 0, 4, 0, 9), 0);
        due.same("sent", x.letter(1, 0, 4, 0, 9), 1);
        x.hours(1);
        due.same("no letter more", x.letter(1, 0, 4, 0, 9), NONE);
        x.hours(1);
        due.same("the 300th", x.post(0, 3), 299);
        due.same("no 301st", x.post(1, 3), NONE);
    }

    private static void berthsAre(SleepingCars x, int... berths) {
        for (int i = 0; i < berths.length; i++) {
            due.same("berth of ticket " + i, x.ticket(i, 1), berths[i]);
        }
    }

    private static void movedByBeginningsAndNumbers() {
        due.of("Term 3: by where they begin, then by numbers, each in the first BERTH of that CHART (by numbers) that is free for it");
        SleepingCars x = lineOf(6);
        x.run(1, 4);
        x.sell(0, 1, 0, 1);
        x.sell(0, 1, 0, 1);
        x.sell(0, 1, 0, 3);
        x.sell(0, 1, 0, 2);
        berthsAre(x, 0, 1, 2, 3);
        x.sell(0, 1, 3, 5);
        x.sell(0, 1, 2, 5);
        berthsAre(x, 0, 1, 2, 3, 2, 3);
        x.back(0);
        due.same("moved", x.moved(1), 5);
        // From 0: 1, 2, 3 by numbers; from 2: 5 behind 1; from 3: 4 behind 2.
        berthsAre(x, 0, 0, 1, 2, 1, 0);
        due.same("what was given back stays where it lay", x.ticket(0, 1), 0);
        due.same("moved once more", x.moved(1), 0);
        due.same("lies", x.lies(1, 0, 4), 5);
        due.same("lies", x.lies(1, 1, 4), 4);
        due.same("nobody", x.lies(1, 3, 0), NONE);
        due.same("sold on the berth that got free", x.ticket(x.sell(0, 1, 0, 5), 1), 3);
    }

    private static void movedWithinCharts() {
        due.of("Term 3: in other BERTHS of the same OFFICE's CHART");
        SleepingCars x = lineOf(3);
        x.share(0, 5);
        x.share(2, 5);
        x.run(2, 4);
        x.sell(0, 2, 0, 1);
        x.sell(0, 2, 0, 2);
        x.sell(5, 2, 0, 1);
        x.sell(5, 2, 0, 2);
        berthsAre(x, 1, 3, 0, 2);
        x.back(0);
        x.back(2);
        go(x, 35);
        due.same("moved, 13 hours ahead", x.moved(2), 2);
        berthsAre(x, 1, 1, 0, 0);
        go(x, 36);
        due.same("moved, 12 hours ahead, when all berths are on all charts", x.moved(2), 2);
        berthsAre(x, 1, 0, 0, 1);
        due.same("who sold it", x.ticket(1, 4), 0);
        due.same("who sold it", x.ticket(3, 4), 5);
    }

    private static void movedOnlyOthers() {
        due.of("Promise 12: how many lie in another BERTH then");
        SleepingCars x = lineOf(4);
        x.run(1, 3);
        x.run(2, 3);
        due.same("no tickets", x.moved(1), 0);
        for (int day = 1; day <= 2; day++) {
            x.sell(0, day, 0, 3);
            x.sell(0, day, 0, 3);
            x.sell(0, day, 1, 3);
        }
        due.same("each lies there", x.moved(1), 0);
        x.back(1);
        x.back(4);
        due.same("the last one only", x.moved(1), 1);
        berthsAre(x, 0, 1, 1, 0, 1, 2);
        due.same("the other run's", x.moved(2), 1);
        berthsAre(x, 0, 1, 1, 0, 1, 1);
        x.back(0);
        x.back(2);
        due.same("all were given back", x.moved(1), 0);
    }

    private static void fitsAsManyAsBerths() {
        due.of("Term 3: WOULD FIT: as many lie over one another at most as had BERTHS");
        for (int berths = 1; berths <= 10; berths++) {
            SleepingCars x = lineOf(5);
            x.run(1, berths);
            for (int i = 0; i < berths; i++) {
                due.yes("one more", x.wouldFit(0, 1, 1, 3));
                due.same("ticket", x.sell(0, 1, 1, 3), i);
            }
            due.no("over all of them", x.wouldFit(0, 1, 1, 3));
            due.no("over their first stretch", x.wouldFit(0, 1, 0, 2));
            due.no("over their last stretch", x.wouldFit(0, 1, 2, 4));
            due.no("all along", x.wouldFit(0, 1, 0, 4));
            due.yes("up to where they begin", x.wouldFit(0, 1, 0, 1));
            due.yes("from where they end", x.wouldFit(0, 1, 3, 4));
            due.yes("back", x.back(berths - 1));
            due.yes("all along, one less", x.wouldFit(0, 1, 0, 4));
        }
        due.of("Promise 13: also where it is free as it is; Term 3: if its TICKETS were MOVED");
        SleepingCars x = lineOf(4);
        x.run(1, 2);
        x.sell(0, 1, 0, 2);
        x.sell(0, 1, 0, 1);
        x.sell(0, 1, 2, 3);
        x.back(0);
        berthsAre(x, 0, 1, 0);
        due.yes("free as it is", x.wouldFit(0, 1, 0, 2) && x.wouldFit(0, 1, 1, 3));
        due.same("free in no berth", x.sell(0, 1, 0, 3), NONE);
        due.yes("if they were moved", x.wouldFit(0, 1, 0, 3));
        berthsAre(x, 0, 1, 0);
    }

    private static void fitsWithinCharts() {
        due.of("Term 3: WOULD FIT: could be sold by AN OFFICE if its TICKETS were MOVED");
        for (int hour : new int[] {0, 35, 36, 47}) {
            SleepingCars x = lineOf(3);
            x.share(1, 4);
            x.run(2, 2);
            due.same("ticket", x.sell(4, 2, 0, 1), 0);
            go(x, hour);
            boolean late = hour >= 36;
            due.yes("office 0 at " + hour, x.wouldFit(0, 2, 0, 2));
            due.same("office 4 at " + hour, x.wouldFit(4, 2, 0, 2) ? 1 : 0, late ? 1 : 0);
            due.yes("office 4 behind its ticket at " + hour, x.wouldFit(4, 2, 1, 2));
            due.same("office 3 at " + hour, x.wouldFit(3, 2, 1, 2) ? 1 : 0, late ? 1 : 0);
        }
    }

    private static void mostSoldOnAStretch() {
        due.of("Promise 16: the most BERTHS that are sold on a stretch; stretches sold, each BERTH's, between neighbours");
        for (int stop = 0; stop < 4; stop++) {
            SleepingCars x = lineOf(5);
            x.run(1, 3);
            due.same("most of none", x.told(1, 2), 0);
            due.same("stretches of none", x.told(1, 3), 0);
            for (int i = 1; i <= 3; i++) {
                x.sell(0, 1, stop, stop + 1);
                due.same("most on the stretch from " + stop, x.told(1, 2), i);
                due.same("stretches", x.told(1, 3), i);
            }
            due.yes("back", x.back(1));
            due.same("most on the stretch from " + stop, x.told(1, 2), 2);
            due.same("stretches", x.told(1, 3), 2);
            due.same("all along", x.sell(0, 1, 0, 4), 3);
            due.same("most on the stretch from " + stop, x.told(1, 2), 3);
            due.same("stretches", x.told(1, 3), 6);
        }
        SleepingCars x = lineOf(3);
        x.run(1, 2);
        x.sell(0, 1, 0, 1);
        x.sell(0, 1, 1, 2);
        due.same("one behind the other one", x.told(1, 2), 1);
        due.same("tickets", x.told(1, 1), 2);
        due.same("linen", x.told(1, 4), 2);
    }

    /** Hours from stop 0 to the last one, and rest: twice their sum is how long a car is away. */
    private static int carsOfTwoDays(int hours, int rest, int apart) {
        SleepingCars x = lineOf(10);
        int left = hours - 9;
        for (int stop = 0; stop < 9; stop++) {
            int more = Math.min(23, left);
            due.yes("stretch", x.stretch(stop, 1, 1 + more));
            left -= more;
        }
        due.same("hours", x.count(6), hours);
        return x.cars(1 | 1 << apart, rest);
    }

    private static void carsThatAreBackInTime() {
        due.of("Term 5: back at STOP 0 it can leave again REST hours later");
        due.same("24 hours away", carsOfTwoDays(12, 0, 1), 1);
        due.same("26 hours away", carsOfTwoDays(13, 0, 1), 2);
        due.same("26 hours away, two days", carsOfTwoDays(13, 0, 2), 1);
        due.same("24 hours with rests", carsOfTwoDays(9, 3, 1), 1);
        due.same("26 hours with rests", carsOfTwoDays(9, 4, 1), 2);
        due.same("48 hours with rests", carsOfTwoDays(20, 4, 2), 1);
        due.same("50 hours with rests", carsOfTwoDays(21, 4, 2), 2);
        due.same("120 hours with the longest rests", carsOfTwoDays(12, 48, 5), 1);
        due.same("122 hours with the longest rests", carsOfTwoDays(13, 48, 5), 2);
        due.same("432 hours", carsOfTwoDays(216, 0, 18), 1);
        due.same("434 hours", carsOfTwoDays(216, 1, 18), 2);
        due.same("528 hours", carsOfTwoDays(216, 48, 22), 1);
        due.same("528 hours, a day less", carsOfTwoDays(216, 48, 21), 2);
    }

    private static void carsOfSets() {
        due.of("Term 5: CARS of a set of days: the fewest with which a RUN can leave on each of them");
        SleepingCars x = lineOf(10);
        x.stretch(0, 1, 24);
        due.same("hours", x.count(6), 32);
        due.same("none", x.cars(0, 4), 0);
        due.same("72 hours, each day", x.cars(0x3fffffff, 4), 3);
        due.same("74 hours, each day", x.cars(0x3fffffff, 5), 4);
        due.same("72 hours, each third day", x.cars(0x09249249, 4), 1);
        due.same("74 hours, each third day", x.cars(0x09249249, 5), 2);
        due.same("two days next to each other, late", x.cars(3 << 28 | 1, 4), 2);
        due.same("days 0, 2, 4", x.cars(0b10101, 4), 2);
        due.same("days 0, 1, 2, 3, 9", x.cars(0b1000001111, 4), 3);
        due.same("also without a run of these days", x.count(1), 0);
    }
}
