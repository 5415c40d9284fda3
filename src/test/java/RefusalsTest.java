import java.util.List;
import java.util.function.Supplier;

/**
 * For each promise what it refuses, next to what it still takes. Behind each refused call all that
 * can be seen is as it was without the call: 'A refused call changes nothing but the tape'.
 */
public final class RefusalsTest {
    private static final Due due = new Due("RefusalsTest");
    private static final int NONE = SleepingCars.NONE;
    private static final int NO = 0;
    private static final int YES = 1;
    private static final int[] FAR = {Integer.MIN_VALUE, Integer.MAX_VALUE};

    /** A call, or a few, with a number for the answer. */
    private interface Call {
        long on(SleepingCars x);
    }

    /** A call with a number that is to be filled in. */
    private interface CallOf {
        long on(SleepingCars x, int number);
    }

    private static Supplier<SleepingCars> scene = Scene::laid;

    public static void main(String[] args) {
        line();
        stretch();
        office();
        share();
        run();
        runInTime();
        sell();
        sellInTime();
        back();
        backInTime();
        letter();
        post();
        hours();
        moved();
        wouldFit();
        ticket();
        lies();
        told();
        feed();
        end();
        contract();
        fault();
        cost();
        cars();
        count();
        image();
        again();
        due.close();
    }

    private static long bit(boolean answer) {
        return answer ? YES : NO;
    }

    private static SleepingCars at(SleepingCars x, int hour) {
        for (int now = x.count(4); now < hour; now = x.hours(Math.min(100, hour - now))) {
            due.yes("hours go by", now >= 0);
        }
        return x;
    }

    private static void refused(String call, Call outside, long refusal) {
        SleepingCars x = scene.get();
        due.same(call, outside.on(x), refusal);
        List<Long> behind = Scene.looks(x);
        List<Long> without = Scene.looks(scene.get());
        due.yes("nothing changed by " + call, behind.equals(without));
    }

    private static void taken(String call, Call inside, long answer) {
        due.same(call, inside.on(scene.get()), answer);
    }

    /** Refused: the numbers next to least .. most, and the farthest ones. */
    private static void refusedOutside(int least, int most, String call, CallOf numbered, long refusal) {
        for (int number : new int[] {least - 1, most + 1, FAR[0], FAR[1]}) {
            refused(call + " " + number, x -> numbered.on(x, number), refusal);
        }
    }

    private static void takenFor(int[] numbers, String call, CallOf numbered, long[] answers) {
        for (int i = 0; i < numbers.length; i++) {
            int number = numbers[i];
            taken(call + " " + number, x -> numbered.on(x, number), answers[i]);
        }
    }

    private static void takenAtEnds(int least, int most, String call, CallOf numbered) {
        takenFor(new int[] {least, most}, call, numbered, new long[] {YES, YES});
    }

    private static void line() {
        scene = Scene::laid;
        due.of("Promise 2: another n; STOPS 0 .. n - 1 (n 2 .. 10)");
        refusedOutside(2, 10, "line", (x, n) -> bit(x.line(n)), NO);
        takenAtEnds(2, 10, "line", (x, n) -> bit(x.line(n) && x.count(0) == n && x.count(6) == n - 1 && x.count(7) == n - 1));
        due.of("Promise 2: false: there are RUNS");
        scene = Scene::sold;
        refused("line of two runs", x -> bit(x.line(4)), NO);
        scene = RefusalsTest::oneRun;
        refused("line of one run", x -> bit(x.line(5)), NO);
        due.of("Promise 2: OFFICES are at STOP 0 then");
        scene = Scene::laid;
        taken("from office 1 to office 0", x -> x.line(4) && x.run(1, 1) ? x.post(x.letter(1, 0, 1, 0, 1), 0) : NONE, 4);
        taken("without another line", x -> x.run(1, 1) ? x.post(x.letter(1, 0, 1, 0, 1), 0) : NONE, 3 + 29);
    }

    private static SleepingCars oneRun() {
        SleepingCars x = Scene.laid();
        x.run(3, 1);
        return x;
    }

    private static void stretch() {
        scene = Scene::laid;
        due.of("Promise 3: from a STOP to the next one");
        refusedOutside(0, 2, "stretch from", (x, stop) -> bit(x.stretch(stop, 7, 9)), NO);
        takenFor(new int[] {0, 2}, "km behind stretch from", (x, stop) -> x.stretch(stop, 7, 9) ? x.count(7) : NONE, new long[] {507, 307});
        due.of("Promise 3: other numbers; 1 .. 500 KM");
        refusedOutside(1, 500, "stretch of km", (x, km) -> bit(x.stretch(1, km, 9)), NO);
        takenAtEnds(1, 500, "stretch of km", (x, km) -> bit(x.stretch(1, km, 9) && x.count(7) == 400 + km && x.count(6) == 17));
        due.of("Promise 3: other numbers; 1 .. 24 hours");
        refusedOutside(1, 24, "stretch of hours", (x, hours) -> bit(x.stretch(1, 9, hours)), NO);
        takenAtEnds(1, 24, "stretch of hours", (x, hours) -> bit(x.stretch(1, 9, hours) && x.count(6) == 8 + hours && x.count(7) == 409));
        due.of("Promise 3: false: there are RUNS");
        scene = RefusalsTest::oneRun;
        refused("stretch of one run", x -> bit(x.stretch(1, 9, 9)), NO);
    }

    private static void office() {
        scene = Scene::laid;
        due.of("Promise 4: none such, of OFFICES 0 .. 5");
        refusedOutside(0, 5, "office", (x, office) -> bit(x.office(office, 2)), NO);
        takenAtEnds(0, 5, "office", (x, office) -> bit(x.office(office, 2) && x.run(1, 1) && x.post(x.letter(office, 4, 1, 0, 1), 0) == 3 + 26));
        due.of("Promise 4: none such, of STOPS");
        refusedOutside(0, 3, "office at stop", (x, stop) -> bit(x.office(2, stop)), NO);
        takenAtEnds(0, 3, "office at stop", (x, stop) -> bit(x.office(2, stop) && x.run(1, 1) && x.post(x.letter(2, 4, 1, 0, 1), 0) == (stop == 0 ? 4 : 32)));
        due.of("Promise 4: false if there are RUNS");
        scene = RefusalsTest::oneRun;
        refused("office of one run", x -> bit(x.office(2, 2)), NO);
    }

    private static void share() {
        scene = Scene::laid;
        due.of("Promise 5: none such, of BERTHS");
        refusedOutside(0, 9, "share of berth", (x, berth) -> bit(x.share(berth, 4)), NO);
        takenAtEnds(0, 9, "share of berth", (x, berth) -> bit(x.share(berth, 4) && x.run(1, 10) && x.told(1, 10 + berth) == 4));
        due.of("Promise 5: none such, of OFFICES");
        refusedOutside(0, 5, "share of office", (x, office) -> bit(x.share(1, office)), NO);
        takenAtEnds(0, 5, "share of office", (x, office) -> bit(x.share(1, office) && x.run(1, 10) && x.told(1, 11) == office));
        due.of("Promise 5: RUNS from now on");
        scene = Scene::sold;
        takenFor(new int[] {2, 3}, "office of berth 0 on day", (x, day) -> x.share(0, 4) && x.run(3, 1) ? x.told(day, 10) : NONE, new long[] {0, 4});
    }

    private static void run() {
        scene = Scene::sold;
        due.of("Promise 6: the day is none of these; days 0 .. 59");
        refusedOutside(0, 59, "run of day", (x, day) -> bit(x.run(day, 3)), NO);
        takenAtEnds(1, 59, "run of day", (x, day) -> bit(x.run(day, 3) && x.count(1) == 3 && x.told(day, 0) == 3));
        due.of("Promise 6: there is one; a RUN is told once for a day");
        refused("run of day 2", x -> bit(x.run(2, 4)), NO);
        refused("run of day 4", x -> bit(x.run(4, 3)), NO);
        taken("run of day 3", x -> bit(x.run(3, 3)), YES);
        due.of("Promise 6: another number; 1 .. 10 BERTHS");
        refusedOutside(1, 10, "run with berths", (x, berths) -> bit(x.run(3, berths)), NO);
        takenAtEnds(1, 10, "run with berths", (x, berths) -> bit(x.run(3, berths) && x.told(3, 0) == berths));
    }

    private static void runInTime() {
        due.of("Promise 6: has begun (NOW is its first hour or later)");
        scene = SleepingCars::new;
        refused("run of day 0 at hour 0", x -> bit(x.run(0, 3)), NO);
        scene = () -> at(Scene.sold(), 71);
        taken("run of day 3 at hour 71", x -> bit(x.run(3, 3)), YES);
        scene = () -> at(Scene.sold(), 72);
        refused("run of day 3 at hour 72", x -> bit(x.run(3, 3)), NO);
        refused("run of day 1 at hour 72", x -> bit(x.run(1, 3)), NO);
    }

    private static void sell() {
        scene = Scene::sold;
        due.of("Promise 7: none such, of OFFICES");
        refusedOutside(0, 5, "sell by office", (x, office) -> x.sell(office, 2, 2, 3), NONE);
        taken("sell by office 0", x -> x.sell(0, 2, 2, 3), 5);
        due.of("Promise 7: none such, of RUNS");
        refusedOutside(0, 59, "sell of day", (x, day) -> x.sell(0, day, 0, 1), NONE);
        refused("sell of day 3", x -> x.sell(0, 3, 0, 1), NONE);
        refused("sell of day 5", x -> x.sell(0, 5, 0, 1), NONE);
        taken("sell of day 4", x -> x.sell(0, 4, 0, 1), 5);
        due.of("Promise 7: none such, of STOPS; the stretch is none");
        refusedOutside(0, 2, "sell from stop", (x, from) -> x.sell(0, 4, from, 3), NONE);
        refusedOutside(1, 3, "sell to stop", (x, to) -> x.sell(0, 4, 0, to), NONE);
        refused("sell from 1 to 1", x -> x.sell(0, 4, 1, 1), NONE);
        refused("sell from 2 to 1", x -> x.sell(0, 4, 2, 1), NONE);
        refused("sell from -1 to -1", x -> x.sell(0, 4, -1, -1), NONE);
        refused("sell from 3 to 4", x -> x.sell(0, 4, 3, 4), NONE);
        taken("sell from 0 to 3", x -> x.sell(0, 4, 0, 3), 5);
        taken("sell from 2 to 3", x -> x.sell(0, 4, 2, 3), 5);
        taken("sell from 0 to 1", x -> x.sell(0, 4, 0, 1), 5);
        due.of("Promise 7: no BERTH is free");
        refused("sell over 2 of office 2", x -> x.sell(2, 2, 1, 2), NONE);
        taken("sell of office 1", x -> x.sell(1, 2, 1, 2), 5);
        refused("sell of office 3, which has none", x -> x.sell(3, 2, 0, 1), NONE);
        refused("sell over 0 and 3", x -> x.sell(0, 2, 1, 2), NONE);
        taken("sell ahead of 3", x -> x.sell(0, 2, 0, 1), 5);
        taken("sell behind 0", x -> x.sell(0, 2, 2, 3), 5);
    }

    /** Berth 0 of the run of day 2 is free all along. */
    private static SleepingCars withFreeBerth(int hour) {
        SleepingCars x = Scene.sold();
        due.yes("back", x.back(0));
        return at(x, hour);
    }

    private static void sellInTime() {
        due.of("Promise 7: it is too late: nothing is sold from the hour on in which the RUN leaves that STOP");
        int[] leaves = {48, 53, 73};
        for (int from = 0; from < 3; from++) {
            int stop = from;
            int hour = leaves[from];
            scene = () -> withFreeBerth(hour - 1);
            taken("an hour ahead, from " + stop, x -> x.sell(1, 2, stop, 3), 6);
            scene = () -> withFreeBerth(hour);
            refused("as it leaves, from " + stop, x -> x.sell(1, 2, stop, 3), NONE);
            scene = () -> withFreeBerth(hour + 1);
            refused("an hour behind, from " + stop, x -> x.sell(1, 2, stop, 3), NONE);
        }
    }

    private static void back() {
        scene = Scene::sold;
        due.of("Promise 8: there is none such");
        refusedOutside(0, 4, "back of", (x, ticket) -> bit(x.back(ticket)), NO);
        takenAtEnds(0, 4, "back of", (x, ticket) -> bit(x.back(ticket) && x.ticket(ticket, 5) == 1));
        due.of("Promise 8: it was");
        refused("back of 1 once more", x -> bit(x.back(1)), NO);
        taken("back of 0, and once more", x -> 10 * bit(x.back(0)) + bit(x.back(0)), 10);
    }

    private static void backInTime() {
        due.of("Promise 8: its RUN has left the STOP where it begins");
        int[][] beginsAndLeaves = {{0, 48}, {2, 53}, {3, 53}, {4, 48}};
        for (int[] row : beginsAndLeaves) {
            scene = () -> at(Scene.sold(), row[1] - 1);
            taken("an hour ahead, of " + row[0], x -> bit(x.back(row[0])), YES);
            scene = () -> at(Scene.sold(), row[1]);
            refused("as it leaves, of " + row[0], x -> bit(x.back(row[0])), NO);
        }
    }

    private static void letter() {
        scene = Scene::sold;
        due.of("Promise 9: none such, of either OFFICE");
        refusedOutside(0, 5, "letter from", (x, office) -> x.letter(office, 3, 2, 0, 1), NONE);
        takenFor(new int[] {0, 5}, "letter from", (x, office) -> x.letter(office, 3, 2, 0, 1), new long[] {3, 3});
        refusedOutside(0, 5, "letter to", (x, office) -> x.letter(3, office, 2, 0, 1), NONE);
        takenFor(new int[] {0, 5}, "letter to", (x, office) -> x.letter(3, office, 2, 0, 1), new long[] {3, 3});
        due.of("Promise 9: either OFFICE, which may not be one");
        for (int office = 0; office < 6; office++) {
            int one = office;
            refused("letter to itself, " + one, x -> x.letter(one, one, 2, 0, 1), NONE);
            taken("letter to another one, " + one, x -> x.letter(one, 5 - one, 2, 0, 1), 3);
        }
        due.of("Promise 9: as sell(): none such, of RUNS");
        refusedOutside(0, 59, "letter of day", (x, day) -> x.letter(0, 3, day, 0, 1), NONE);
        refused("letter of day 3", x -> x.letter(0, 3, 3, 0, 1), NONE);
        taken("letter of day 4", x -> x.letter(0, 3, 4, 0, 1), 3);
        due.of("Promise 9: as sell(): none such, of STOPS; the stretch is none");
        refusedOutside(0, 2, "letter from stop", (x, from) -> x.letter(0, 3, 4, from, 3), NONE);
        refusedOutside(1, 3, "letter to stop", (x, to) -> x.letter(0, 3, 4, 0, to), NONE);
        refused("letter from 1 to 1", x -> x.letter(0, 3, 4, 1, 1), NONE);
        refused("letter from 2 to 1", x -> x.letter(0, 3, 4, 2, 1), NONE);
        taken("letter from 0 to 3", x -> x.letter(0, 3, 4, 0, 3), 3);
        taken("letter from 2 to 3", x -> x.letter(0, 3, 4, 2, 3), 3);
        due.of("Promise 9: but for the BERTH");
        refused("sell over 2 of office 2", x -> x.sell(2, 2, 1, 2), NONE);
        taken("letter over 2 to office 2", x -> x.letter(0, 2, 2, 1, 2), 3);
        due.of("Promise 9: but for being too late");
        scene = () -> at(Scene.sold(), 73);
        refused("sell too late", x -> x.sell(1, 2, 2, 3), NONE);
        taken("letter too late", x -> x.letter(0, 1, 2, 2, 3), 3);
    }

    private static void post() {
        scene = Scene::sold;
        due.of("Promise 10: NONE if there is none such");
        refusedOutside(0, 2, "post of", (x, letter) -> x.post(letter, 0), NONE);
        takenFor(new int[] {0, 2}, "post of", (x, letter) -> x.post(letter, 0), new long[] {32, 4});
        due.of("Promise 10: NONE for another what");
        refusedOutside(0, 3, "post what", (x, what) -> x.post(1, what), NONE);
        takenFor(new int[] {0, 1, 2, 3}, "post what", (x, what) -> x.post(1, what), new long[] {9, 15, 1, -2});
        takenFor(new int[] {0, 1, 2, 3}, "post what", (x, what) -> x.post(0, what), new long[] {32, 61, 0, -2});
        takenFor(new int[] {0, 1, 2, 3}, "post what", (x, what) -> x.post(2, what), new long[] {4, 5, 2, NONE});
    }

    private static void hours() {
        scene = Scene::sold;
        due.of("Promise 11: another number; 1 .. 100");
        refusedOutside(1, 100, "hours", (x, n) -> x.hours(n), NONE);
        takenFor(new int[] {1, 100}, "hours", (x, n) -> x.hours(n), new long[] {11, 110});
        due.of("Promise 11: NONE: it would be above 2000");
        scene = () -> at(Scene.sold(), 1950);
        refused("hours 51 at 1950", x -> x.hours(51), NONE);
        refused("hours 100 at 1950", x -> x.hours(100), NONE);
        taken("hours 50 at 1950", x -> x.hours(50), 2000);
        scene = () -> at(Scene.sold(), 2000);
        refused("hours 1 at 2000", x -> x.hours(1), NONE);
        scene = () -> at(Scene.sold(), 1999);
        taken("hours 1 at 1999", x -> x.hours(1), 2000);
        refused("hours 2 at 1999", x -> x.hours(2), NONE);
    }

    private static void moved() {
        scene = Scene::sold;
        due.of("Promise 12: NONE: there is none such");
        refusedOutside(0, 59, "moved of day", (x, day) -> x.moved(day), NONE);
        refused("moved of day 3", x -> x.moved(3), NONE);
        taken("moved of day 2", x -> x.moved(2), 0);
        taken("moved of day 4", x -> x.moved(4), 0);
        taken("moved of day 2 with 0 given back", x -> x.back(0) ? x.moved(2) : NONE, 1);
        due.of("Promise 12: NONE: it has left");
        scene = () -> at(Scene.sold(), 47);
        taken("an hour ahead", x -> x.moved(2) >= 0 ? YES : NO, YES);
        scene = () -> at(Scene.sold(), 48);
        refused("as it leaves", x -> x.moved(2), NONE);
        scene = () -> at(Scene.sold(), 49);
        refused("an hour behind", x -> x.moved(2), NONE);
    }

    private static void wouldFit() {
        scene = Scene::sold;
        due.of("Promise 13: none such, of OFFICES");
        refusedOutside(0, 5, "wouldFit by", (x, office) -> bit(x.wouldFit(office, 2, 2, 3)), NO);
        refused("wouldFit", x -> bit(!x.wouldFit(0, 2, 2, 3)), NO);
        due.of("Promise 13: none such, of RUNS");
        refusedOutside(0, 59, "wouldFit of day", (x, day) -> bit(x.wouldFit(0, day, 0, 1)), NO);
        refused("wouldFit of day 3", x -> bit(x.wouldFit(0, 3, 0, 1)), NO);
        taken("wouldFit of day 4", x -> bit(x.wouldFit(0, 4, 0, 1)), YES);
        due.of("Promise 13: none such, of STOPS; the stretch is none");
        refusedOutside(0, 2, "wouldFit from stop", (x, from) -> bit(x.wouldFit(0, 4, from, 3)), NO);
        refusedOutside(1, 3, "wouldFit to stop", (x, to) -> bit(x.wouldFit(0, 4, 0, to)), NO);
        refused("wouldFit from 1 to 1", x -> bit(x.wouldFit(0, 4, 1, 1)), NO);
        refused("wouldFit from 2 to 1", x -> bit(x.wouldFit(0, 4, 2, 1)), NO);
        taken("wouldFit from 0 to 3", x -> bit(x.wouldFit(0, 4, 0, 3)), YES);
        taken("wouldFit from 2 to 3", x -> bit(x.wouldFit(0, 4, 2, 3)), YES);
        due.of("Promise 13: the RUN has left");
        scene = () -> at(Scene.sold(), 95);
        taken("an hour ahead", x -> bit(x.wouldFit(0, 4, 2, 3)), YES);
        scene = () -> at(Scene.sold(), 96);
        refused("as it leaves", x -> bit(x.wouldFit(0, 4, 2, 3)), NO);
        taken("though it can be sold", x -> x.sell(0, 4, 2, 3), 6);
    }

    private static void ticket() {
        scene = Scene::sold;
        due.of("Promise 14: NONE if there is none such");
        refusedOutside(0, 4, "ticket", (x, ticket) -> x.ticket(ticket, 3), NONE);
        takenFor(new int[] {0, 4}, "ticket", (x, ticket) -> x.ticket(ticket, 3), new long[] {2, 1});
        due.of("Promise 14: NONE for another what");
        refusedOutside(0, 5, "ticket what", (x, what) -> x.ticket(2, what), NONE);
        takenFor(new int[] {0, 1, 2, 3, 4, 5}, "ticket what", (x, what) -> x.ticket(2, what), new long[] {2, 3, 1, 3, 2, 0});
        due.of("Promise 14: 1 if it was given back, else 0");
        taken("ticket 1", x -> x.ticket(1, 5), 1);
        taken("ticket 0", x -> x.ticket(0, 5), 0);
    }

    private static void lies() {
        scene = Scene::sold;
        due.of("Promise 15: -2 if there is none such, of RUNS");
        refusedOutside(0, 59, "lies of day", (x, day) -> x.lies(day, 0, 0), -2);
        refused("lies of day 3", x -> x.lies(3, 0, 0), -2);
        taken("lies of day 2", x -> x.lies(2, 0, 0), 0);
        due.of("Promise 15: -2 if there is none such, of BERTHS");
        refusedOutside(0, 3, "lies in berth", (x, berth) -> x.lies(2, berth, 1), -2);
        takenFor(new int[] {0, 3}, "lies in berth", (x, berth) -> x.lies(2, berth, 1), new long[] {0, 2});
        refused("lies in berth 1 of 1", x -> x.lies(4, 1, 0), -2);
        taken("lies in berth 0 of 1", x -> x.lies(4, 0, 0), NONE);
        due.of("Promise 15: -2 if there is none such, of STOPS where a stretch begins");
        refusedOutside(0, 2, "lies from", (x, stop) -> x.lies(2, 3, stop), -2);
        takenFor(new int[] {0, 1, 2}, "lies from", (x, stop) -> x.lies(2, 3, stop), new long[] {4, 2, 2});
        due.of("Promise 15: NONE if it is free");
        takenFor(new int[] {0, 1, 2}, "lies from", (x, stop) -> x.lies(2, 0, stop), new long[] {0, 0, NONE});
        takenFor(new int[] {0, 1, 2}, "lies from", (x, stop) -> x.lies(2, 2, stop), new long[] {NONE, 3, 3});
        takenFor(new int[] {0, 1, 2}, "given back", (x, stop) -> x.lies(2, 1, stop), new long[] {NONE, NONE, NONE});
    }

    private static void told() {
        scene = Scene::sold;
        due.of("Promise 16: NONE if there is none such");
        refusedOutside(0, 59, "told of day", (x, day) -> x.told(day, 0), NONE);
        refused("told of day 3", x -> x.told(3, 0), NONE);
        takenFor(new int[] {2, 4}, "told of day", (x, day) -> x.told(day, 0), new long[] {4, 1});
        due.of("Promise 16: NONE for another what");
        refusedOutside(0, 5, "told what", (x, what) -> x.told(2, what), NONE);
        takenFor(new int[] {0, 1, 2, 3, 4, 5}, "told what", (x, what) -> x.told(2, what), new long[] {4, 4, 3, 7, 4, 0});
        due.of("Promise 16: 10 .. 19: the OFFICE of BERTH what - 10");
        refusedOutside(10, 13, "told what", (x, what) -> x.told(2, what), NONE);
        takenFor(new int[] {10, 11, 12, 13}, "told what", (x, what) -> x.told(2, what), new long[] {0, 1, 0, 2});
        refused("told what 11 of 1 berth", x -> x.told(4, 11), NONE);
        takenFor(new int[] {19, 20}, "told what", (x, what) -> x.share(9, 5) && x.run(3, 10) ? x.told(3, what) : -9, new long[] {5, NONE});
        due.of("Promise 16: 1 if it has left, else 0");
        scene = () -> at(Scene.sold(), 47);
        taken("an hour ahead", x -> x.told(2, 5), 0);
        scene = () -> at(Scene.sold(), 48);
        taken("as it leaves", x -> x.told(2, 5), 1);
        taken("the next run", x -> x.told(4, 5), 0);
    }

    private static long feedSpaces(SleepingCars x) {
        return x.feed(0x20202020, 0x20202020, 0x20202020, 0x20202020, 0x20202020);
    }

    private static SleepingCars withTape(int size) {
        SleepingCars x = Scene.sold();
        x.end(0);
        Due.feed(x, 0, "flat" + " ".repeat(size - 4));
        return x;
    }

    private static void feed() {
        due.of("Promise 17: NONE, and nothing comes, if there would be more than 400");
        for (int size = 380; size <= 400; size++) {
            int bytes = size;
            scene = () -> withTape(bytes);
            taken("the tape", x -> 2 * x.end(bytes) + (x.end(bytes + 1) == NONE ? 1 : 0), 2 * bytes + 1);
            if (size == 380) {
                taken("feed behind 380", x -> feedSpaces(x), 400);
            } else {
                refused("feed behind " + size, x -> x.feed(0x373b2020, 0, -1, 0, 0), NONE);
            }
        }
        due.of("Promise 17: THE TAPE has at most 400 bytes");
        scene = () -> withTape(380);
        taken("400, then no more", x -> feedSpaces(x) == 400 ? feedSpaces(x) : 0, NONE);
    }

    private static void end() {
        due.of("Promise 18: NONE if it has not so many, or n is below 0");
        scene = Scene::sold;
        refusedOutside(0, 4, "end", (x, n) -> x.end(n), NONE);
        takenFor(new int[] {0, 1, 4}, "end", (x, n) -> x.end(n), new long[] {0, 1, 4});
        takenFor(new int[] {0, 1, 4}, "bytes behind end", (x, n) -> x.end(n) < 0 ? 0 : feedSpaces(x), new long[] {20, 21, 24});
        scene = () -> withTape(400);
        refusedOutside(0, 400, "end", (x, n) -> x.end(n), NONE);
        takenFor(new int[] {0, 400}, "end", (x, n) -> x.end(n), new long[] {0, 400});
        due.of("Promise 18: the tape has its first n bytes alone");
        scene = SleepingCars::new;
        taken("end 3 of 'flat', then 't'", x -> {
            Due.feed(x, 0, "flatter");
            x.end(3);
            Due.feed(x, 3, "t 5;");
            return x.contract();
        }, 1);
        refused("end 1 of a new object", x -> x.end(1), NONE);
        taken("end 0 of a new object", x -> x.end(0), 0);
    }

    private static void contract() {
        due.of("Promise 19: NONE: a FAULT; a refused call changes nothing but the tape, which is empty then");
        scene = Scene::sold;
        taken("contract", x -> x.contract(), NONE);
        taken("its fault", x -> x.contract() == NONE ? 10 * x.fault(0) + x.fault(1) : 0, 14);
        taken("the tape behind a fault", x -> x.contract() == NONE ? feedSpaces(x) : 0, 20);
        taken("the lines behind a fault", x -> x.contract() == NONE ? x.count(5) : 0, 2);
        taken("the cost behind a fault", x -> x.contract() == NONE ? x.cost(2, 0) : 0, 8);
        due.of("Promise 19: how many LINES; the tape is empty then");
        taken("contract", x -> Due.contract(x, "flat 1;free 9;axle 2;"), 3);
        taken("the tape", x -> Due.contract(x, "flat 1;") == 1 ? feedSpaces(x) : 0, 20);
        taken("the lines", x -> Due.contract(x, "flat 1;") == 1 ? x.count(5) : 0, 1);
        taken("the cost", x -> Due.contract(x, "flat 1;") == 1 ? x.cost(2, 0) : 0, 1);
        taken("contract of an empty tape", x -> x.end(0) + x.contract(), 0);
        taken("the cost then", x -> x.end(0) + x.contract() + x.cost(2, NONE), 0);
        due.of("A refused call changes nothing but the tape");
        SleepingCars x = Scene.sold();
        x.contract();
        Due.contract(x, "flat 12345;");
        Due.feed(x, 0, "flat");
        due.yes("nothing else changed by a fault", Scene.looks(x).equals(Scene.looks(Scene.sold())));
    }

    private static void fault() {
        scene = Scene::sold;
        due.of("Promise 20: NONE for another what");
        refusedOutside(0, 1, "fault what", (x, what) -> x.fault(what), NONE);
        takenFor(new int[] {0, 1}, "fault what", (x, what) -> x.fault(what), new long[] {1, 5});
        due.of("Promise 20: 0 without, NONE without");
        takenFor(new int[] {0, 1}, "fault what", (x, what) -> Due.contract(x, "flat 1234;") + x.fault(what), new long[] {1, 0});
        due.of("Promise 20: of the latest contract()");
        takenFor(new int[] {0, 1}, "fault what", (x, what) -> Due.contract(x, " ;") + x.fault(what), new long[] {0, 0});
        scene = SleepingCars::new;
        takenFor(new int[] {0, 1}, "fault what of a new object", (x, what) -> x.fault(what), new long[] {0, NONE});
    }

    private static void cost() {
        scene = Scene::sold;
        due.of("Promise 21: 0 if there is none such, of RUNS");
        refusedOutside(0, 59, "cost of day", (x, day) -> x.cost(day, 0), 0);
        refusedOutside(0, 59, "cost of day", (x, day) -> x.cost(day, NONE), 0);
        refused("cost of day 3", x -> x.cost(3, NONE), 0);
        takenFor(new int[] {2, 4}, "cost of day", (x, day) -> x.cost(day, 0), new long[] {8, 2});
        due.of("Promise 21: 0 if there is none such, of STOPS where a stretch begins");
        refusedOutside(-1, 2, "cost from", (x, stop) -> x.cost(2, stop), 0);
        takenFor(new int[] {0, 1, 2}, "cost from", (x, stop) -> x.cost(2, stop), new long[] {8, 11, 8});
        due.of("Promise 21: (stop NONE) all together");
        taken("cost of all", x -> x.cost(2, -1), 27);
    }

    private static void cars() {
        scene = Scene::sold;
        due.of("Promise 22: a REST of 0 .. 48 hours; NONE for another REST");
        refusedOutside(0, 48, "cars with rest", (x, rest) -> x.cars(7, rest), NONE);
        takenFor(new int[] {0, 48}, "cars with rest", (x, rest) -> x.cars(7, rest), new long[] {3, 3});
        due.of("Promise 22: NONE for a set below 0");
        refused("cars of -1", x -> x.cars(-1, 0), NONE);
        refused("cars of the lowest set", x -> x.cars(FAR[0], 0), NONE);
        taken("cars of no day", x -> x.cars(0, 0), 0);
        taken("cars of day 0", x -> x.cars(1, 0), 1);
        due.of("Promise 22: bits: day k, 0 .. 29");
        taken("cars of day 29", x -> x.cars(1 << 29, 0), 1);
        taken("cars of bit 30", x -> x.cars(1 << 30, 0), 0);
        taken("cars of all bits", x -> x.cars(FAR[1], 0), 3);
    }

    private static void count() {
        scene = Scene::sold;
        due.of("Promise 23: NONE for another what");
        refusedOutside(0, 7, "count", (x, what) -> x.count(what), NONE);
        takenFor(new int[] {0, 1, 2, 3, 4, 5, 6, 7}, "count", (x, what) -> x.count(what), new long[] {4, 2, 5, 3, 10, 2, 28, 600});
    }

    private static void image() {
        scene = Scene::sold;
        due.of("Promise 24: false for another k");
        refusedOutside(0, 2, "image", (x, k) -> bit(x.image(k)), NO);
        takenFor(new int[] {0, 1, 2}, "image", (x, k) -> x.image(k) && x.hours(1) == 11 && x.again(k) ? x.count(4) : NONE, new long[] {10, 10, 10});
    }

    private static void again() {
        scene = Scene::sold;
        due.of("Promise 25: false if there is none such");
        refusedOutside(0, 2, "again", (x, k) -> bit(x.again(k)), NO);
        refused("again of an image that was not made", x -> bit(x.again(2)), NO);
        takenFor(new int[] {0, 1}, "hour of image", (x, k) -> x.again(k) ? x.count(4) : NONE, new long[] {0, 10});
        taken("an image that was made just now", x -> bit(x.image(2) && x.again(2)), YES);
        scene = SleepingCars::new;
        for (int k = 0; k < 3; k++) {
            int image = k;
            due.of("Promise 1: no images");
            refused("again " + k + " of a new object", x -> bit(x.again(image)), NO);
        }
    }
}
