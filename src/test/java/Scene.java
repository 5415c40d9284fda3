import java.util.ArrayList;
import java.util.List;

/** Objects in states where each row that a call could change is another one than in a new object. */
final class Scene {
    private Scene() {
    }

    /**
     * Four stops (5, 20 and 3 hours apart), offices 1 and 2 at stops 3 and 1, berths 1 and 3 on
     * their charts, two lines, hour 3, image 0, and 'flat' on the tape; no runs.
     */
    static SleepingCars laid() {
        SleepingCars x = new SleepingCars();
        x.line(4);
        x.stretch(0, 100, 5);
        x.stretch(1, 200, 20);
        x.stretch(2, 300, 3);
        x.office(1, 3);
        x.office(2, 1);
        x.share(1, 1);
        x.share(3, 2);
        Due.contract(x, "when sold>0:berth 3;flat 2;");
        x.image(0);
        x.hours(3);
        Due.feed(x, 0, "flat");
        return x;
    }

    /**
     * Runs on days 2 (4 berths) and 4 (1 berth); tickets 0 to 4, of which 1 was given back; letter 0
     * is under way, 1 is dealt with, 2 is answered; hour 10, image 1, and a fault 1 at place 5.
     */
    static SleepingCars sold() {
        SleepingCars x = laid();
        x.run(2, 4);
        x.run(4, 1);
        x.sell(0, 2, 0, 2);
        x.sell(1, 2, 0, 3);
        x.sell(2, 2, 1, 3);
        x.sell(0, 2, 1, 3);
        x.back(1);
        x.letter(0, 1, 2, 1, 2);
        x.letter(0, 2, 2, 0, 1);
        x.letter(0, 3, 4, 0, 1);
        x.hours(7);
        x.image(1);
        Due.contract(x, "flat 12345;");
        Due.feed(x, 0, "flat");
        return x;
    }

    /** All that can be seen of an object; it is another one then, and some 290 calls older. */
    static List<Long> looks(SleepingCars x) {
        List<Long> seen = new ArrayList<>();
        seen.add((long) x.fault(0));
        seen.add((long) x.fault(1));
        lookAtCounts(x, seen);
        lookAtTickets(x, seen);
        for (int day = 1; day <= 4; day++) {
            lookAtRun(x, day, seen);
        }
        lookAtLine(x, seen);
        lookAtTape(x, seen);
        for (int k = 0; k < 3; k++) {
            seen.add(x.again(k) ? 1L : 0L);
            lookAtCounts(x, seen);
        }
        return seen;
    }

    private static void lookAtCounts(SleepingCars x, List<Long> seen) {
        for (int what = 0; what < 8; what++) {
            seen.add((long) x.count(what));
        }
    }

    private static void lookAtTickets(SleepingCars x, List<Long> seen) {
        for (int ticket = 0; ticket < 6; ticket++) {
            for (int what = 0; what < 6; what++) {
                seen.add((long) x.ticket(ticket, what));
            }
        }
        for (int letter = 0; letter < 4; letter++) {
            for (int what = 0; what < 4; what++) {
                seen.add((long) x.post(letter, what));
            }
        }
    }

    private static void lookAtRun(SleepingCars x, int day, List<Long> seen) {
        for (int what = 0; what < 6; what++) {
            seen.add((long) x.told(day, what));
            seen.add((long) x.told(day, 10 + what));
        }
        for (int berth = 0; berth < 4; berth++) {
            for (int stop = 0; stop < 3; stop++) {
                seen.add((long) x.lies(day, berth, stop));
            }
        }
        for (int stop = -1; stop < 3; stop++) {
            seen.add(x.cost(day, stop));
        }
    }

    /** Shares are seen from the next run, offices' stops from how long letters go. */
    private static void lookAtLine(SleepingCars x, List<Long> seen) {
        x.run(20, 10);
        for (int berth = 0; berth < 10; berth++) {
            seen.add((long) x.told(20, 10 + berth));
        }
        for (int office = 1; office < 6; office++) {
            seen.add((long) x.post(x.letter(0, office, 20, 0, 1), 0));
        }
        seen.add((long) x.post(x.letter(1, 0, 20, 0, 1), 0));
        for (int stop = 0; stop < 3; stop++) {
            seen.add(x.cost(20, stop));
        }
        seen.add((long) x.cars(0x3fffffff, 10));
        // The letters that were under way are dealt with then.
        seen.add((long) x.hours(60));
        lookAtTickets(x, seen);
    }

    /** With another number behind it 'flat' is a line, and nothing else that may be there. */
    private static void lookAtTape(SleepingCars x, List<Long> seen) {
        seen.add((long) x.feed(0x20373b20, 0x20202020, 0x20202020, 0x20202020, 0x20202020));
        seen.add((long) x.contract());
        seen.add(x.cost(20, 0));
        seen.add((long) x.fault(1));
    }
}
