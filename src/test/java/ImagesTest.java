import java.util.function.Consumer;
import java.util.function.Supplier;

/** Promises 24 and 25: each row that an image has, and the tape and the FAULT, which it has not. */
public final class ImagesTest {
    private static final Due due = new Due("ImagesTest");
    private static final int NONE = SleepingCars.NONE;

    public static void main(String[] args) {
        withoutRuns();
        withRuns();
        withAllAnother();
        fromAnEmptyBook();
        withoutTheTape();
        withoutTheFault();
        imagesStay();
        imagesAreApart();
        imagesOfNow();
        due.close();
    }

    /** All is as if the change had not been: the image was made ahead of it. */
    private static void undone(String change, Supplier<SleepingCars> scene, Consumer<SleepingCars> calls) {
        SleepingCars x = scene.get();
        due.yes("image", x.image(2));
        calls.accept(x);
        due.yes("again behind " + change, x.again(2));
        SleepingCars y = scene.get();
        due.yes("image", y.image(2));
        due.yes("as it was ahead of " + change, Scene.looks(x).equals(Scene.looks(y)));
    }

    private static void withoutRuns() {
        due.of("Promise 24: all that is told");
        undone("line", Scene::laid, x -> x.line(6));
        undone("the same line anew", Scene::laid, x -> x.line(4));
        undone("km", Scene::laid, x -> x.stretch(2, 5, 3));
        undone("hours", Scene::laid, x -> x.stretch(1, 200, 9));
        undone("office", Scene::laid, x -> x.office(1, 0));
        undone("share", Scene::laid, x -> x.share(9, 3));
        undone("run", Scene::laid, x -> x.run(2, 4));
        undone("hours", Scene::laid, x -> x.hours(1));
    }

    private static void withRuns() {
        due.of("Promise 24: all that is told");
        undone("nothing", Scene::sold, x -> { });
        undone("share", Scene::sold, x -> x.share(0, 3));
        undone("run", Scene::sold, x -> x.run(3, 3));
        undone("sell", Scene::sold, x -> x.sell(0, 4, 0, 3));
        undone("back", Scene::sold, x -> x.back(0));
        undone("letter", Scene::sold, x -> x.letter(0, 4, 2, 0, 1));
        undone("hours", Scene::sold, x -> x.hours(100));
        undone("moved", Scene::sold, x -> {
            x.back(0);
            due.same("moved", x.moved(2), 1);
        });
        undone("sell behind back", Scene::sold, x -> {
            x.back(4);
            x.back(2);
            due.same("sold", x.sell(2, 2, 0, 3), 5);
        });
    }

    /** A book with other numbers in each row, and more of them. */
    private static void fill(SleepingCars x) {
        x.again(0);
        x.line(10);
        for (int i = 0; i < 9; i++) {
            x.stretch(i, 11 + i, 2 + i);
            x.office(i, 9 - i);
            x.share(i, i % 6);
        }
        for (int day = 1; day <= 5; day++) {
            x.run(day, 10);
        }
        for (int i = 0; i < 12; i++) {
            x.sell(i % 6, 1 + i % 5, i % 5, 6);
            x.letter(i % 6, (i + 1) % 6, 1 + i % 5, i % 4, 9);
        }
        for (int i = 0; i < 12; i += 2) {
            x.back(i);
        }
        x.hours(20);
    }

    private static void withAllAnother() {
        due.of("Promise 25: all that is as image k has it");
        undone("all", Scene::sold, ImagesTest::fill);
        undone("all", Scene::laid, ImagesTest::fill);
        due.of("Promise 24: all that is told: the CONTRACT");
        SleepingCars x = Scene.sold();
        x.image(2);
        due.same("contract", Due.contract(x, "when stop=0 and not km<3:axle 4;free 5;flat 6;"), 3);
        due.same("lines", x.count(5), 3);
        due.yes("again", x.again(2));
        due.same("lines", x.count(5), 2);
        long[] costs = {8, 11, 8};
        for (int stop = 0; stop < 3; stop++) {
            due.same("cost from " + stop, x.cost(2, stop), costs[stop]);
        }
    }

    /** What is sold behind again() is new, whatever stood at that number. */
    private static void fromAnEmptyBook() {
        due.of("Promise 25: all that is as image k has it: a new object's");
        SleepingCars x = new SleepingCars();
        due.yes("image", x.image(1));
        fill(x);
        due.yes("again", x.again(1));
        int[] counts = {2, 0, 0, 0, 0, 0, 1, 1};
        for (int what = 0; what < counts.length; what++) {
            due.same("count " + what, x.count(what), counts[what]);
        }
        due.same("no ticket", x.ticket(0, 0), NONE);
        due.same("no letter", x.post(0, 0), NONE);
        due.same("no run", x.told(1, 0), NONE);
        due.yes("run", x.run(1, 3));
        due.same("nobody", x.lies(1, 0, 0), NONE);
        due.same("nothing sold", x.told(1, 3), 0);
        for (int berth = 0; berth < 3; berth++) {
            due.same("office of berth " + berth, x.told(1, 10 + berth), 0);
        }
        due.same("sell", x.sell(0, 1, 0, 1), 0);
        int[] ticket = {1, 0, 0, 1, 0, 0};
        for (int what = 0; what < ticket.length; what++) {
            due.same("ticket, " + what, x.ticket(0, what), ticket[what]);
        }
        due.same("letter", x.letter(4, 0, 1, 0, 1), 0);
        int[] post = {1, 2, 0, -2};
        for (int what = 0; what < post.length; what++) {
            due.same("post, " + what, x.post(0, what), post[what]);
        }
        x.hours(2);
        due.same("ticket of the letter", x.post(0, 3), 1);
    }

    private static void withoutTheTape() {
        due.of("Promise 24: all that is told but the tape");
        SleepingCars x = new SleepingCars();
        Due.feed(x, 0, "flat");
        x.image(0);
        Due.feed(x, 4, " 1;");
        due.yes("again", x.again(0));
        due.same("7 bytes", x.end(8), NONE);
        due.same("7 bytes", x.end(7), 7);
        due.same("contract", x.contract(), 1);
        due.yes("again", x.again(0));
        due.same("lines", x.count(5), 0);
        due.same("the tape is empty", x.end(1), NONE);
    }

    private static void withoutTheFault() {
        due.of("Promise 24: all that is told but the FAULT");
        SleepingCars x = new SleepingCars();
        x.image(0);
        Due.contract(x, "flat 1;#");
        x.image(1);
        due.yes("again", x.again(0));
        due.same("the fault stays", x.fault(0), 1);
        due.same("its place stays", x.fault(1), 7);
        Due.contract(x, "flat 1;");
        due.yes("again", x.again(1));
        due.same("no fault", x.fault(0), 0);
        due.same("no place", x.fault(1), NONE);
    }

    private static void imagesStay() {
        due.of("Promise 25: again and again");
        SleepingCars x = Scene.sold();
        x.image(2);
        for (int i = 0; i < 3; i++) {
            due.same("sell", x.sell(0, 4, i, i + 1), 5);
            due.yes("back", x.back(0));
            due.same("hours", x.hours(50), 60);
            due.yes("again", x.again(2));
            due.same("now", x.count(4), 10);
            due.same("tickets", x.count(2), 5);
            due.same("not given back", x.ticket(0, 5), 0);
        }
        due.yes("an earlier one", x.again(0));
        due.yes("a later one", x.again(2));
        due.same("now", x.count(4), 10);
    }

    private static void imagesAreApart() {
        due.of("Promise 24: image k (0 .. 2)");
        SleepingCars x = new SleepingCars();
        for (int k = 0; k < 3; k++) {
            x.hours(1);
            due.yes("image", x.image(k));
        }
        for (int k = 2; k >= 0; k--) {
            due.yes("again", x.again(k));
            due.same("now of image " + k, x.count(4), k + 1);
        }
    }

    private static void imagesOfNow() {
        due.of("Promise 24: as it is now");
        SleepingCars x = new SleepingCars();
        due.yes("image", x.image(1));
        x.hours(5);
        due.yes("image anew", x.image(1));
        x.hours(6);
        due.yes("again", x.again(1));
        due.same("now", x.count(4), 5);
    }
}
