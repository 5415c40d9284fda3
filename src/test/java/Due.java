/** Counts the answers that are not as due; each test of the project ends with close(). */
final class Due {
    private final String test;
    private String sentence = "";
    private int right = 0;
    private int wrong = 0;

    Due(String test) {
        this.test = test;
    }

    /** The sentence of the document that is broken if one of the next answers is not as due. */
    void of(String words) {
        sentence = " [" + words + "]";
    }

    void same(String call, long got, long want) {
        if (got == want) {
            right++;
            return;
        }
        wrong++;
        System.out.println(test + sentence + ": " + call + " answered " + got + ", due is " + want);
    }

    void yes(String call, boolean got) {
        same(call, got ? 1 : 0, 1);
    }

    void no(String call, boolean got) {
        same(call, got ? 1 : 0, 0);
    }

    int wrong() {
        return wrong;
    }

    void close() {
        System.out.println(test + ": " + right + " answers as due, " + wrong + " not");
        if (wrong != 0) {
            System.exit(1);
        }
    }

    /** Puts a text of bytes 0 to 255 behind the tape, which has so many bytes by now. */
    static int feed(SleepingCars cars, int before, String text) {
        int[] numbers = new int[5];
        for (int at = 0; at < text.length(); at += 20) {
            for (int i = 0; i < 20; i++) {
                int b = at + i < text.length() ? text.charAt(at + i) : ' ';
                numbers[i / 4] = numbers[i / 4] << 8 | b;
            }
            cars.feed(numbers[0], numbers[1], numbers[2], numbers[3], numbers[4]);
        }
        return cars.end(before + text.length());
    }

    static int contract(SleepingCars cars, String text) {
        cars.end(0);
        feed(cars, 0, text);
        return cars.contract();
    }
}
