/** What the tests of the project share: answers that are due, and texts as numbers. */
final class Due {
    private final String test;
    private int looked = 0;
    private int wrong = 0;

    Due(String test) {
        this.test = test;
    }

    void is(String call, long got, long want) {
        looked++;
        if (got != want) {
            wrong++;
            if (wrong <= 40) {
                System.out.println(test + ": " + call + " answered " + got + ", due is " + want);
            }
        }
    }

    int looked() {
        return looked;
    }

    boolean isRight() {
        return wrong == 0;
    }

    void end() {
        System.out.println(test + ": " + looked + " looked at, " + wrong + " wrong");
        if (wrong != 0 || looked == 0) {
            System.exit(1);
        }
    }

    /** Up to 8 characters as the number that put takes. */
    static long packed(String characters) {
        long number = 0;
        for (char character : characters.toCharArray()) {
            number = number << 8 | character;
        }
        return number;
    }

    static int putAll(SeamReadings x, String text) {
        int last = 0;
        for (int i = 0; i < text.length(); i += 8) {
            last = x.put(packed(text.substring(i, Math.min(text.length(), i + 8))));
        }
        return last;
    }

    /** A new object with the scrolls of a text. */
    static SeamReadings shelf(String text) {
        SeamReadings x = new SeamReadings();
        putAll(x, text);
        x.sew();
        return x;
    }

    /** A scroll as the text that it would be sewn from. */
    static String scroll(SeamReadings x, int scroll) {
        StringBuilder text = new StringBuilder();
        for (int patch = 0; patch < 6 && x.patch(scroll, patch) >= 0; patch++) {
            if (patch > 0) {
                text.append('|');
            }
            for (int place = 0; place < x.patch(scroll, patch); place++) {
                text.append((char) ('a' + x.letter(scroll, patch, place)));
            }
        }
        return text.toString();
    }

    static String reading(SeamReadings x, int scroll, int reading) {
        StringBuilder text = new StringBuilder();
        for (int place = 0; place < 61 && x.reading(scroll, reading, place) >= 0; place++) {
            text.append((char) ('a' + x.reading(scroll, reading, place)));
        }
        return text.toString();
    }

    void text(String call, String got, String want) {
        looked++;
        if (!got.equals(want)) {
            wrong++;
            System.out.println(test + ": " + call + " answered " + got + ", due is " + want);
        }
    }
}
