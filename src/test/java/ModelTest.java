import java.util.ArrayList;
import java.util.Collections;
import java.util.List;

/** Long runs of mixed calls, each answer held against the model's; none goes beyond the calls that are promised. */
final class ModelTest {
    private static final int RUNS = 2000;
    private static final int CALLS = 512;
    private static final int MOST_CALLS_OF_A_STEP = 90;
    private static final Due due = new Due("ModelTest");

    private long seed;
    private int unlikeLetters;
    private int longestPatch;
    private int calls;
    private SeamReadings x;
    private Model model;

    public static void main(String[] arguments) {
        for (int run = 0; run < RUNS && due.isRight(); run++) {
            new ModelTest().run(run);
        }
        due.end();
    }

    private int pick(int below) {
        seed = seed * 6364136223846793005L + 1442695040888963407L;
        return (int) Long.remainderUnsigned((seed ^ seed >>> 29) >>> 17, below);
    }

    private void run(int run) {
        seed = run * 7919L + 17;
        unlikeLetters = new int[] {1, 2, 2, 3, 4, 26}[run % 6];
        longestPatch = new int[] {2, 4, 12, 12, 7}[run % 5];
        x = new SeamReadings();
        model = new Model();
        while (calls + MOST_CALLS_OF_A_STEP <= CALLS && due.isRight()) {
            step("run " + run + ", call " + calls + ": ");
        }
        while (calls < CALLS && due.isRight()) {
            callAsking("run " + run + ", call " + calls + ": ");
        }
    }

    private void step(String at) {
        if (pick(4) == 0) {
            callTexts(at);
        } else if (pick(2) == 0) {
            callChange(at);
            lookAtPatch(at);
        } else {
            callAsking(at);
        }
    }

    private void same(String call, int got, int want) {
        calls++;
        due.is(call, got, want);
    }

    /** Mostly a number that there is, sometimes one beside it, seldom one far away. */
    private int number(int there) {
        int kind = pick(40);
        if (kind == 0) {
            return new int[] {Integer.MIN_VALUE, Integer.MAX_VALUE, Integer.MIN_VALUE + 1, 65536, -7}[pick(5)];
        }
        if (kind < 4) {
            return new int[] {-1, there, there + 1}[pick(3)];
        }
        return pick(Math.max(1, there));
    }

    private int someScroll() {
        return number(model.scrolls().size());
    }

    private int somePatch(int scroll) {
        List<List<String>> all = model.scrolls();
        return number(scroll >= 0 && scroll < all.size() ? all.get(scroll).size() : 2);
    }

    private int someSeam(int scroll) {
        List<List<String>> all = model.scrolls();
        return number(scroll >= 0 && scroll < all.size() ? all.get(scroll).size() - 1 : 2);
    }

    private int somePlace(int scroll, int patch) {
        int letters = Math.max(0, model.patch(scroll, patch));
        return number(letters);
    }

    private String letters(int most) {
        StringBuilder text = new StringBuilder();
        int many = 1 + pick(most);
        for (int i = 0; i < many; i++) {
            text.append((char) ('a' + pick(unlikeLetters)));
        }
        String half = text.toString();
        return pick(4) == 0 && half.length() * 2 <= most ? half + text.reverse() : half;
    }

    /** A scroll that is almost one of those on the shelf, so that many pairs share some of their readings. */
    private String kinText() {
        List<String> patches = new ArrayList<>(model.scrolls().get(pick(model.scrolls().size())));
        for (int i = pick(3); i >= 0; i--) {
            int patch = pick(patches.size());
            String letters = patches.get(patch);
            int kind = pick(5);
            if (kind == 0) {
                patches.set(patch, new StringBuilder(letters).reverse().toString());
            } else if (kind == 1) {
                Collections.reverse(patches);
            } else if (kind == 2 && patch > 0 && letters.length() + patches.get(patch - 1).length() <= 12) {
                patches.set(patch - 1, patches.get(patch - 1) + patches.remove(patch));
            } else if (letters.length() > 1 && patches.size() < 5) {
                int place = 1 + pick(letters.length() - 1);
                patches.set(patch, letters.substring(place));
                patches.add(patch, letters.substring(0, place));
            }
        }
        return String.join("|", patches);
    }

    private String someText() {
        if (pick(2) == 0 && !model.scrolls().isEmpty()) {
            return kinText();
        }
        StringBuilder text = new StringBuilder();
        int scrolls = 1 + pick(pick(3) == 0 ? 3 : 1);
        for (int i = 0; i < scrolls; i++) {
            int patches = 1 + pick(pick(6) == 0 ? 6 : 4);
            String patch = letters(longestPatch);
            for (int j = 0; j < patches; j++) {
                text.append(j > 0 ? "|" : i > 0 ? ";" : "").append(patch);
                patch = pick(3) == 0 ? patch : letters(longestPatch);
            }
        }
        if (pick(8) == 0) {
            int place = pick(text.length());
            text.setCharAt(place, "|;A{`z!~".charAt(pick(8)));
        }
        if (pick(12) == 0) {
            text.append("|;a".charAt(pick(3)));
        }
        text.setLength(Math.min(text.length(), 66));
        return text.toString();
    }

    private void put(String at, long characters) {
        same(at + "put(" + characters + ")", x.put(characters), model.put(characters));
    }

    private void putText(String at, String text) {
        for (int i = 0; i < text.length(); ) {
            int end = Math.min(text.length(), i + 1 + pick(8));
            put(at, Due.packed(text.substring(i, end)));
            i = end;
        }
    }

    private void callTexts(String at) {
        int kind = pick(10);
        if (kind < 5) {
            if (pick(2) == 0) {
                same(at + "wipe()", x.wipe(), model.wipe());
            }
            putText(at, someText());
            same(at + "fault() of " + model.pad(), x.fault(), model.fault());
            same(at + "sew() of " + model.pad(), x.sew(), model.sew());
        } else if (kind < 7) {
            same(at + "wipe()", x.wipe(), model.wipe());
            putText(at, letters(pick(3) == 0 ? 14 : 3));
        } else if (kind == 7) {
            long wild = 0;
            for (int i = 0; i < 8; i++) {
                wild = wild << 8 | new int[] {0, 0, 32, 33, 97, 122, 126, 127, 128, 255}[pick(10)];
            }
            put(at, wild);
        } else if (kind == 8) {
            same(at + "wipe()", x.wipe(), model.wipe());
        } else {
            same(at + "fault() of " + model.pad(), x.fault(), model.fault());
        }
    }

    private void callChange(String at) {
        int scroll = someScroll();
        int patch = somePatch(scroll);
        int seam = someSeam(scroll);
        int place = somePlace(scroll, patch);
        int other = someScroll();
        String on = "(" + scroll + ", ";
        switch (pick(16)) {
            case 0:
                same(at + "burn" + on, x.burn(scroll), model.burn(scroll));
                break;
            case 1: case 2: case 3:
                same(at + "cut" + on + patch + ", " + place, x.cut(scroll, patch, place), model.cut(scroll, patch, place));
                break;
            case 4: case 5: case 6:
                same(at + "undoSeam" + on + seam, x.undoSeam(scroll, seam), model.undoSeam(scroll, seam));
                break;
            case 7: case 8:
                same(at + "turn" + on + patch, x.turn(scroll, patch), model.turn(scroll, patch));
                break;
            case 9: case 10:
                same(at + "exchange" + on + seam, x.exchange(scroll, seam), model.exchange(scroll, seam));
                break;
            case 11: case 12:
                same(at + "join" + on + other, x.join(scroll, other), model.join(scroll, other));
                break;
            case 13:
                same(at + "undo()", x.undo(), model.undo());
                break;
            case 14:
                int kept = number(2);
                same(at + "save(" + kept, x.save(kept), model.save(kept));
                break;
            default:
                int slot = number(2);
                same(at + "restore(" + slot, x.restore(slot), model.restore(slot));
                break;
        }
    }

    private void callAsking(String at) {
        int scroll = someScroll();
        int patch = somePatch(scroll);
        int place = somePlace(scroll, patch);
        int other = someScroll();
        int what = number(7);
        String on = "(" + scroll + ", ";
        switch (pick(12)) {
            case 0: case 1:
                same(at + "scroll" + on + what, x.scroll(scroll, what), model.scroll(scroll, what));
                break;
            case 2:
                same(at + "patch" + on + patch, x.patch(scroll, patch), model.patch(scroll, patch));
                break;
            case 3:
                same(at + "letter" + on + patch + ", " + place, x.letter(scroll, patch, place), model.letter(scroll, patch, place));
                break;
            case 4: case 5:
                int reading = number(Math.max(1, model.scroll(scroll, 2)));
                int letter = number(Math.max(1, model.scroll(scroll, 1)));
                same(at + "reading" + on + reading + ", " + letter, x.reading(scroll, reading, letter), model.reading(scroll, reading, letter));
                break;
            case 6: case 7:
                what = number(4);
                same(at + "find" + on + what + ") of " + model.pad(), x.find(scroll, what), model.find(scroll, what));
                break;
            case 8:
                same(at + "shared" + on + other, x.shared(scroll, other), model.shared(scroll, other));
                break;
            case 9:
                same(at + "compare" + on + other, x.compare(scroll, other), model.compare(scroll, other));
                break;
            case 10:
                same(at + "ifCut" + on + patch + ", " + place, x.ifCut(scroll, patch, place), model.ifCut(scroll, patch, place));
                break;
            default:
                if (pick(2) == 0) {
                    same(at + "count(" + what, x.count(what), model.count(what));
                } else {
                    what = number(3);
                    same(at + "bestCut" + on + what, x.bestCut(scroll, what), model.bestCut(scroll, what));
                }
                break;
        }
    }

    private void lookAtPatch(String at) {
        int scroll = someScroll();
        int patch = somePatch(scroll);
        int letters = model.patch(scroll, patch);
        same(at + "patch(" + scroll + ", " + patch, x.patch(scroll, patch), letters);
        for (int place = 0; place < letters; place++) {
            same(at + "letter(" + scroll + ", " + patch + ", " + place, x.letter(scroll, patch, place), model.letter(scroll, patch, place));
        }
    }
}
