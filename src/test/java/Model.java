import java.util.ArrayDeque;
import java.util.ArrayList;
import java.util.Deque;
import java.util.List;
import java.util.Set;
import java.util.TreeSet;

/** The document told a second time, with texts and sets, as plainly as it goes: the class is held against it. */
final class Model {
    private static final int NO_SUCH = -1, BAD_VALUE = -2, BAD_TEXT = -3, TOO_MANY = -4, NOT_POSSIBLE = -5, NONE = -6;

    private List<List<String>> scrolls = new ArrayList<>();
    private String pad = "";
    private final Deque<List<List<String>>> history = new ArrayDeque<>();
    private final List<List<List<String>>> slots = new ArrayList<>(List.of(new ArrayList<>(), new ArrayList<>()));
    private final boolean[] saved = new boolean[2];

    private static String reversed(String text) {
        return new StringBuilder(text).reverse().toString();
    }

    private static List<List<String>> copy(List<List<String>> scrolls) {
        List<List<String>> copied = new ArrayList<>();
        for (List<String> scroll : scrolls) {
            copied.add(new ArrayList<>(scroll));
        }
        return copied;
    }

    private void record() {
        history.addLast(copy(scrolls));
        if (history.size() > 6) {
            history.removeFirst();
        }
    }

    private boolean no(int scroll) {
        return scroll < 0 || scroll >= scrolls.size();
    }

    private boolean no(int scroll, int patch) {
        return no(scroll) || patch < 0 || patch >= scrolls.get(scroll).size();
    }

    private boolean noSeam(int scroll, int seam) {
        return no(scroll) || seam < 0 || seam >= scrolls.get(scroll).size() - 1;
    }

    private static void fromFirst(List<String> patches, int next, String told, Set<String> all) {
        if (next == patches.size()) {
            all.add(told);
            return;
        }
        fromFirst(patches, next + 1, told + patches.get(next), all);
        fromFirst(patches, next + 1, told + reversed(patches.get(next)), all);
    }

    private static TreeSet<String> fromFirst(List<String> patches) {
        TreeSet<String> all = new TreeSet<>();
        fromFirst(patches, 0, "", all);
        return all;
    }

    private static TreeSet<String> readings(List<String> patches) {
        List<String> fromOtherEnd = new ArrayList<>(patches);
        java.util.Collections.reverse(fromOtherEnd);
        TreeSet<String> all = fromFirst(patches);
        all.addAll(fromFirst(fromOtherEnd));
        return all;
    }

    private static List<String> cutPatches(List<String> patches, int patch, int place) {
        List<String> changed = new ArrayList<>(patches);
        String whole = changed.remove(patch);
        changed.add(patch, whole.substring(place));
        changed.add(patch, whole.substring(0, place));
        return changed;
    }

    private static List<String> withoutSeam(List<String> patches, int seam) {
        List<String> changed = new ArrayList<>(patches);
        String behind = changed.remove(seam + 1);
        changed.set(seam, changed.get(seam) + behind);
        return changed;
    }

    private static int letters(List<String> patches) {
        return String.join("", patches).length();
    }

    /** Tries each beginning of the pad: the fault is behind the longest one that some text goes on from. */
    int fault() {
        for (int end = 1; end <= pad.length(); end++) {
            if (!canGoOn(pad.substring(0, end))) {
                return end - 1;
            }
        }
        return pad.matches("[a-z]+([|;][a-z]+)*") ? NONE : pad.length();
    }

    private static boolean canGoOn(String beginning) {
        if (!beginning.matches("([a-z]+([|;][a-z]+)*[|;]?)?")) {
            return false;
        }
        String[] parts = beginning.split(";", -1);
        if (parts.length > 5) {
            return false;
        }
        for (String part : parts) {
            String[] patches = part.split("\\|", -1);
            if (patches.length > 5) {
                return false;
            }
            for (String patch : patches) {
                if (patch.length() > 12) {
                    return false;
                }
            }
        }
        return true;
    }

    int sew() {
        if (fault() != NONE) {
            return BAD_TEXT;
        }
        String[] parts = pad.split(";");
        if (scrolls.size() + parts.length > 5) {
            return TOO_MANY;
        }
        record();
        for (String part : parts) {
            scrolls.add(new ArrayList<>(List.of(part.split("\\|"))));
        }
        pad = "";
        return scrolls.size();
    }

    int burn(int scroll) {
        if (no(scroll)) {
            return NO_SUCH;
        }
        record();
        return letters(scrolls.remove(scroll));
    }

    int cut(int scroll, int patch, int place) {
        if (no(scroll, patch)) {
            return NO_SUCH;
        }
        if (place < 1 || place > scrolls.get(scroll).get(patch).length() - 1) {
            return BAD_VALUE;
        }
        if (scrolls.get(scroll).size() == 5) {
            return TOO_MANY;
        }
        record();
        scrolls.set(scroll, cutPatches(scrolls.get(scroll), patch, place));
        return scrolls.get(scroll).size();
    }

    int undoSeam(int scroll, int seam) {
        if (noSeam(scroll, seam)) {
            return NO_SUCH;
        }
        List<String> changed = withoutSeam(scrolls.get(scroll), seam);
        if (changed.get(seam).length() > 12) {
            return TOO_MANY;
        }
        record();
        scrolls.set(scroll, changed);
        return changed.size();
    }

    int turn(int scroll, int patch) {
        if (no(scroll, patch)) {
            return NO_SUCH;
        }
        record();
        String before = scrolls.get(scroll).get(patch);
        String then = reversed(before);
        scrolls.get(scroll).set(patch, then);
        int others = 0;
        for (int i = 0; i < before.length(); i++) {
            others += before.charAt(i) == then.charAt(i) ? 0 : 1;
        }
        return others;
    }

    int exchange(int scroll, int seam) {
        if (noSeam(scroll, seam)) {
            return NO_SUCH;
        }
        record();
        java.util.Collections.swap(scrolls.get(scroll), seam, seam + 1);
        return readings(scrolls.get(scroll)).size();
    }

    int join(int scroll, int behind) {
        if (no(scroll) || no(behind)) {
            return NO_SUCH;
        }
        if (scroll == behind) {
            return BAD_VALUE;
        }
        if (scrolls.get(scroll).size() + scrolls.get(behind).size() > 5) {
            return TOO_MANY;
        }
        record();
        List<String> kept = scrolls.get(behind);
        kept.addAll(scrolls.remove(scroll));
        for (int i = 0; i < scrolls.size(); i++) {
            if (scrolls.get(i) == kept) {
                return i;
            }
        }
        throw new IllegalStateException("the joined scroll is gone");
    }

    int scroll(int scroll, int what) {
        if (no(scroll)) {
            return NO_SUCH;
        }
        List<String> patches = scrolls.get(scroll);
        int found = 0;
        switch (what) {
            case 0:
                return patches.size();
            case 1:
                return letters(patches);
            case 2:
                return readings(patches).size();
            case 3:
                return fromFirst(patches).size();
            case 4:
                for (String patch : patches) {
                    found += patch.equals(reversed(patch)) ? 1 : 0;
                }
                return found;
            case 5:
                for (String reading : readings(patches)) {
                    found += reading.equals(reversed(reading)) ? 1 : 0;
                }
                return found;
            case 6:
                for (int seam = 0; seam + 1 < patches.size(); seam++) {
                    found += readings(withoutSeam(patches, seam)).equals(readings(patches)) ? 1 : 0;
                }
                return found;
            default:
                return BAD_VALUE;
        }
    }

    int patch(int scroll, int patch) {
        return no(scroll, patch) ? NO_SUCH : scrolls.get(scroll).get(patch).length();
    }

    int letter(int scroll, int patch, int place) {
        if (no(scroll, patch) || place < 0 || place >= scrolls.get(scroll).get(patch).length()) {
            return NO_SUCH;
        }
        return scrolls.get(scroll).get(patch).charAt(place) - 'a';
    }

    int reading(int scroll, int reading, int place) {
        if (no(scroll)) {
            return NO_SUCH;
        }
        List<String> all = new ArrayList<>(readings(scrolls.get(scroll)));
        if (reading < 0 || reading >= all.size() || place < 0 || place >= letters(scrolls.get(scroll))) {
            return NO_SUCH;
        }
        return all.get(reading).charAt(place) - 'a';
    }

    int find(int scroll, int what) {
        if (no(scroll)) {
            return NO_SUCH;
        }
        if (what < 0 || what > 3) {
            return BAD_VALUE;
        }
        if (!pad.matches("[a-z]{1,12}")) {
            return BAD_TEXT;
        }
        List<String> all = new ArrayList<>(readings(scrolls.get(scroll)));
        int with = 0;
        int first = NONE;
        for (int i = all.size() - 1; i >= 0; i--) {
            if (all.get(i).contains(pad)) {
                with++;
                first = i;
            }
        }
        switch (what) {
            case 0:
                return with;
            case 1:
                return first;
            case 2:
                return first == NONE ? NONE : all.get(first).indexOf(pad);
            default:
                return with == all.size() ? 1 : 0;
        }
    }

    int shared(int scroll, int other) {
        if (no(scroll) || no(other)) {
            return NO_SUCH;
        }
        Set<String> both = readings(scrolls.get(scroll));
        both.retainAll(readings(scrolls.get(other)));
        return both.size();
    }

    int compare(int scroll, int other) {
        if (no(scroll) || no(other)) {
            return NO_SUCH;
        }
        Set<String> one = readings(scrolls.get(scroll));
        Set<String> two = readings(scrolls.get(other));
        if (one.equals(two)) {
            return 4;
        }
        if (two.containsAll(one)) {
            return 2;
        }
        if (one.containsAll(two)) {
            return 3;
        }
        return shared(scroll, other) > 0 ? 1 : 0;
    }

    int count(int what) {
        Set<String> all = new TreeSet<>();
        int found = 0;
        switch (what) {
            case 0:
                return scrolls.size();
            case 1:
                for (List<String> scroll : scrolls) {
                    found += scroll.size();
                }
                return found;
            case 2:
                for (List<String> scroll : scrolls) {
                    found += letters(scroll);
                }
                return found;
            case 3:
                for (List<String> scroll : scrolls) {
                    all.addAll(readings(scroll));
                }
                return all.size();
            case 4:
                for (int i = 0; i < scrolls.size(); i++) {
                    for (int j = i + 1; j < scrolls.size(); j++) {
                        found += readings(scrolls.get(i)).equals(readings(scrolls.get(j))) ? 1 : 0;
                    }
                }
                return found;
            case 5:
                return pad.length();
            case 6:
                return history.size();
            default:
                return BAD_VALUE;
        }
    }

    int ifCut(int scroll, int patch, int place) {
        if (no(scroll, patch)) {
            return NO_SUCH;
        }
        if (place < 1 || place > scrolls.get(scroll).get(patch).length() - 1) {
            return BAD_VALUE;
        }
        return readings(cutPatches(scrolls.get(scroll), patch, place)).size();
    }

    int bestCut(int scroll, int what) {
        if (no(scroll)) {
            return NO_SUCH;
        }
        if (what < 0 || what > 2) {
            return BAD_VALUE;
        }
        int[] best = {NONE, NONE, NONE};
        List<String> patches = scrolls.get(scroll);
        for (int patch = patches.size() - 1; patch >= 0; patch--) {
            for (int place = patches.get(patch).length() - 1; place >= 1; place--) {
                int many = ifCut(scroll, patch, place);
                if (many >= best[2]) {
                    best = new int[] {patch, place, many};
                }
            }
        }
        return best[what];
    }

    int put(long characters) {
        String more = "";
        long left = characters;
        while (left != 0) {
            long code = left & 255;
            if (code < 33 || code > 126) {
                return BAD_VALUE;
            }
            more = (char) code + more;
            left = left >>> 8;
        }
        if (more.isEmpty()) {
            return BAD_VALUE;
        }
        if (pad.length() + more.length() > 64) {
            return TOO_MANY;
        }
        pad = pad + more;
        return pad.length();
    }

    int wipe() {
        int had = pad.length();
        pad = "";
        return had;
    }

    int undo() {
        if (history.isEmpty()) {
            return NOT_POSSIBLE;
        }
        scrolls = history.removeLast();
        return history.size();
    }

    int save(int slot) {
        if (slot != 0 && slot != 1) {
            return BAD_VALUE;
        }
        slots.set(slot, copy(scrolls));
        saved[slot] = true;
        return scrolls.size();
    }

    int restore(int slot) {
        if (slot != 0 && slot != 1) {
            return BAD_VALUE;
        }
        if (!saved[slot]) {
            return NOT_POSSIBLE;
        }
        record();
        scrolls = copy(slots.get(slot));
        return scrolls.size();
    }

    String pad() {
        return pad;
    }

    List<List<String>> scrolls() {
        return scrolls;
    }
}
