/** Scrolls of patched hides that are read forward or backward at each seam. */
public final class SeamReadings {
    public static final int NO_SUCH = -1, BAD_VALUE = -2, BAD_TEXT = -3, TOO_MANY = -4, NOT_POSSIBLE = -5, NONE = -6;

    private static final int MOST_SCROLLS = 5;
    private static final int MOST_PATCHES = 5;
    private static final int MOST_OF_A_PATCH = 12;
    private static final int MOST_LETTERS = 60;
    // One more than a scroll may have: what a cut would bring is told of a full scroll, too.
    private static final int MOST_PARTS = 6;
    // Each of the parts forward or backward, and that from both ends.
    private static final int MOST_READINGS = 128;
    private static final int MOST_OF_THE_PAD = 64;
    private static final int MOST_CHARACTERS = 8;
    private static final int MOST_STATES = 6;
    private static final int SLOTS = 2;

    // Everything is made once, with the object: no call makes anything.
    private final Shelf shelf = new Shelf();
    private final Pad pad = new Pad();
    private final History history = new History();
    private final Shelf[] slots = new Shelf[SLOTS];
    private final boolean[] saved = new boolean[SLOTS];
    private final Readings readings = new Readings();
    private final Scroll trial = new Scroll();
    private final int[] trialRow = new int[MOST_LETTERS];

    public SeamReadings() {
        for (int i = 0; i < SLOTS; i++) {
            slots[i] = new Shelf();
        }
    }

    // ---- changes

    public int sew() {
        if (pad.firstFault() != NONE) {
            return BAD_TEXT;
        }
        if (shelf.size + pad.scrollsOfText() > MOST_SCROLLS) {
            return TOO_MANY;
        }
        history.record(shelf);
        sewText();
        pad.empty();
        return shelf.size;
    }

    public int burn(int scroll) {
        Scroll burnt = shelf.at(scroll);
        if (burnt == null) {
            return NO_SUCH;
        }
        history.record(shelf);
        int had = burnt.length();
        shelf.remove(scroll);
        return had;
    }

    public int cut(int scroll, int patch, int place) {
        Scroll changed = shelf.at(scroll);
        if (changed == null || !changed.hasPatch(patch)) {
            return NO_SUCH;
        }
        if (!changed.canBeCut(patch, place)) {
            return BAD_VALUE;
        }
        if (changed.patches >= MOST_PATCHES) {
            return TOO_MANY;
        }
        history.record(shelf);
        changed.split(patch, place);
        return changed.patches;
    }

    public int undoSeam(int scroll, int seam) {
        Scroll changed = shelf.at(scroll);
        if (changed == null || !changed.hasSeam(seam)) {
            return NO_SUCH;
        }
        if (changed.sizeOf(seam) + changed.sizeOf(seam + 1) > MOST_OF_A_PATCH) {
            return TOO_MANY;
        }
        history.record(shelf);
        changed.merge(seam);
        return changed.patches;
    }

    public int turn(int scroll, int patch) {
        Scroll changed = shelf.at(scroll);
        if (changed == null || !changed.hasPatch(patch)) {
            return NO_SUCH;
        }
        history.record(shelf);
        int others = changed.unlikeTurned(patch);
        changed.turnRound(patch);
        return others;
    }

    public int exchange(int scroll, int seam) {
        Scroll changed = shelf.at(scroll);
        if (changed == null || !changed.hasSeam(seam)) {
            return NO_SUCH;
        }
        history.record(shelf);
        changed.swapBeside(seam);
        return readingsOf(changed);
    }

    public int join(int scroll, int behind) {
        Scroll former = shelf.at(scroll);
        Scroll kept = shelf.at(behind);
        if (former == null || kept == null) {
            return NO_SUCH;
        }
        if (scroll == behind) {
            return BAD_VALUE;
        }
        if (kept.patches + former.patches > MOST_PATCHES) {
            return TOO_MANY;
        }
        history.record(shelf);
        kept.sewOn(former);
        shelf.remove(scroll);
        return scroll < behind ? behind - 1 : behind;
    }

    // ---- what there is; nothing changes

    public int scroll(int scroll, int what) {
        Scroll asked = shelf.at(scroll);
        if (asked == null) {
            return NO_SUCH;
        }
        switch (what) {
            case 0:
                return asked.patches;
            case 1:
                return asked.length();
            case 2:
                return readingsOf(asked);
            case 3:
                return asked.waysFromFirst();
            case 4:
                return asked.evenPatches();
            case 5:
                return evenReadings(asked);
            case 6:
                return idleSeams(asked);
            default:
                return BAD_VALUE;
        }
    }

    public int patch(int scroll, int patch) {
        Scroll asked = shelf.at(scroll);
        if (asked == null || !asked.hasPatch(patch)) {
            return NO_SUCH;
        }
        return asked.sizeOf(patch);
    }

    public int letter(int scroll, int patch, int place) {
        Scroll asked = shelf.at(scroll);
        if (asked == null || !asked.hasPatch(patch)) {
            return NO_SUCH;
        }
        if (place < 0 || place >= asked.sizeOf(patch)) {
            return NO_SUCH;
        }
        return asked.letterAt(asked.startOf(patch) + place);
    }

    public int reading(int scroll, int reading, int place) {
        Scroll asked = shelf.at(scroll);
        if (asked == null || reading < 0 || place < 0 || place >= asked.length()) {
            return NO_SUCH;
        }
        readings.begin(asked);
        for (int i = 0; i < MOST_READINGS && readings.next(); i++) {
            if (i == reading) {
                return readings.letterAt(place);
            }
        }
        return NO_SUCH;
    }

    public int find(int scroll, int what) {
        Scroll asked = shelf.at(scroll);
        if (asked == null) {
            return NO_SUCH;
        }
        if (what < 0 || what > 3) {
            return BAD_VALUE;
        }
        if (!pad.isWord()) {
            return BAD_TEXT;
        }
        return findWord(asked, what);
    }

    public int shared(int scroll, int other) {
        Scroll one = shelf.at(scroll);
        Scroll two = shelf.at(other);
        if (one == null || two == null) {
            return NO_SUCH;
        }
        return readingsOfBoth(one, two);
    }

    public int compare(int scroll, int other) {
        Scroll one = shelf.at(scroll);
        Scroll two = shelf.at(other);
        if (one == null || two == null) {
            return NO_SUCH;
        }
        int both = readingsOfBoth(one, two);
        if (both == 0) {
            return 0;
        }
        boolean allOfOne = both == readingsOf(one);
        boolean allOfTwo = both == readingsOf(two);
        if (allOfOne && allOfTwo) {
            return 4;
        }
        if (allOfOne) {
            return 2;
        }
        return allOfTwo ? 3 : 1;
    }

    public int count(int what) {
        switch (what) {
            case 0:
                return shelf.size;
            case 1:
                return shelf.patchesOfAll();
            case 2:
                return shelf.lettersOfAll();
            case 3:
                return readingsOfAll();
            case 4:
                return pairsOfTheSame();
            case 5:
                return pad.length;
            case 6:
                return history.size;
            default:
                return BAD_VALUE;
        }
    }

    // ---- what if; nothing changes

    public int ifCut(int scroll, int patch, int place) {
        Scroll asked = shelf.at(scroll);
        if (asked == null || !asked.hasPatch(patch)) {
            return NO_SUCH;
        }
        if (!asked.canBeCut(patch, place)) {
            return BAD_VALUE;
        }
        return readingsWithCut(asked, patch, place);
    }

    public int bestCut(int scroll, int what) {
        Scroll asked = shelf.at(scroll);
        if (asked == null) {
            return NO_SUCH;
        }
        if (what < 0 || what > 2) {
            return BAD_VALUE;
        }
        int bestPatch = 0;
        int bestPlace = 0;
        int most = NONE;
        for (int patch = 0; patch < asked.patches; patch++) {
            for (int place = 1; place < asked.sizeOf(patch); place++) {
                int many = readingsWithCut(asked, patch, place);
                if (many > most) {
                    bestPatch = patch;
                    bestPlace = place;
                    most = many;
                }
            }
        }
        if (most == NONE || what == 2) {
            return most;
        }
        return what == 0 ? bestPatch : bestPlace;
    }

    // ---- texts

    public int put(long characters) {
        int many = charactersIn(characters);
        if (many == 0) {
            return BAD_VALUE;
        }
        if (pad.length + many > MOST_OF_THE_PAD) {
            return TOO_MANY;
        }
        for (int i = many - 1; i >= 0; i--) {
            pad.append(codeIn(characters, i));
        }
        return pad.length;
    }

    public int wipe() {
        int had = pad.length;
        pad.empty();
        return had;
    }

    public int fault() {
        return pad.firstFault();
    }

    // ---- undo, saving

    public int undo() {
        if (!history.takeBack(shelf)) {
            return NOT_POSSIBLE;
        }
        return history.size;
    }

    public int save(int slot) {
        if (slot < 0 || slot >= SLOTS) {
            return BAD_VALUE;
        }
        Shelf kept = slots[slot];
        if (kept == null) {
            return BAD_VALUE;
        }
        kept.copyFrom(shelf);
        saved[slot] = true;
        return shelf.size;
    }

    public int restore(int slot) {
        if (slot < 0 || slot >= SLOTS) {
            return BAD_VALUE;
        }
        Shelf kept = slots[slot];
        if (kept == null || !saved[slot]) {
            return NOT_POSSIBLE;
        }
        history.record(shelf);
        shelf.copyFrom(kept);
        return shelf.size;
    }

    // ---- characters

    private static int codeIn(long characters, int fromLast) {
        return (int) ((characters >>> (8 * fromLast)) & 255);
    }

    /** How many characters the number holds; 0 if it holds none, or anything that is no character. */
    private static int charactersIn(long characters) {
        int many = 0;
        for (int i = 0; i < MOST_CHARACTERS; i++) {
            int code = codeIn(characters, i);
            if (code == 0) {
                continue;
            }
            if (code < 33 || code > 126 || many != i) {
                return 0;
            }
            many++;
        }
        return many;
    }

    private static boolean isLetter(int code) {
        return code >= 'a' && code <= 'z';
    }

    private void sewText() {
        Scroll sewn = shelf.addScroll();
        for (int i = 0; i < pad.length; i++) {
            int code = pad.codeAt(i);
            if (code == ';') {
                sewn = shelf.addScroll();
            } else if (sewn != null && code == '|') {
                sewn.addPatch();
            } else if (sewn != null) {
                sewn.addLetter(code - 'a');
            }
        }
    }

    // ---- readings

    /**
     * The rows told from the last patch on are those told from the first one on, turned round:
     * there are as many, and those told from both ends are to be counted once.
     */
    private int readingsOf(Scroll scroll) {
        return 2 * scroll.waysFromFirst() - toldFromBothEnds(scroll, trialRow, 0);
    }

    /** Goes on only with what can still be told from the last patch on, so that it ends early for most scrolls. */
    private static int toldFromBothEnds(Scroll scroll, int[] row, int patch) {
        if (patch >= scroll.patches || patch >= MOST_PARTS) {
            return 1;
        }
        int found = 0;
        int ways = scroll.isEven(patch) ? 1 : 2;
        for (int way = 0; way < ways; way++) {
            int start = scroll.startOf(patch);
            int end = scroll.endOf(patch);
            scroll.lay(start, end, way == 1, row, start);
            if (scroll.beginsWith(row, end, true)) {
                found += toldFromBothEnds(scroll, row, patch + 1);
            }
        }
        return found;
    }

    private int readingsWithCut(Scroll scroll, int patch, int place) {
        trial.copyFrom(scroll);
        trial.split(patch, place);
        return readingsOf(trial);
    }

    private int readingsOfBoth(Scroll one, Scroll two) {
        int both = 0;
        readings.begin(one);
        for (int i = 0; i < MOST_READINGS && readings.next(); i++) {
            if (two.tells(readings.row, readings.length)) {
                both++;
            }
        }
        return both;
    }

    private boolean tellTheSame(Scroll one, Scroll two) {
        int many = readingsOf(one);
        return many == readingsOf(two) && many == readingsOfBoth(one, two);
    }

    private int evenReadings(Scroll scroll) {
        int even = 0;
        readings.begin(scroll);
        for (int i = 0; i < MOST_READINGS && readings.next(); i++) {
            if (orderTurned(readings.row, 0, readings.length) == 0) {
                even++;
            }
        }
        return even;
    }

    private int idleSeams(Scroll scroll) {
        int idle = 0;
        for (int seam = 0; seam + 1 < scroll.patches; seam++) {
            trial.copyFrom(scroll);
            trial.merge(seam);
            if (tellTheSame(scroll, trial)) {
                idle++;
            }
        }
        return idle;
    }

    private int findWord(Scroll scroll, int what) {
        int with = 0;
        int all = 0;
        int firstReading = NONE;
        int firstPlace = NONE;
        readings.begin(scroll);
        for (int i = 0; i < MOST_READINGS && readings.next(); i++) {
            int place = pad.placeIn(readings.row, readings.length);
            all++;
            if (place != NONE) {
                with++;
            }
            if (place != NONE && firstReading == NONE) {
                firstReading = i;
                firstPlace = place;
            }
        }
        switch (what) {
            case 0:
                return with;
            case 1:
                return firstReading;
            case 2:
                return firstPlace;
            default:
                return with == all ? 1 : 0;
        }
    }

    private int readingsOfAll() {
        int unlike = 0;
        for (int number = 0; number < shelf.size; number++) {
            Scroll next = shelf.at(number);
            if (next != null) {
                unlike += readingsNotToldBefore(next, number);
            }
        }
        return unlike;
    }

    private int readingsNotToldBefore(Scroll scroll, int number) {
        int unlike = 0;
        readings.begin(scroll);
        for (int i = 0; i < MOST_READINGS && readings.next(); i++) {
            if (!shelf.tellsBefore(number, readings.row, readings.length)) {
                unlike++;
            }
        }
        return unlike;
    }

    private int pairsOfTheSame() {
        int pairs = 0;
        for (int i = 0; i < shelf.size; i++) {
            for (int j = 0; j < i; j++) {
                Scroll one = shelf.at(i);
                Scroll two = shelf.at(j);
                if (one != null && two != null && tellTheSame(one, two)) {
                    pairs++;
                }
            }
        }
        return pairs;
    }

    // ---- rows of letters

    private static void turnPart(int[] row, int from, int to) {
        if (from < 0 || to > row.length) {
            return;
        }
        int low = from;
        for (int high = to - 1; low < high; high--) {
            int kept = row[low];
            row[low] = row[high];
            row[high] = kept;
            low++;
        }
    }

    /** Less than 0 if the part comes before itself turned round, in the alphabet; 0 if it is the same. */
    private static int orderTurned(int[] row, int from, int to) {
        if (from < 0 || to > row.length) {
            return 0;
        }
        int low = from;
        for (int high = to - 1; low < high; high--) {
            if (row[low] != row[high]) {
                return row[low] - row[high];
            }
            low++;
        }
        return 0;
    }

    /** The letters of all patches stand in one row, so that cuts and seams move nothing but ends. */
    private static final class Scroll {
        private final int[] letters = new int[MOST_LETTERS];
        private final int[] ends = new int[MOST_PARTS];
        private int patches;

        void startAnew() {
            patches = 0;
            addPatch();
        }

        void addPatch() {
            if (patches < MOST_PARTS) {
                ends[patches] = length();
                patches++;
            }
        }

        void addLetter(int letter) {
            int end = length();
            int last = patches - 1;
            if (last >= 0 && last < MOST_PARTS && end < MOST_LETTERS) {
                letters[end] = letter;
                ends[last] = end + 1;
            }
        }

        void copyFrom(Scroll other) {
            System.arraycopy(other.letters, 0, letters, 0, MOST_LETTERS);
            System.arraycopy(other.ends, 0, ends, 0, MOST_PARTS);
            patches = other.patches;
        }

        boolean hasPatch(int patch) {
            return patch >= 0 && patch < patches;
        }

        boolean hasSeam(int seam) {
            return seam >= 0 && seam < patches - 1;
        }

        boolean canBeCut(int patch, int place) {
            return place >= 1 && place < sizeOf(patch);
        }

        int endOf(int patch) {
            return patch >= 0 && patch < MOST_PARTS ? ends[patch] : 0;
        }

        int startOf(int patch) {
            return patch >= 1 && patch <= MOST_PARTS ? ends[patch - 1] : 0;
        }

        int sizeOf(int patch) {
            return endOf(patch) - startOf(patch);
        }

        int length() {
            return startOf(patches);
        }

        int letterAt(int place) {
            return place >= 0 && place < MOST_LETTERS ? letters[place] : 0;
        }

        void split(int patch, int place) {
            if (!hasPatch(patch) || patches >= MOST_PARTS) {
                return;
            }
            int end = startOf(patch) + place;
            for (int i = patches; i > patch; i--) {
                ends[i] = ends[i - 1];
            }
            ends[patch] = end;
            patches++;
        }

        void merge(int seam) {
            if (!hasSeam(seam) || patches > MOST_PARTS) {
                return;
            }
            for (int i = seam; i + 1 < patches; i++) {
                ends[i] = ends[i + 1];
            }
            patches--;
        }

        int unlikeTurned(int patch) {
            int start = startOf(patch);
            int end = endOf(patch);
            int unlike = 0;
            for (int i = 0; i < end - start; i++) {
                if (letterAt(start + i) != letterAt(end - 1 - i)) {
                    unlike++;
                }
            }
            return unlike;
        }

        void turnRound(int patch) {
            turnPart(letters, startOf(patch), endOf(patch));
        }

        /** Both patches turned round as one, and then each for itself, stand forward in the other order. */
        void swapBeside(int seam) {
            if (!hasSeam(seam) || seam >= MOST_PARTS) {
                return;
            }
            int start = startOf(seam);
            int end = endOf(seam + 1);
            int middle = start + sizeOf(seam + 1);
            turnPart(letters, start, end);
            turnPart(letters, start, middle);
            turnPart(letters, middle, end);
            ends[seam] = middle;
        }

        void sewOn(Scroll other) {
            for (int patch = 0; patch < other.patches; patch++) {
                addPatch();
                for (int place = other.startOf(patch); place < other.endOf(patch); place++) {
                    addLetter(other.letterAt(place));
                }
            }
        }

        boolean isEven(int patch) {
            return orderTurned(letters, startOf(patch), endOf(patch)) == 0;
        }

        int evenPatches() {
            int even = 0;
            for (int patch = 0; patch < patches; patch++) {
                if (isEven(patch)) {
                    even++;
                }
            }
            return even;
        }

        /** From one end no two ways tell the same, but for patches that are the same forward and backward. */
        int waysFromFirst() {
            int ways = 1;
            for (int patch = 0; patch < patches; patch++) {
                if (!isEven(patch)) {
                    ways *= 2;
                }
            }
            return ways;
        }

        /** Writes the letters from start to end into the row, from a place on. */
        void lay(int start, int end, boolean backward, int[] row, int at) {
            if (start < 0 || end > MOST_LETTERS || at < 0 || at + end - start > row.length) {
                return;
            }
            for (int i = 0; i < end - start; i++) {
                row[at + i] = letters[backward ? end - 1 - i : start + i];
            }
        }

        boolean tells(int[] row, int length) {
            return length == length() && (beginsWith(row, length, false) || beginsWith(row, length, true));
        }

        /** Whether a row that is known so far can be told from the first patch on, or from the last one on. */
        boolean beginsWith(int[] row, int known, boolean fromLast) {
            int at = 0;
            for (int i = 0; i < patches && at < known; i++) {
                int patch = fromLast ? patches - 1 - i : i;
                int start = startOf(patch);
                int end = endOf(patch);
                if (!standsAt(row, at, known, start, end, false) && !standsAt(row, at, known, start, end, true)) {
                    return false;
                }
                at += end - start;
            }
            return true;
        }

        private boolean standsAt(int[] row, int at, int known, int start, int end, boolean backward) {
            if (at < 0 || known > row.length || start < 0 || end > MOST_LETTERS) {
                return false;
            }
            for (int i = 0; i < end - start && at + i < known; i++) {
                if (row[at + i] != letters[backward ? end - 1 - i : start + i]) {
                    return false;
                }
            }
            return true;
        }
    }

    private static final class Shelf {
        private final Scroll[] scrolls = new Scroll[MOST_SCROLLS];
        private int size;

        Shelf() {
            for (int i = 0; i < MOST_SCROLLS; i++) {
                scrolls[i] = new Scroll();
            }
        }

        /** A scroll by its number, or null if there is none. */
        Scroll at(int number) {
            return number >= 0 && number < size && number < MOST_SCROLLS ? scrolls[number] : null;
        }

        Scroll addScroll() {
            if (size >= MOST_SCROLLS) {
                return null;
            }
            size++;
            Scroll added = at(size - 1);
            if (added != null) {
                added.startAnew();
            }
            return added;
        }

        /** The scroll that goes is kept behind all others, for the next one that is added. */
        void remove(int number) {
            if (number < 0 || number >= size || size > MOST_SCROLLS) {
                return;
            }
            Scroll gone = scrolls[number];
            for (int i = number; i + 1 < size; i++) {
                scrolls[i] = scrolls[i + 1];
            }
            scrolls[size - 1] = gone;
            size--;
        }

        void copyFrom(Shelf other) {
            size = other.size;
            for (int i = 0; i < size; i++) {
                Scroll from = other.at(i);
                Scroll to = at(i);
                if (from != null && to != null) {
                    to.copyFrom(from);
                }
            }
        }

        int patchesOfAll() {
            int all = 0;
            for (int i = 0; i < size; i++) {
                Scroll next = at(i);
                all += next == null ? 0 : next.patches;
            }
            return all;
        }

        int lettersOfAll() {
            int all = 0;
            for (int i = 0; i < size; i++) {
                Scroll next = at(i);
                all += next == null ? 0 : next.length();
            }
            return all;
        }

        boolean tellsBefore(int number, int[] row, int length) {
            for (int i = 0; i < number; i++) {
                Scroll next = at(i);
                if (next != null && next.tells(row, length)) {
                    return true;
                }
            }
            return false;
        }
    }

    /** The states before the latest changes, the oldest one first. */
    private static final class History {
        private final Shelf[] states = new Shelf[MOST_STATES];
        private int size;

        History() {
            for (int i = 0; i < MOST_STATES; i++) {
                states[i] = new Shelf();
            }
        }

        void record(Shelf shelf) {
            if (size >= MOST_STATES) {
                dropOldest();
            }
            if (size < 0 || size >= MOST_STATES) {
                return;
            }
            Shelf state = states[size];
            if (state != null) {
                state.copyFrom(shelf);
                size++;
            }
        }

        private void dropOldest() {
            Shelf oldest = states[0];
            for (int i = 0; i + 1 < MOST_STATES; i++) {
                states[i] = states[i + 1];
            }
            states[MOST_STATES - 1] = oldest;
            size = MOST_STATES - 1;
        }

        boolean takeBack(Shelf shelf) {
            if (size < 1 || size > MOST_STATES) {
                return false;
            }
            Shelf latest = states[size - 1];
            if (latest == null) {
                return false;
            }
            size--;
            shelf.copyFrom(latest);
            return true;
        }
    }

    private static final class Pad {
        private final int[] codes = new int[MOST_OF_THE_PAD];
        private int length;

        void empty() {
            length = 0;
        }

        void append(int code) {
            if (length >= 0 && length < MOST_OF_THE_PAD) {
                codes[length] = code;
                length++;
            }
        }

        int codeAt(int place) {
            return place >= 0 && place < length && place < MOST_OF_THE_PAD ? codes[place] : 0;
        }

        int scrollsOfText() {
            int scrolls = 1;
            for (int i = 0; i < length; i++) {
                if (codeAt(i) == ';') {
                    scrolls++;
                }
            }
            return scrolls;
        }

        int firstFault() {
            int scrolls = 1;
            int patches = 1;
            int letters = 0;
            for (int i = 0; i < length; i++) {
                int code = codeAt(i);
                if (isLetter(code) && letters < MOST_OF_A_PATCH) {
                    letters++;
                } else if (code == '|' && letters > 0 && patches < MOST_PATCHES) {
                    patches++;
                    letters = 0;
                } else if (code == ';' && letters > 0 && scrolls < MOST_SCROLLS) {
                    scrolls++;
                    patches = 1;
                    letters = 0;
                } else {
                    return i;
                }
            }
            return letters == 0 ? length : NONE;
        }

        boolean isWord() {
            if (length < 1 || length > MOST_OF_A_PATCH) {
                return false;
            }
            for (int i = 0; i < length; i++) {
                if (!isLetter(codeAt(i))) {
                    return false;
                }
            }
            return true;
        }

        /** The first place at which the word stands in a row, or NONE. */
        int placeIn(int[] row, int rowLength) {
            for (int place = 0; place + length <= rowLength; place++) {
                if (standsAt(row, place)) {
                    return place;
                }
            }
            return NONE;
        }

        private boolean standsAt(int[] row, int place) {
            if (place < 0 || place + length > row.length) {
                return false;
            }
            for (int i = 0; i < length; i++) {
                if (row[place + i] != codeAt(i) - 'a') {
                    return false;
                }
            }
            return true;
        }
    }

    /**
     * The rows that a scroll tells from one of its ends, in the order of the alphabet: if each patch is first read
     * the way that is lesser, then the ways count up like binary numbers, the patch that is read last being the last digit.
     */
    private static final class End {
        private final int[] row = new int[MOST_LETTERS];
        private final int[] starts = new int[MOST_PARTS];
        private final int[] ends = new int[MOST_PARTS];
        private int digits;
        private int number;

        void begin(Scroll scroll, boolean fromLast) {
            digits = 0;
            number = 0;
            int at = 0;
            for (int i = 0; i < scroll.patches; i++) {
                int patch = fromLast ? scroll.patches - 1 - i : i;
                int from = scroll.startOf(patch);
                int to = scroll.endOf(patch);
                int end = at + to - from;
                scroll.lay(from, to, false, row, at);
                int order = orderTurned(row, at, end);
                if (order > 0) {
                    turnPart(row, at, end);
                }
                if (order != 0) {
                    addDigit(at, end);
                }
                at = end;
            }
        }

        private void addDigit(int start, int end) {
            if (digits < MOST_PARTS) {
                starts[digits] = start;
                ends[digits] = end;
                digits++;
            }
        }

        boolean isOver() {
            return number >= 1 << digits;
        }

        /** A digit changes when all digits behind it have come back to 0. */
        void step() {
            number++;
            int behind = 1;
            for (int digit = digits - 1; digit >= 0 && digit < MOST_PARTS; digit--) {
                turnPart(row, starts[digit], ends[digit]);
                if ((number & behind) != 0) {
                    return;
                }
                behind *= 2;
            }
        }
    }

    /** All readings of a scroll in the order of the alphabet, one at a time: the rows from both ends, merged. */
    private static final class Readings {
        private final End first = new End();
        private final End last = new End();
        private final int[] row = new int[MOST_LETTERS];
        private int length;

        void begin(Scroll scroll) {
            length = scroll.length();
            first.begin(scroll, false);
            last.begin(scroll, true);
        }

        boolean next() {
            if (first.isOver() && last.isOver()) {
                return false;
            }
            int order = orderOfEnds();
            End lesser = order <= 0 ? first : last;
            System.arraycopy(lesser.row, 0, row, 0, MOST_LETTERS);
            if (order <= 0) {
                first.step();
            }
            if (order >= 0) {
                last.step();
            }
            return true;
        }

        private int orderOfEnds() {
            if (first.isOver()) {
                return 1;
            }
            if (last.isOver()) {
                return -1;
            }
            for (int i = 0; i < length && i < MOST_LETTERS; i++) {
                if (first.row[i] != last.row[i]) {
                    return first.row[i] - last.row[i];
                }
            }
            return 0;
        }

        int letterAt(int place) {
            return place >= 0 && place < MOST_LETTERS ? row[place] : 0;
        }
    }
}
