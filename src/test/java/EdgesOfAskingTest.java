/** Promises 9 to 18, what there is and what if: a test for each case that a sentence of them names. */
final class EdgesOfAskingTest extends Edges {
    // The patches are all the same: what is read from the other end is read from the first patch on, too.
    private static final String SAME = "abababababab|abababababab|abababababab|abababababab|abababababab";

    public static void main(String[] arguments) throws ReflectiveOperationException {
        run(EdgesOfAskingTest.class);
    }

    private static SeamReadings sewn(String... texts) {
        SeamReadings x = new SeamReadings();
        for (String text : texts) {
            Due.putAll(x, text);
            x.sew();
        }
        return x;
    }

    /** What scroll tells of the one scroll of a text. */
    private static void scrollIs(String scroll, int what, int want) {
        is(what + " of " + scroll, sewn(scroll).scroll(0, what), want);
    }

    // ---- promise 9

    @Edge(promise = 9, says = "Returns something about a scroll")
    static void ofThatScrollAlone() {
        SeamReadings x = sewn("ab|c;d|e|f;g");
        is("patches of the first one", x.scroll(0, 0), 2);
        is("patches of the second one", x.scroll(1, 0), 3);
        is("patches of the last one", x.scroll(2, 0), 1);
    }

    @Edge(promise = 9, says = "0 its patches")
    static void patchesFrom1To5() {
        scrollIs("abc", 0, 1);
        scrollIs("a|b|c|d|e", 0, 5);
        scrollIs(FULL, 0, 5);
    }

    @Edge(promise = 9, says = "1 its letters")
    static void lettersFrom1To60() {
        scrollIs("a", 1, 1);
        scrollIs("ab|c|def", 1, 6);
        scrollIs(FULL, 1, 60);
    }

    @Edge(promise = 9, says = "2 its readings, how many")
    static void readingsFrom1To64() {
        scrollIs("a", 2, 1);
        scrollIs("a|a|a|a|a", 2, 1);
        scrollIs("ab", 2, 2);
        scrollIs("a|b", 2, 2);
        scrollIs("a|ab", 2, 3);
        scrollIs("ab|cd", 2, 8);
        scrollIs(SAME, 2, 32);
        scrollIs(FULL, 2, 64);
    }

    private static final String FROM_FIRST = "3 of these the ones that are readings from its first patch on (each patch forward or backward)";

    @Edge(promise = 9, says = FROM_FIRST)
    static void fromTheFirstPatchOnFrom1To32() {
        scrollIs("a", 3, 1);
        scrollIs("a|b|c|d|e", 3, 1);
        scrollIs("ab", 3, 2);
        scrollIs("ab|c", 3, 2);
        scrollIs("ab|c|ab", 3, 4);
        scrollIs(SAME, 3, 32);
        scrollIs(FULL, 3, 32);
    }

    @Edge(promise = 9, says = "4 patches that are the same forward and backward")
    static void evenPatchesFrom0To5() {
        scrollIs("ab|ba|aab|aabb|abab", 4, 0);
        scrollIs("a|aa|aba|abba|abcba", 4, 5);
        scrollIs("aab|aba|abb", 4, 1);
        scrollIs("abcdeffedcba", 4, 1);
        scrollIs("abcdefgedcba", 4, 0);
    }

    @Edge(promise = 9, says = "4 patches that are the same forward and backward")
    static void patchesTogetherAreNotLookedAt() {
        scrollIs("ab|ba", 4, 0);
        scrollIs("a|b", 4, 2);
    }

    @Edge(promise = 9, says = "5 readings that are the same from both ends")
    static void evenReadingsFromNoneToAll() {
        scrollIs("ab", 5, 0);
        scrollIs("a", 5, 1);
        scrollIs("aa|a|aaa", 5, 1);
        scrollIs("ab|ab", 5, 2);
        scrollIs("ab|c|ba", 5, 2);
        scrollIs("a|ab", 5, 1);
        scrollIs("bbc|bc", 5, 1);
        scrollIs("abc|abd", 5, 0);
        scrollIs(SAME, 5, 0);
        scrollIs("abababababab|aabbaabbaabb|c|aabbaabbaabb|abababababab", 5, 4);
    }

    private static final String IDLE = "6 seams that can be undone without any reading getting lost or coming to be "
        + "(whatever the length of the patch would be)";

    @Edge(promise = 9, says = IDLE)
    static void noSeamNoneThatCanBeUndone() {
        scrollIs("a", 6, 0);
        scrollIs("aba", 6, 0);
    }

    @Edge(promise = 9, says = IDLE)
    static void eachSeamCanBeUndone() {
        scrollIs("a|b", 6, 1);
        scrollIs("a|a|a|a|a", 6, 4);
    }

    @Edge(promise = 9, says = IDLE)
    static void aReadingWouldGetLost() {
        scrollIs("ab|c", 6, 0);
        scrollIs("ab|ab", 6, 0);
        scrollIs("ab|ba", 6, 0);
    }

    @Edge(promise = 9, says = IDLE)
    static void aReadingWouldComeToBe() {
        scrollIs("a|b|c", 6, 0);
    }

    @Edge(promise = 9, says = IDLE)
    static void asManyButOtherReadings() {
        scrollIs("a|bc|d", 6, 0);
    }

    @Edge(promise = 9, says = IDLE)
    static void oneSeamOfTwo() {
        scrollIs("aa|a|b", 6, 1);
        scrollIs("b|aa|a", 6, 1);
    }

    @Edge(promise = 9, says = IDLE)
    static void thePatchWouldHaveMoreThan12Letters() {
        scrollIs("aaaaaaaaaaaa|a", 6, 1);
        scrollIs("aaaaaaaaaaaa|aaaaaaaaaaaa", 6, 1);
        scrollIs("aaaaaaaaaaaa|aaaaaaaaaaaa|aaaaaaaaaaaa|aaaaaaaaaaaa|aaaaaaaaaaaa", 6, 4);
        scrollIs(FULL, 6, 0);
    }

    @Edge(promise = 9, says = "Returns the number")
    static void ofEachWhat() {
        int[] want = {2, 4, 4, 4, 0, 2, 0};
        SeamReadings x = sewn("ab|ab");
        for (int what = 0; what < 7; what++) {
            is("what " + what, x.scroll(0, what), want[what]);
        }
    }

    @Edge(promise = 9, says = "NO_SUCH if there is no such scroll")
    static void scrollOfNoSuchScroll() {
        SeamReadings x = sewn("a;b");
        for (int what = 0; what < 7; what++) {
            is("on an empty shelf, " + what, new SeamReadings().scroll(0, what), NO_SUCH);
            is("behind the last one, " + what, x.scroll(2, what), NO_SUCH);
            for (int far : FAR) {
                is("of " + far + ", " + what, x.scroll(far, what), NO_SUCH);
            }
        }
    }

    @Edge(promise = 9, says = "BAD_VALUE if what is out of range")
    static void scrollWithAWhatOutOfRange() {
        SeamReadings x = sewn("a;b");
        is("behind the last what", x.scroll(1, 7), BAD_VALUE);
        for (int far : FAR) {
            is("what " + far, x.scroll(0, far), BAD_VALUE);
        }
    }

    // ---- promise 10

    @Edge(promise = 10, says = "Returns how many letters a patch has")
    static void ofThatPatchAlone() {
        SeamReadings x = sewn("ab|cde;f|ghij");
        is("the first one", x.patch(0, 0), 2);
        is("the last one", x.patch(0, 1), 3);
        is("the first one of another scroll", x.patch(1, 0), 1);
        is("the last one of another scroll", x.patch(1, 1), 4);
    }

    @Edge(promise = 10, says = "Returns how many")
    static void patchOf1LetterAndOf12() {
        SeamReadings x = sewn("a|abcdefghijkl|a|abcdefghijkl|a");
        for (int patch = 0; patch < 5; patch++) {
            is("patch " + patch, x.patch(0, patch), patch % 2 == 0 ? 1 : 12);
        }
    }

    @Edge(promise = 10, says = "NO_SUCH if there is no such scroll or patch")
    static void patchOfNoSuchScroll() {
        is("on an empty shelf", new SeamReadings().patch(0, 0), NO_SUCH);
        SeamReadings x = sewn("ab|cd;ef");
        is("behind the last one", x.patch(2, 0), NO_SUCH);
        for (int far : FAR) {
            is("in " + far, x.patch(far, 0), NO_SUCH);
        }
    }

    @Edge(promise = 10, says = "NO_SUCH if there is no such scroll or patch")
    static void noSuchPatch() {
        SeamReadings x = sewn("ab|cd;ef;a|b|c|d|e");
        is("behind the last one", x.patch(0, 2), NO_SUCH);
        is("behind the only one", x.patch(1, 1), NO_SUCH);
        is("behind the fifth one", x.patch(2, 5), NO_SUCH);
        for (int far : FAR) {
            is("patch " + far, x.patch(0, far), NO_SUCH);
        }
    }

    // Where a patch went, its number is free.
    @Edge(promise = 10, says = "NO_SUCH if there is no such scroll or patch")
    static void thePatchThatWentWithItsSeam() {
        SeamReadings x = sewn("a|b|c");
        x.undoSeam(0, 0);
        is("the last one", x.patch(0, 1), 1);
        is("the one that went", x.patch(0, 2), NO_SUCH);
    }

    // ---- promise 11

    @Edge(promise = 11, says = "Returns a letter of a patch")
    static void theFirstAndTheLastOfEachPatch() {
        SeamReadings x = sewn("abc|de;f|ghijklmnopqr");
        is("the first of the first", x.letter(0, 0, 0), 0);
        is("the last of the first", x.letter(0, 0, 2), 2);
        is("the first of the second", x.letter(0, 1, 0), 3);
        is("the last of the second", x.letter(0, 1, 1), 4);
        is("the only one", x.letter(1, 0, 0), 5);
        is("the twelfth", x.letter(1, 1, 11), 17);
    }

    @Edge(promise = 11, says = "Returns the letter")
    static void letterFromAToZ() {
        SeamReadings x = sewn("az|za");
        is("a", x.letter(0, 0, 0), 0);
        is("z", x.letter(0, 0, 1), 25);
        is("z of the other one", x.letter(0, 1, 0), 25);
        is("a of the other one", x.letter(0, 1, 1), 0);
    }

    @Edge(promise = 11, says = "Returns the letter")
    static void theLastLetterOfTheLongestScroll() {
        is("the sixtieth", sewn(FULL).letter(0, 4, 11), 'o' - 'a');
    }

    @Edge(promise = 11, says = "NO_SUCH if there is no such scroll, patch or letter")
    static void letterOfNoSuchScroll() {
        is("on an empty shelf", new SeamReadings().letter(0, 0, 0), NO_SUCH);
        SeamReadings x = sewn("ab|cd;ef");
        is("behind the last one", x.letter(2, 0, 0), NO_SUCH);
        for (int far : FAR) {
            is("in " + far, x.letter(far, 0, 0), NO_SUCH);
        }
    }

    @Edge(promise = 11, says = "NO_SUCH if there is no such scroll, patch or letter")
    static void letterOfNoSuchPatch() {
        SeamReadings x = sewn("ab|cd;ef;a|b|c|d|e");
        is("behind the last one", x.letter(0, 2, 0), NO_SUCH);
        is("behind the only one", x.letter(1, 1, 0), NO_SUCH);
        is("behind the fifth one", x.letter(2, 5, 0), NO_SUCH);
        for (int far : FAR) {
            is("of patch " + far, x.letter(0, far, 0), NO_SUCH);
        }
    }

    @Edge(promise = 11, says = "NO_SUCH if there is no such scroll, patch or letter")
    static void noSuchLetter() {
        SeamReadings x = sewn("ab|cd|e;abcdefghijkl");
        is("behind the last one, where the next patch begins", x.letter(0, 0, 2), NO_SUCH);
        is("behind the last one of the last patch", x.letter(0, 2, 1), NO_SUCH);
        is("before the first one, where another patch ends", x.letter(0, 1, -1), NO_SUCH);
        is("behind the twelfth one", x.letter(1, 0, 12), NO_SUCH);
        for (int far : FAR) {
            is("letter " + far, x.letter(0, 1, far), NO_SUCH);
        }
    }

    // ---- promise 12

    @Edge(promise = 12, says = "Returns a letter of a reading")
    static void ofEachScrollItsOwn() {
        SeamReadings x = sewn("ab|c;d");
        text("of the first one", readings(x, 0), "abc bac cab cba");
        text("of the second one", readings(x, 1), "d");
    }

    @Edge(promise = 12, says = "its number in the order of the alphabet")
    static void theFirstAndTheLastReading() {
        SeamReadings x = sewn("zy|xw|ba");
        text("the first one", Due.reading(x, 0, 0), "abwxyz");
        text("the second one", Due.reading(x, 0, 1), "abwxzy");
        text("the last one", Due.reading(x, 0, 15), "zyxwba");
    }

    // Two of them are told from both ends, and stand there once.
    @Edge(promise = 12, says = "its number in the order of the alphabet")
    static void numbersAreOfUnlikeReadings() {
        text("readings", readings(sewn("ab|c|ab|a"), 0), "aabcab aabcba abacab abacba abcaba abcbaa bacaba bacbaa");
        text("those of both ends", readings(sewn("ba|a"), 0), "aab aba baa");
    }

    @Edge(promise = 12, says = "Returns the letter")
    static void theFirstLetterAndTheSixtieth() {
        SeamReadings x = sewn(FULL);
        is("the first letter of the first one", x.reading(0, 0, 0), 0);
        is("the last letter of the first one", x.reading(0, 0, 59), 25);
        is("the first letter of the last one", x.reading(0, 63, 0), 25);
        is("the last letter of the last one", x.reading(0, 63, 59), 0);
    }

    @Edge(promise = 12, says = "NO_SUCH if there is no such scroll, reading or letter")
    static void readingOfNoSuchScroll() {
        is("on an empty shelf", new SeamReadings().reading(0, 0, 0), NO_SUCH);
        SeamReadings x = sewn("ab|c;d");
        is("behind the last one", x.reading(2, 0, 0), NO_SUCH);
        for (int far : FAR) {
            is("of " + far, x.reading(far, 0, 0), NO_SUCH);
        }
    }

    @Edge(promise = 12, says = "NO_SUCH if there is no such scroll, reading or letter")
    static void noSuchReading() {
        SeamReadings x = sewn("ab|c;d");
        is("behind the last one", x.reading(0, 4, 0), NO_SUCH);
        is("behind the only one", x.reading(1, 1, 0), NO_SUCH);
        is("behind the sixty-fourth one", sewn(FULL).reading(0, 64, 0), NO_SUCH);
        is("behind those that are unlike", sewn("ab|ab").reading(0, 4, 0), NO_SUCH);
        for (int far : FAR) {
            is("reading " + far, x.reading(0, far, 0), NO_SUCH);
        }
    }

    @Edge(promise = 12, says = "NO_SUCH if there is no such scroll, reading or letter")
    static void noSuchLetterOfAReading() {
        SeamReadings x = sewn("ab|c;d");
        is("behind the last one", x.reading(0, 0, 3), NO_SUCH);
        is("behind the last one of the last reading", x.reading(0, 3, 3), NO_SUCH);
        is("behind the only one", x.reading(1, 0, 1), NO_SUCH);
        is("behind the sixtieth one", sewn(FULL).reading(0, 0, 60), NO_SUCH);
        for (int far : FAR) {
            is("letter " + far, x.reading(0, 0, far), NO_SUCH);
        }
    }

    // ---- promise 13

    private static int found(String scroll, String word, int what) {
        SeamReadings x = sewn(scroll);
        Due.putAll(x, word);
        return x.find(0, what);
    }

    @Edge(promise = 13, says = "Tells about the word in the pad in the readings of a scroll")
    static void thePadKeepsTheWord() {
        SeamReadings x = sewn("ab|c;d");
        Due.putAll(x, "ab");
        is("in the first one", x.find(0, 0), 2);
        is("in the second one", x.find(1, 0), 0);
        is("in the first one again", x.find(0, 0), 2);
        is("the length of the pad", x.count(5), 2);
    }

    @Edge(promise = 13, says = "0 in how many readings it stands anywhere")
    static void atTheBeginningAcrossASeamAtTheEndNowhere() {
        is("at the beginning of one", found("ab|cd", "ab", 0), 4);
        is("at the beginning alone", found("ab|cd", "abc", 0), 1);
        is("across a seam", found("ab|cd", "bc", 0), 1);
        is("at the end alone", found("ab|cd", "acd", 0), 1);
        is("a whole reading", found("ab|cd", "dcba", 0), 1);
        is("across a seam, both read backward", found("ab|cd", "ad", 0), 1);
        is("nowhere", found("ab|cd", "aa", 0), 0);
        is("longer than a reading", found("ab|cd", "abcda", 0), 0);
        is("longer than the only letter", found("a", "aa", 0), 0);
        is("in all sixty-four", found(FULL, "p", 0), 64);
    }

    @Edge(promise = 13, says = "0 in how many readings it stands anywhere")
    static void aReadingInWhichItStandsTwiceCountsOnce() {
        is("a of aa", found("aa", "a", 0), 1);
        is("ab of abab, abba, baab, baba", found("ab|ab", "ab", 0), 4);
    }

    @Edge(promise = 13, says = "1 the number of the first such reading (NONE)")
    static void theFirstReadingALaterOneTheLastOneNone() {
        is("the first", found("ab|cd", "ab", 1), 0);
        is("a later one", found("ab|cd", "ba", 1), 2);
        is("the last one", found("ab|cd", "dcba", 1), 7);
        is("none", found("ab|cd", "aa", 1), NONE);
        is("longer than a reading", found("ab|cd", "abcda", 1), NONE);
    }

    @Edge(promise = 13, says = "2 the place at which it first stands in that (NONE)")
    static void theFirstPlaceALaterOneTheLastOneNone() {
        is("the first", found("ab|cd", "ab", 2), 0);
        is("a later one", found("ab|cd", "bc", 2), 1);
        is("the last one", found("ab|cd", "dc", 2), 2);
        is("the first of two in the first such reading", found("aa|b", "a", 2), 0);
        is("a lesser place in a later reading does not count", found("b|aa|c", "c", 2), 3);
        is("none", found("ab|cd", "aa", 2), NONE);
        is("the fifty-ninth", found(FULL, "yz", 2), 58);
        is("longer than a reading", found("ab|cd", "abcda", 2), NONE);
    }

    @Edge(promise = 13, says = "3 whether it stands in all readings (1 or 0)")
    static void inAllInAllButOneInNone() {
        is("in all, at unlike places", found("ab|cd", "a", 3), 1);
        is("in the only one", found("aba", "aba", 3), 1);
        is("in all but one", found("ab|ba", "abb", 3), 0);
        is("in some", found("ab|cd", "ab", 3), 0);
        is("in none", found("ab|cd", "aa", 3), 0);
        is("longer than a reading", found("a", "aa", 3), 0);
        is("in all sixty-four", found(FULL, "p", 3), 1);
    }

    @Edge(promise = 13, says = "Returns the number")
    static void ofEachWhatOfFind() {
        int[] want = {2, 1, 0, 0};
        for (int what = 0; what < 4; what++) {
            is("what " + what, found("ab|c", "ba", what), want[what]);
        }
    }

    @Edge(promise = 13, says = "NO_SUCH if there is no such scroll")
    static void findInNoSuchScroll() {
        SeamReadings none = new SeamReadings();
        none.put('a');
        is("on an empty shelf", none.find(0, 0), NO_SUCH);
        SeamReadings x = sewn("a;b");
        x.put('a');
        is("behind the last one", x.find(2, 0), NO_SUCH);
        for (int far : FAR) {
            is("in " + far, x.find(far, 0), NO_SUCH);
        }
    }

    @Edge(promise = 13, says = "BAD_VALUE if what is out of range")
    static void findWithAWhatOutOfRange() {
        SeamReadings x = sewn("a;b");
        x.put('a');
        is("the last what", x.find(1, 3), 0);
        is("behind the last what", x.find(1, 4), BAD_VALUE);
        for (int far : FAR) {
            is("what " + far, x.find(0, far), BAD_VALUE);
        }
    }

    @Edge(promise = 13, says = "BAD_TEXT if the pad is no word")
    static void thePadIsNoWord() {
        for (String none : new String[] {"", "abcdefghijklm", "a|b", "a;b", "a|", "A", "a1", "`", "{", FULL}) {
            for (int what = 0; what < 4; what++) {
                is("find " + what + " of " + none, found("ab", none, what), BAD_TEXT);
            }
        }
        is("find of twelve letters", found("abcdefghijkl", "abcdefghijkl", 0), 1);
    }

    // ---- promise 14

    @Edge(promise = 14, says = "Returns how many readings two scrolls share")
    static void allSomeAndNone() {
        SeamReadings x = sewn("ab|c;c|ba;abc;acb;d");
        is("all", x.shared(0, 1), 4);
        is("some", x.shared(0, 2), 2);
        is("some, the other way", x.shared(2, 0), 2);
        is("none of the same letters", x.shared(0, 3), 0);
        is("none of another length", x.shared(0, 4), 0);
    }

    // A row that only begins as a reading does is not that reading.
    @Edge(promise = 14, says = "Returns how many readings two scrolls share")
    static void readingsThatBeginAlikeAreNotShared() {
        SeamReadings x = sewn("ab;abc;a");
        is("a longer one", x.shared(0, 1), 0);
        is("a shorter one", x.shared(1, 0), 0);
        is("one of one letter", x.shared(2, 0), 0);
    }

    @Edge(promise = 14, says = "Returns how many")
    static void withItselfAsManyAsItHas() {
        SeamReadings x = sewn("ab|c;a;ab|ab");
        is("four", x.shared(0, 0), 4);
        is("one", x.shared(1, 1), 1);
        is("readings of both ends", x.shared(2, 2), 4);
        is("sixty-four", sewn(FULL).shared(0, 0), 64);
    }

    @Edge(promise = 14, says = "NO_SUCH if there is no such scroll")
    static void sharedOfNoSuchFirstOne() {
        is("on an empty shelf", new SeamReadings().shared(0, 0), NO_SUCH);
        SeamReadings x = sewn("a;b");
        is("behind the last one", x.shared(2, 0), NO_SUCH);
        for (int far : FAR) {
            is("of " + far, x.shared(far, 0), NO_SUCH);
        }
    }

    @Edge(promise = 14, says = "NO_SUCH if there is no such scroll")
    static void sharedOfNoSuchOtherOne() {
        SeamReadings x = sewn("a;b");
        is("behind the last one", x.shared(0, 2), NO_SUCH);
        for (int far : FAR) {
            is("with " + far, x.shared(0, far), NO_SUCH);
            is("of " + far + " with itself", x.shared(far, far), NO_SUCH);
        }
    }

    // ---- promise 15

    @Edge(promise = 15, says = "Tells how the readings of two scrolls stand to one another")
    static void eachScrollWithItselfTheSame() {
        SeamReadings x = sewn("a;ab|c;ab|ab");
        for (int scroll = 0; scroll < 3; scroll++) {
            is("scroll " + scroll, x.compare(scroll, scroll), 4);
        }
    }

    private static final String STAND = "Returns 0 they share none, 1 they share some, but each has others, too, "
        + "2 all of the first one are readings of the other one, but not the other way, "
        + "3 all of the other one are readings of the first one, but not the other way, 4 they are the same";

    private static int compared(String both) {
        return sewn(both).compare(0, 1);
    }

    @Edge(promise = 15, says = STAND)
    static void zeroTheyShareNone() {
        is("other letters", compared("a;b"), 0);
        is("the same letters, other readings", compared("abc;acb"), 0);
        is("another length", compared("a;aa"), 0);
        is("another length, the other way", compared("aa;a"), 0);
    }

    @Edge(promise = 15, says = STAND)
    static void oneTheyShareSomeAndEachHasOthers() {
        is("two of four and two of four", compared("ab|c;a|bc"), 1);
        is("two of eight and two of four", compared("ab|cd;a|bc|d"), 1);
        is("two of four and two of eight", compared("a|bc|d;ab|cd"), 1);
        is("as many each", compared("a|bc|d;abc|d"), 1);
    }

    @Edge(promise = 15, says = STAND)
    static void twoAllOfTheFirstOne() {
        is("one patch and three", compared("abc;a|bc"), 2);
        is("two patches and three", compared("aa|a|b;aa|ab"), 2);
    }

    @Edge(promise = 15, says = STAND)
    static void threeAllOfTheOtherOne() {
        is("three patches and one", compared("a|bc;abc"), 3);
        is("three patches and two", compared("aa|ab;aa|a|b"), 3);
    }

    @Edge(promise = 15, says = STAND)
    static void fourTheyAreTheSame() {
        is("the same text", compared("ab|c;ab|c"), 4);
        is("from the other end", compared("ab|c;c|ba"), 4);
        is("other seams", compared("a|b;ab"), 4);
        is("one reading", compared("a|aa;aaa"), 4);
        SeamReadings x = sewn(FULL, FULL);
        is("sixty-four", x.compare(0, 1), 4);
    }

    @Edge(promise = 15, says = "NO_SUCH if there is no such scroll")
    static void compareOfNoSuchFirstOne() {
        is("on an empty shelf", new SeamReadings().compare(0, 0), NO_SUCH);
        SeamReadings x = sewn("a;b");
        is("behind the last one", x.compare(2, 0), NO_SUCH);
        for (int far : FAR) {
            is("of " + far, x.compare(far, 0), NO_SUCH);
        }
    }

    @Edge(promise = 15, says = "NO_SUCH if there is no such scroll")
    static void compareWithNoSuchOtherOne() {
        SeamReadings x = sewn("a;b");
        is("behind the last one", x.compare(0, 2), NO_SUCH);
        for (int far : FAR) {
            is("with " + far, x.compare(0, far), NO_SUCH);
            is("of " + far + " with itself", x.compare(far, far), NO_SUCH);
        }
    }

    // ---- promise 16

    /** Five scrolls of sixty letters each, none of which shares a reading with another one. */
    private static SeamReadings fullShelf() {
        String four = "abcdefghijkl|mnopqrstuvwx|abcdefghijkm|mnopqrstuvwz|zyxwvutsrqp";
        return sewn(four + "a", four + "b", four + "c", four + "d", four + "e");
    }

    @Edge(promise = 16, says = "Returns a number")
    static void allNoughtOfANewObject() {
        for (int what = 0; what < 7; what++) {
            is("count of " + what, new SeamReadings().count(what), 0);
        }
    }

    @Edge(promise = 16, says = "0 scrolls")
    static void scrollsFrom0To5() {
        SeamReadings x = new SeamReadings();
        for (int scrolls = 1; scrolls <= 5; scrolls++) {
            x.put('a');
            x.sew();
            is("scrolls", x.count(0), scrolls);
        }
        for (int scrolls = 4; scrolls >= 0; scrolls--) {
            x.burn(0);
            is("scrolls left", x.count(0), scrolls);
        }
    }

    @Edge(promise = 16, says = "1 patches of all")
    static void patchesFrom0To25() {
        is("one", sewn("abc").count(1), 1);
        is("of unlike scrolls", sewn("ab|c;d;e|f|g").count(1), 6);
        is("of a full shelf", fullShelf().count(1), 25);
        SeamReadings x = sewn("a|b");
        x.burn(0);
        is("of none that is left", x.count(1), 0);
    }

    @Edge(promise = 16, says = "2 letters of all")
    static void lettersFrom0To300() {
        is("one", sewn("a").count(2), 1);
        is("of unlike scrolls", sewn("ab|c;d;e|f|gh").count(2), 8);
        is("of a full shelf", fullShelf().count(2), 300);
        SeamReadings x = sewn("a|b");
        x.burn(0);
        is("of none that is left", x.count(2), 0);
    }

    @Edge(promise = 16, says = "3 unlike readings of all scrolls together")
    static void readingsFrom0To320() {
        is("one", sewn("a").count(3), 1);
        is("of a full shelf", fullShelf().count(3), 320);
    }

    @Edge(promise = 16, says = "3 unlike readings of all scrolls together")
    static void aReadingOfSeveralScrollsCountsOnce() {
        is("of two that are the same", sewn("ab|c;c|ba").count(3), 4);
        is("of two that share some", sewn("ab|c;a|bc").count(3), 6);
        is("of the first and the last", sewn("ab;cd;ef;gh;ba").count(3), 8);
        is("of all", sewn("a|b;b|a;ab;ba;a|b").count(3), 2);
        is("of unlike lengths", sewn("a;aa;aaa").count(3), 3);
    }

    @Edge(promise = 16, says = "4 pairs of scrolls with the same readings")
    static void pairsFrom0To10() {
        is("none of one alone", sewn("a").count(4), 0);
        is("none of two that share some", sewn("ab|c;a|bc").count(4), 0);
        is("none of two, one of which has all of the other one", sewn("abc;ab|c").count(4), 0);
        is("none of two that have as many", sewn("ab;cd").count(4), 0);
        is("one", sewn("ab|c;c|ba").count(4), 1);
        is("the first and the last", sewn("ab;cd;ef;gh;ba").count(4), 1);
        is("two and three", sewn("a;a;b;b;b").count(4), 4);
        is("all", sewn("a|b;b|a;ab;ba;a|b").count(4), 10);
    }

    @Edge(promise = 16, says = "5 the length of the pad")
    static void lengthFrom0To64() {
        SeamReadings x = new SeamReadings();
        x.put('!');
        is("one", x.count(5), 1);
        x.wipe();
        Due.putAll(x, FULL);
        is("sixty-four", x.count(5), 64);
        x.sew();
        is("sewn", x.count(5), 0);
    }

    @Edge(promise = 16, says = "6 how many changes can be undone")
    static void changesFrom0To6() {
        SeamReadings x = new SeamReadings();
        x.put('a');
        x.sew();
        for (int changes = 1; changes <= 8; changes++) {
            is("changes", x.count(6), Math.min(changes, 6));
            x.turn(0, 0);
        }
        for (int changes = 5; changes >= 0; changes--) {
            x.undo();
            is("changes left", x.count(6), changes);
        }
    }

    @Edge(promise = 16, says = "Returns the number")
    static void ofEachWhatOfCount() {
        int[] want = {4, 8, 12, 6, 1, 3, 1};
        SeamReadings x = sewn("ab|c;abc;c|ba;d|e|f");
        Due.putAll(x, "a|!");
        for (int what = 0; what < 7; what++) {
            is("what " + what, x.count(what), want[what]);
        }
    }

    @Edge(promise = 16, says = "BAD_VALUE if what is out of range")
    static void countOfAWhatOutOfRange() {
        SeamReadings x = sewn("a;b");
        is("behind the last what", x.count(7), BAD_VALUE);
        for (int far : FAR) {
            is("what " + far, x.count(far), BAD_VALUE);
        }
    }

    // ---- promise 17

    @Edge(promise = 17, says = "Tells how many readings a scroll would have, if a patch was cut")
    static void moreThanBeforeAsManyAndFewer() {
        is("more", sewn("abc").ifCut(0, 0, 1), 4);
        is("as many", sewn("ab").ifCut(0, 0, 1), 2);
        is("fewer", sewn("ab|c").ifCut(0, 0, 1), 2);
        is("of the patch of that number", sewn("ab|cdef").ifCut(0, 1, 2), 16);
        is("of the scroll of that number", sewn("a;bcde").ifCut(1, 0, 2), 8);
    }

    @Edge(promise = 17, says = "1 to the number of its letters less 1")
    static void theFirstPlaceToTheLastOne() {
        int[] want = {4, 8, 8, 8, 8, 8, 8, 8, 8, 8, 4};
        SeamReadings x = sewn("abcdefghijkl");
        for (int place = 1; place <= 11; place++) {
            is("ifCut at " + place, x.ifCut(0, 0, place), want[place - 1]);
        }
        is("the one place of two letters", sewn("a|bc").ifCut(0, 1, 1), 2);
    }

    @Edge(promise = 17, says = "Returns how many (also if it has 5 patches)")
    static void ofAScrollOfFivePatches() {
        SeamReadings x = sewn("ab|cd|ef|gh|ij");
        is("the first patch", x.ifCut(0, 0, 1), 32);
        is("the last patch", x.ifCut(0, 4, 1), 32);
        is("cut itself is refused", x.cut(0, 4, 1), TOO_MANY);
        is("the most that there can be", sewn(FULL).ifCut(0, 2, 6), 128);
        is("the last place of the last patch", sewn(FULL).ifCut(0, 4, 11), 64);
        is("the fewest that there can be", sewn("a|a|a|a|aa").ifCut(0, 4, 1), 1);
    }

    @Edge(promise = 17, says = "NO_SUCH if there is no such scroll or patch")
    static void ifCutOfNoSuchScroll() {
        is("on an empty shelf", new SeamReadings().ifCut(0, 0, 1), NO_SUCH);
        SeamReadings x = sewn("ab|cd;ef");
        is("behind the last one", x.ifCut(2, 0, 1), NO_SUCH);
        for (int far : FAR) {
            is("in " + far, x.ifCut(far, 0, 1), NO_SUCH);
        }
    }

    @Edge(promise = 17, says = "NO_SUCH if there is no such scroll or patch")
    static void ifCutOfNoSuchPatch() {
        SeamReadings x = sewn("ab|cd;ef;ab|cd|ef|gh|ij");
        is("behind the last one", x.ifCut(0, 2, 1), NO_SUCH);
        is("behind the only one", x.ifCut(1, 1, 1), NO_SUCH);
        is("behind the fifth one", x.ifCut(2, 5, 1), NO_SUCH);
        for (int far : FAR) {
            is("of patch " + far, x.ifCut(0, far, 1), NO_SUCH);
        }
    }

    @Edge(promise = 17, says = "BAD_VALUE if place is out of range")
    static void ifCutAtAPlaceOutOfRange() {
        SeamReadings x = sewn("abc|defghijk|l;ab|cd|ef|gh|ij");
        is("at 0", x.ifCut(0, 0, 0), BAD_VALUE);
        is("behind all letters", x.ifCut(0, 0, 3), BAD_VALUE);
        is("in the next patch", x.ifCut(0, 0, 4), BAD_VALUE);
        is("of a patch of one letter", x.ifCut(0, 2, 1), BAD_VALUE);
        is("of five patches, behind all letters", x.ifCut(1, 0, 2), BAD_VALUE);
        is("behind twelve letters", sewn("abcdefghijkl").ifCut(0, 0, 12), BAD_VALUE);
        for (int far : FAR) {
            is("at " + far, x.ifCut(0, 1, far), BAD_VALUE);
        }
    }

    // ---- promise 18

    private static void best(String scroll, int patch, int place, int many) {
        SeamReadings x = sewn(scroll);
        is("patch of " + scroll, x.bestCut(0, 0), patch);
        is("place of " + scroll, x.bestCut(0, 1), place);
        is("readings of " + scroll, x.bestCut(0, 2), many);
    }

    @Edge(promise = 18, says = "Finds the cut that would bring the most readings")
    static void theOnlyCutAMiddleOneALaterPatch() {
        best("ab", 0, 1, 2);
        best("a|b|c|d|ef", 4, 1, 2);
        best("abcd", 0, 2, 8);
        best("a|abcd", 1, 2, 8);
        best("ab|abcd|abcd", 1, 2, 32);
    }

    @Edge(promise = 18, says = "Finds the cut that would bring the most readings")
    static void theLastPlaceOfTheLastPatch() {
        best("abb", 0, 2, 3);
        best("a|a|abb", 2, 2, 4);
    }

    @Edge(promise = 18, says = "Finds the cut that would bring the most readings")
    static void readingsOfBothEndsCountOnce() {
        best("aab|baa", 0, 1, 7);
        best("aba", 0, 1, 3);
    }

    @Edge(promise = 18, says = "Finds the cut that would bring the most readings")
    static void fewerThanThereAreNowAndOfFivePatches() {
        best("ab|c", 0, 1, 2);
        best("ab|cd|ef|gh|ij", 0, 1, 32);
        best(FULL, 0, 2, 128);
    }

    private static final String SEVERAL = "of several the one in the lowest patch, of these with the lowest place";

    @Edge(promise = 18, says = SEVERAL)
    static void ofTwoPatchesTheLower() {
        best("ab|cd", 0, 1, 4);
        best("a|bc|de", 1, 1, 4);
        best("aa|aa", 0, 1, 1);
    }

    @Edge(promise = 18, says = SEVERAL)
    static void ofTwoPlacesTheLower() {
        best("abc", 0, 1, 4);
        best("aaaaaaaaaaaa", 0, 1, 1);
        best("abcdef", 0, 2, 8);
    }

    // The lower patch has it at place 2, the higher one at place 1.
    @Edge(promise = 18, says = SEVERAL)
    static void theLowerPatchIsBeforeTheLowerPlace() {
        best("baa|yyx", 0, 2, 8);
    }

    @Edge(promise = 18, says = "0 the patch")
    static void thePatchIsNumberedFrom0() {
        is("the first one", sewn("ab|c").bestCut(0, 0), 0);
        is("the fifth one", sewn("a|b|c|d|ef").bestCut(0, 0), 4);
    }

    @Edge(promise = 18, says = "1 the place")
    static void thePlaceIsThatOfACut() {
        SeamReadings x = sewn("a|abcdefg");
        int place = x.bestCut(0, 1);
        is("the place", place, 2);
        is("ifCut there", x.ifCut(0, 1, place), x.bestCut(0, 2));
        is("cut there", x.cut(0, 1, place), 3);
        is("the readings then", x.scroll(0, 2), 8);
    }

    @Edge(promise = 18, says = "2 how many readings")
    static void asManyAsIfCutTellsFrom1To128() {
        is("one", sewn("aa").bestCut(0, 2), 1);
        is("eight", sewn("abcd").bestCut(0, 2), 8);
        is("a hundred and twenty-eight", sewn(FULL).bestCut(0, 2), 128);
    }

    @Edge(promise = 18, says = "Returns the number")
    static void ofEachWhatOfBestCut() {
        best("a|abcd", 1, 2, 8);
    }

    @Edge(promise = 18, says = "NO_SUCH if there is no such scroll")
    static void bestCutOfNoSuchScroll() {
        is("on an empty shelf", new SeamReadings().bestCut(0, 0), NO_SUCH);
        SeamReadings x = sewn("ab;cd");
        is("behind the last one", x.bestCut(2, 0), NO_SUCH);
        for (int far : FAR) {
            is("of " + far, x.bestCut(far, 0), NO_SUCH);
        }
    }

    @Edge(promise = 18, says = "BAD_VALUE if what is out of range")
    static void bestCutWithAWhatOutOfRange() {
        SeamReadings x = sewn("ab;c");
        for (int scroll = 0; scroll < 2; scroll++) {
            is("behind the last what, of " + scroll, x.bestCut(scroll, 3), BAD_VALUE);
            for (int far : FAR) {
                is("what " + far + " of " + scroll, x.bestCut(scroll, far), BAD_VALUE);
            }
        }
    }

    @Edge(promise = 18, says = "NONE if no patch has two letters")
    static void onePatchOrFiveOfOneLetter() {
        for (int what = 0; what < 3; what++) {
            is("one, " + what, sewn("a").bestCut(0, what), NONE);
            is("five, " + what, sewn("a|b|c|d|e").bestCut(0, what), NONE);
            is("the scroll of that number, " + what, sewn("ab;c").bestCut(1, what), NONE);
        }
    }
}
