/** Promise by promise: ordinary calls, the edges that the document names, and wrong ones. */
final class PromiseTest {
    private static final int NO_SUCH = -1, BAD_VALUE = -2, BAD_TEXT = -3, TOO_MANY = -4, NOT_POSSIBLE = -5, NONE = -6;
    private static final int LEAST = Integer.MIN_VALUE, GREATEST = Integer.MAX_VALUE;
    private static final Due due = new Due("PromiseTest");
    // Five patches of twelve letters: as much as a scroll can hold, and as the pad can.
    private static final String FULL = "abcdefghijkl|mnopqrstuvwx|abcdefghijkm|mnopqrstuvwz|zyxwvutsrqpo";

    public static void main(String[] arguments) {
        promise1NewObject();
        promise2Sew();
        promise3Burn();
        promise4Cut();
        promise5UndoSeam();
        promise6Turn();
        promise7Exchange();
        promise8Join();
        promise9Scroll();
        promise10Patch();
        promise11Letter();
        promise12Reading();
        promise13Find();
        promise14Shared();
        promise15Compare();
        promise16Count();
        promise17IfCut();
        promise18BestCut();
        promise19Put();
        promise20Wipe();
        promise21Fault();
        promise22Undo();
        promise23Save();
        promise24Restore();
        due.end();
    }

    private static void readings(String scroll, String... all) {
        SeamReadings x = Due.shelf(scroll);
        due.is("readings of " + scroll, x.scroll(0, 2), all.length);
        for (int i = 0; i < all.length; i++) {
            due.text("reading " + i + " of " + scroll, Due.reading(x, 0, i), all[i]);
        }
        due.is("reading behind the last one of " + scroll, x.reading(0, all.length, 0), NO_SUCH);
    }

    private static void promise1NewObject() {
        SeamReadings x = new SeamReadings();
        for (int what = 0; what <= 6; what++) {
            due.is("1: count " + what, x.count(what), 0);
        }
        due.is("1: scroll", x.scroll(0, 0), NO_SUCH);
        due.is("1: undo", x.undo(), NOT_POSSIBLE);
        due.is("1: restore 0", x.restore(0), NOT_POSSIBLE);
        due.is("1: restore 1", x.restore(1), NOT_POSSIBLE);
        due.is("1: wipe", x.wipe(), 0);
        due.is("1: fault", x.fault(), 0);
        SeamReadings other = Due.shelf("ab|c");
        due.is("1: two objects share nothing", x.count(0), 0);
        due.is("1: the other one", other.count(0), 1);
    }

    private static void promise2Sew() {
        SeamReadings x = new SeamReadings();
        due.is("2: an empty pad", x.sew(), BAD_TEXT);
        Due.putAll(x, "ab|c;de");
        due.is("2: two scrolls", x.sew(), 2);
        due.is("2: the pad is empty then", x.count(5), 0);
        due.text("2: the first one", Due.scroll(x, 0), "ab|c");
        due.text("2: the second one", Due.scroll(x, 1), "de");
        Due.putAll(x, "f;");
        due.is("2: a text that ends too early", x.sew(), BAD_TEXT);
        due.is("2: an error leaves the pad", x.count(5), 2);
        due.is("2: an error is no change", x.count(6), 1);
        Due.putAll(x, "g;h;i");
        due.is("2: six scrolls", x.sew(), TOO_MANY);
        due.is("2: too many leave the pad", x.wipe(), 7);
        Due.putAll(x, "g;h;i");
        due.is("2: five scrolls", x.sew(), 5);
        due.text("2: the last one", Due.scroll(x, 4), "i");
        due.is("2: an empty pad on a full shelf", x.sew(), BAD_TEXT);
        Due.putAll(x, "a");
        due.is("2: a sixth scroll", x.sew(), TOO_MANY);
        SeamReadings full = Due.shelf(FULL);
        due.text("2: the longest scroll", Due.scroll(full, 0), FULL);
        due.is("2: has sixty letters", full.scroll(0, 1), 60);
        for (int i = 0; i < 4; i++) {
            Due.putAll(full, FULL);
            due.is("2: the longest scroll again", full.sew(), i + 2);
        }
        due.is("2: letters of all", full.count(2), 300);
        due.is("2: patches of all", full.count(1), 25);
    }

    private static void promise3Burn() {
        SeamReadings x = Due.shelf("ab|c;de;f");
        due.is("3: behind the last one", x.burn(3), NO_SUCH);
        due.is("3: below the first one", x.burn(-1), NO_SUCH);
        due.is("3: the least number", x.burn(LEAST), NO_SUCH);
        due.is("3: the greatest number", x.burn(GREATEST), NO_SUCH);
        due.is("3: errors are no changes", x.count(6), 1);
        due.is("3: the second one", x.burn(1), 2);
        due.text("3: those behind it move up", Due.scroll(x, 1), "f");
        due.text("3: those before it stay", Due.scroll(x, 0), "ab|c");
        due.is("3: the first one", x.burn(0), 3);
        due.is("3: the last one", x.burn(0), 1);
        due.is("3: none is left", x.count(0), 0);
        due.is("3: a change each", x.count(6), 4);
        Due.putAll(x, "x|y");
        due.is("3: sewn anew", x.sew(), 1);
        due.text("3: nothing is left of those before", Due.scroll(x, 0), "x|y");
    }

    private static void promise4Cut() {
        SeamReadings x = Due.shelf("abcd|e;abcdefghijkl");
        due.is("4: no such scroll", x.cut(2, 0, 1), NO_SUCH);
        due.is("4: no such patch", x.cut(0, 2, 1), NO_SUCH);
        due.is("4: a patch below the first one", x.cut(0, -1, 1), NO_SUCH);
        due.is("4: no such patch, and a bad place", x.cut(0, 2, 0), NO_SUCH);
        due.is("4: place 0", x.cut(0, 0, 0), BAD_VALUE);
        due.is("4: place behind all letters", x.cut(0, 0, 4), BAD_VALUE);
        due.is("4: a patch of one letter", x.cut(0, 1, 1), BAD_VALUE);
        due.is("4: the least place", x.cut(0, 0, LEAST), BAD_VALUE);
        due.is("4: the greatest place", x.cut(0, 0, GREATEST), BAD_VALUE);
        due.is("4: errors are no changes", x.count(6), 1);
        due.is("4: the first place", x.cut(0, 0, 1), 3);
        due.text("4: cut once", Due.scroll(x, 0), "a|bcd|e");
        due.is("4: the last place", x.cut(0, 1, 2), 4);
        due.text("4: cut twice", Due.scroll(x, 0), "a|bc|d|e");
        due.is("4: a fifth patch", x.cut(0, 1, 1), 5);
        due.is("4: a change each", x.count(6), 4);
        due.is("4: the range is checked first", x.cut(0, 1, 1), BAD_VALUE);
        due.text("4: the other scroll stays", Due.scroll(x, 1), "abcdefghijkl");
        SeamReadings full = Due.shelf("ab|cd|ef|gh|ij");
        due.is("4: a sixth patch", full.cut(0, 4, 1), TOO_MANY);
        due.is("4: a sixth patch out of range", full.cut(0, 4, 2), BAD_VALUE);
        due.is("4: a sixth patch of no such patch", full.cut(0, 5, 1), NO_SUCH);
    }

    private static void promise5UndoSeam() {
        SeamReadings x = Due.shelf("ab|c|de;abcdef|ghijkl;abcdef|ghijklm|n");
        due.is("5: no such scroll", x.undoSeam(3, 0), NO_SUCH);
        due.is("5: behind the last seam", x.undoSeam(0, 2), NO_SUCH);
        due.is("5: below the first seam", x.undoSeam(0, -1), NO_SUCH);
        due.is("5: the least seam", x.undoSeam(0, LEAST), NO_SUCH);
        due.is("5: the greatest seam", x.undoSeam(0, GREATEST), NO_SUCH);
        due.is("5: thirteen letters", x.undoSeam(2, 0), TOO_MANY);
        due.is("5: errors are no changes", x.count(6), 1);
        due.is("5: the last seam", x.undoSeam(0, 1), 2);
        due.text("5: both are one, forward as they are", Due.scroll(x, 0), "ab|cde");
        due.is("5: the first seam", x.undoSeam(0, 0), 1);
        due.text("5: one patch", Due.scroll(x, 0), "abcde");
        due.is("5: no seam is left", x.undoSeam(0, 0), NO_SUCH);
        due.is("5: twelve letters", x.undoSeam(1, 0), 1);
        due.is("5: eight letters", x.undoSeam(2, 1), 2);
        due.is("5: a change each", x.count(6), 5);
    }

    private static void promise6Turn() {
        SeamReadings x = Due.shelf("abc|d|efgh;abba|abca");
        due.is("6: no such scroll", x.turn(2, 0), NO_SUCH);
        due.is("6: no such patch", x.turn(0, 3), NO_SUCH);
        due.is("6: below the first patch", x.turn(0, -1), NO_SUCH);
        due.is("6: the least patch", x.turn(0, LEAST), NO_SUCH);
        due.is("6: the greatest patch", x.turn(0, GREATEST), NO_SUCH);
        due.is("6: errors are no changes", x.count(6), 1);
        due.is("6: an odd number of letters", x.turn(0, 0), 2);
        due.is("6: an even number of letters", x.turn(0, 2), 4);
        due.is("6: one letter", x.turn(0, 1), 0);
        due.text("6: turned", Due.scroll(x, 0), "cba|d|hgfe");
        due.is("6: the same forward and backward", x.turn(1, 0), 0);
        due.is("6: half the same", x.turn(1, 1), 2);
        due.text("6: turned, too", Due.scroll(x, 1), "abba|acba");
        due.is("6: a change each, also if nothing is different", x.count(6), 6);
    }

    private static void promise7Exchange() {
        SeamReadings x = Due.shelf("ab|c|defg;aa|a;ab|ab|ab");
        due.is("7: no such scroll", x.exchange(3, 0), NO_SUCH);
        due.is("7: behind the last seam", x.exchange(0, 2), NO_SUCH);
        due.is("7: below the first seam", x.exchange(0, -1), NO_SUCH);
        due.is("7: the least seam", x.exchange(0, LEAST), NO_SUCH);
        due.is("7: the greatest seam", x.exchange(0, GREATEST), NO_SUCH);
        due.is("7: errors are no changes", x.count(6), 1);
        due.is("7: the first seam", x.exchange(0, 0), 8);
        due.text("7: exchanged", Due.scroll(x, 0), "c|ab|defg");
        due.is("7: the last seam", x.exchange(0, 1), 8);
        due.text("7: exchanged again", Due.scroll(x, 0), "c|defg|ab");
        due.is("7: all the same letters", x.exchange(1, 0), 1);
        due.text("7: of unlike lengths", Due.scroll(x, 1), "a|aa");
        due.is("7: the same patches", x.exchange(2, 0), 8);
        due.is("7: a change each", x.count(6), 5);
        SeamReadings full = Due.shelf(FULL);
        due.is("7: the longest scroll", full.exchange(0, 3), 64);
        due.text("7: the longest scroll, exchanged", Due.scroll(full, 0), "abcdefghijkl|mnopqrstuvwx|abcdefghijkm|zyxwvutsrqpo|mnopqrstuvwz");
    }

    private static void promise8Join() {
        SeamReadings x = Due.shelf("ab|c;de;f|g|h|i;jk");
        due.is("8: no such scroll", x.join(4, 0), NO_SUCH);
        due.is("8: no such scroll to be behind", x.join(0, 4), NO_SUCH);
        due.is("8: below the first one", x.join(-1, 0), NO_SUCH);
        due.is("8: the same one that there is not", x.join(4, 4), NO_SUCH);
        due.is("8: the least number", x.join(0, LEAST), NO_SUCH);
        due.is("8: the same one", x.join(1, 1), BAD_VALUE);
        due.is("8: the same one, and too many", x.join(2, 2), BAD_VALUE);
        due.is("8: six patches", x.join(0, 2), TOO_MANY);
        due.is("8: six patches the other way", x.join(2, 0), TOO_MANY);
        due.is("8: errors are no changes", x.count(6), 1);
        due.is("8: behind a later one", x.join(0, 1), 0);
        due.text("8: the former stands behind", Due.scroll(x, 0), "de|ab|c");
        due.is("8: the former goes", x.count(0), 3);
        due.is("8: behind a former one, five patches", x.join(2, 1), 1);
        due.text("8: five patches", Due.scroll(x, 1), "f|g|h|i|jk");
        due.is("8: two are left", x.count(0), 2);
        due.is("8: a change each", x.count(6), 3);
        SeamReadings full = Due.shelf("abcdefghijkl|mnopqrstuvwx;abcdefghijkl|mnopqrstuvwx");
        Due.putAll(full, "yyyyyyyyyyyz");
        full.sew();
        due.is("8: to four patches", full.join(1, 0), 0);
        due.is("8: to sixty letters", full.join(0, 1), 0);
        due.text("8: sixty letters", Due.scroll(full, 0), "yyyyyyyyyyyz|abcdefghijkl|mnopqrstuvwx|abcdefghijkl|mnopqrstuvwx");
    }

    private static void scrollIs(String scroll, int... answers) {
        SeamReadings x = Due.shelf(scroll);
        for (int what = 0; what < answers.length; what++) {
            due.is("9: " + what + " of " + scroll, x.scroll(0, what), answers[what]);
        }
        due.is("9: nothing changes", x.count(6), 1);
    }

    private static void promise9Scroll() {
        scrollIs("a", 1, 1, 1, 1, 1, 1, 0);
        scrollIs("abc", 1, 3, 2, 2, 0, 0, 0);
        scrollIs("aba", 1, 3, 1, 1, 1, 1, 0);
        scrollIs("a|b", 2, 2, 2, 1, 2, 0, 1);
        scrollIs("a|a|a|a|a", 5, 5, 1, 1, 5, 1, 4);
        scrollIs("ab|c|de", 3, 5, 8, 4, 1, 0, 0);
        scrollIs("ab|ab", 2, 4, 4, 4, 0, 2, 0);
        scrollIs("ab|c|ab", 3, 5, 4, 4, 1, 2, 0);
        scrollIs("a|b|c", 3, 3, 2, 1, 3, 0, 0);
        scrollIs("aa|a|b", 3, 4, 2, 1, 3, 0, 1);
        scrollIs(FULL, 5, 60, 64, 32, 0, 0, 0);
        scrollIs("abababababab|abababababab|abababababab|abababababab|abababababab", 5, 60, 32, 32, 0, 0, 0);
        // the patch would have more than 12 letters, and still its seam can be undone
        scrollIs("aaaaaaaaaaaa|aaaaaaaaaaaa", 2, 24, 1, 1, 2, 1, 1);
        // as many readings without the seam as with it are not yet the same ones
        scrollIs("a|bc|d", 3, 4, 4, 2, 2, 0, 0);
        SeamReadings x = Due.shelf("ab|c");
        due.is("9: no such scroll", x.scroll(1, 0), NO_SUCH);
        due.is("9: below the first one", x.scroll(-1, 0), NO_SUCH);
        due.is("9: no such scroll, and a bad what", x.scroll(1, 7), NO_SUCH);
        due.is("9: behind the last what", x.scroll(0, 7), BAD_VALUE);
        due.is("9: below the first what", x.scroll(0, -1), BAD_VALUE);
        due.is("9: the least what", x.scroll(0, LEAST), BAD_VALUE);
        due.is("9: the greatest what", x.scroll(0, GREATEST), BAD_VALUE);
    }

    private static void promise10Patch() {
        SeamReadings x = Due.shelf("ab|c|abcdefghijkl;d");
        due.is("10: two letters", x.patch(0, 0), 2);
        due.is("10: one letter", x.patch(0, 1), 1);
        due.is("10: twelve letters", x.patch(0, 2), 12);
        due.is("10: another scroll", x.patch(1, 0), 1);
        due.is("10: behind the last patch", x.patch(0, 3), NO_SUCH);
        due.is("10: below the first patch", x.patch(0, -1), NO_SUCH);
        due.is("10: no such scroll", x.patch(2, 0), NO_SUCH);
        due.is("10: below the first scroll", x.patch(-1, 0), NO_SUCH);
        due.is("10: the least patch", x.patch(0, LEAST), NO_SUCH);
        due.is("10: the greatest patch", x.patch(0, GREATEST), NO_SUCH);
        due.is("10: nothing changes", x.count(6), 1);
    }

    private static void promise11Letter() {
        SeamReadings x = Due.shelf("az|c;mn");
        due.is("11: a", x.letter(0, 0, 0), 0);
        due.is("11: z", x.letter(0, 0, 1), 25);
        due.is("11: another patch", x.letter(0, 1, 0), 2);
        due.is("11: another scroll", x.letter(1, 0, 1), 13);
        due.is("11: behind the last letter", x.letter(0, 0, 2), NO_SUCH);
        due.is("11: behind the last letter of the last patch", x.letter(0, 1, 1), NO_SUCH);
        due.is("11: below the first letter", x.letter(0, 1, -1), NO_SUCH);
        due.is("11: no such patch", x.letter(0, 2, 0), NO_SUCH);
        due.is("11: below the first patch", x.letter(0, -1, 0), NO_SUCH);
        due.is("11: no such scroll", x.letter(2, 0, 0), NO_SUCH);
        due.is("11: the least letter", x.letter(0, 0, LEAST), NO_SUCH);
        due.is("11: the greatest letter", x.letter(0, 1, GREATEST), NO_SUCH);
        due.is("11: nothing changes", x.count(6), 1);
    }

    private static void promise12Reading() {
        readings("a", "a");
        readings("ba", "ab", "ba");
        readings("b|a", "ab", "ba");
        readings("ab|c", "abc", "bac", "cab", "cba");
        readings("ba|ab", "abab", "abba", "baab", "baba");
        readings("aa|ab", "aaab", "aaba", "abaa", "baaa");
        readings("ca|b", "acb", "bac", "bca", "cab");
        readings("ab|c|ba", "abcab", "abcba", "bacab", "bacba");
        readings("a|bc|d", "abcd", "acbd", "dbca", "dcba");
        readings("ab|dc|ef", "abcdef", "abcdfe", "abdcef", "abdcfe", "bacdef", "bacdfe", "badcef", "badcfe",
            "efcdab", "efcdba", "efdcab", "efdcba", "fecdab", "fecdba", "fedcab", "fedcba");
        readings("ab|c|ab|a", "aabcab", "aabcba", "abacab", "abacba", "abcaba", "abcbaa", "bacaba", "bacbaa");
        SeamReadings x = Due.shelf("ab|c;d");
        due.is("12: no such scroll", x.reading(2, 0, 0), NO_SUCH);
        due.is("12: below the first scroll", x.reading(-1, 0, 0), NO_SUCH);
        due.is("12: no such reading", x.reading(0, 4, 0), NO_SUCH);
        due.is("12: below the first reading", x.reading(0, -1, 0), NO_SUCH);
        due.is("12: the least reading", x.reading(0, LEAST, 0), NO_SUCH);
        due.is("12: the greatest reading", x.reading(0, GREATEST, 0), NO_SUCH);
        due.is("12: behind the last letter", x.reading(0, 0, 3), NO_SUCH);
        due.is("12: below the first letter", x.reading(0, 0, -1), NO_SUCH);
        due.is("12: the greatest letter", x.reading(0, 0, GREATEST), NO_SUCH);
        due.is("12: another scroll", x.reading(1, 0, 0), 3);
        due.is("12: nothing changes", x.count(6), 1);
        SeamReadings full = Due.shelf(FULL);
        due.text("12: the first one of the longest scroll", Due.reading(full, 0, 0), FULL.replace("|", "").replace("zyxwvutsrqpo", "opqrstuvwxyz"));
        due.is("12: the last one of the longest scroll", full.reading(0, 63, 59), 0);
        due.is("12: behind it", full.reading(0, 64, 0), NO_SUCH);
    }

    private static void found(SeamReadings x, String word, int... answers) {
        x.wipe();
        Due.putAll(x, word);
        for (int what = 0; what < 4; what++) {
            due.is("13: find " + what + " of " + word, x.find(0, what), answers[what]);
        }
        due.is("13: the pad stays", x.count(5), word.length());
    }

    private static void promise13Find() {
        SeamReadings x = Due.shelf("ab|c;abcdefghijkl|mn");
        found(x, "a", 4, 0, 0, 1);
        found(x, "ab", 2, 0, 0, 0);
        found(x, "ba", 2, 1, 0, 0);
        found(x, "ca", 1, 2, 0, 0);
        found(x, "ac", 1, 1, 1, 0);
        found(x, "bac", 1, 1, 0, 0);
        found(x, "cc", 0, NONE, NONE, 0);
        found(x, "abcd", 0, NONE, NONE, 0);
        found(x, "z", 0, NONE, NONE, 0);
        found(Due.shelf("aab|aab"), "aab", 4, 0, 0, 1);
        found(Due.shelf("aab|aab"), "bb", 1, 1, 2, 0);
        found(Due.shelf("xaab|x"), "ab", 2, 1, 2, 0);
        SeamReadings y = Due.shelf("abcdefghijkl|mn");
        found(y, "abcdefghijkl", 4, 0, 0, 0);
        found(y, "bcdefghijklm", 1, 0, 1, 0);
        SeamReadings full = Due.shelf(FULL);
        found(full, "zyxwvutsrqpo", 32, 1, 48, 0);
        found(full, "azyxwvutsrqp", 0, NONE, NONE, 0);
        due.is("13: no such scroll", y.find(1, 0), NO_SUCH);
        due.is("13: no such scroll, a bad what", y.find(-1, 4), NO_SUCH);
        due.is("13: behind the last what", y.find(0, 4), BAD_VALUE);
        due.is("13: below the first what", y.find(0, -1), BAD_VALUE);
        due.is("13: the least what", y.find(0, LEAST), BAD_VALUE);
        for (String none : new String[] {"", "abcdefghijklm", "a|b", "a;b", "A", "ab{", "`ab", "ab|"}) {
            y.wipe();
            Due.putAll(y, none);
            due.is("13: no word: " + none, y.find(0, 0), BAD_TEXT);
            due.is("13: a bad what before no word: " + none, y.find(0, 4), BAD_VALUE);
            due.is("13: no such scroll before no word: " + none, y.find(1, 0), NO_SUCH);
        }
        due.is("13: nothing changes", y.count(6), 1);
    }

    private static void promise14Shared() {
        SeamReadings y = Due.shelf("ab|cde|f|ga;ab|cd|e|f|ga;ag|f|cde|ba;abcdefga;ab|edc|f|ag");
        due.is("14: with one cut more", y.shared(0, 1), 8);
        due.is("14: told from the other end", y.shared(0, 2), 16);
        due.is("14: of one patch alone", y.shared(3, 0), 2);
        due.is("14: turned patches", y.shared(0, 4), 16);
        SeamReadings x = Due.shelf("ab|c;abc;c|ab;abcd;aa");
        due.is("14: some", x.shared(0, 1), 2);
        due.is("14: the other way", x.shared(1, 0), 2);
        due.is("14: all", x.shared(0, 2), 4);
        due.is("14: of unlike lengths", x.shared(0, 3), 0);
        due.is("14: none", x.shared(3, 4), 0);
        due.is("14: with itself", x.shared(0, 0), 4);
        due.is("14: no such first one", x.shared(5, 0), NO_SUCH);
        due.is("14: no such other one", x.shared(0, 5), NO_SUCH);
        due.is("14: below the first one", x.shared(-1, 0), NO_SUCH);
        due.is("14: below the other one", x.shared(0, -1), NO_SUCH);
        due.is("14: the least number", x.shared(LEAST, LEAST), NO_SUCH);
        due.is("14: nothing changes", x.count(6), 1);
        SeamReadings full = Due.shelf(FULL);
        Due.putAll(full, FULL);
        full.sew();
        due.is("14: of sixty letters", full.shared(0, 1), 64);
        full.exchange(1, 1);
        due.is("14: of sixty letters, and patches exchanged", full.shared(0, 1), 0);
    }

    private static void promise15Compare() {
        SeamReadings x = Due.shelf("ab|c;abc;c|ba;a|bc;abcd");
        due.is("15: all of the other one", x.compare(0, 1), 3);
        due.is("15: all of the first one", x.compare(1, 0), 2);
        due.is("15: the same", x.compare(0, 2), 4);
        due.is("15: some", x.compare(0, 3), 1);
        due.is("15: none", x.compare(0, 4), 0);
        due.is("15: with itself", x.compare(1, 1), 4);
        due.is("15: no such first one", x.compare(5, 0), NO_SUCH);
        due.is("15: no such other one", x.compare(0, 5), NO_SUCH);
        due.is("15: below the first one", x.compare(-1, 0), NO_SUCH);
        due.is("15: below the other one", x.compare(0, -1), NO_SUCH);
        due.is("15: nothing changes", x.count(6), 1);
    }

    private static void promise16Count() {
        SeamReadings x = Due.shelf("ab|c;abc;c|ba;d|e|f");
        Due.putAll(x, "a|!");
        due.is("16: scrolls", x.count(0), 4);
        due.is("16: patches", x.count(1), 8);
        due.is("16: letters", x.count(2), 12);
        due.is("16: unlike readings", x.count(3), 6);
        due.is("16: pairs", x.count(4), 1);
        due.is("16: the length of the pad", x.count(5), 3);
        due.is("16: changes", x.count(6), 1);
        due.is("16: below the first what", x.count(-1), BAD_VALUE);
        due.is("16: behind the last what", x.count(7), BAD_VALUE);
        due.is("16: the least what", x.count(LEAST), BAD_VALUE);
        due.is("16: the greatest what", x.count(GREATEST), BAD_VALUE);
        due.is("16: ten pairs", Due.shelf("a|b;b|a;ab;ba;a|b").count(4), 10);
        due.is("16: readings of equal scrolls count once", Due.shelf("a|b;b|a;ab;ba;a|b").count(3), 2);
        for (int i = 0; i < 8; i++) {
            x.turn(0, 0);
        }
        due.is("16: at most six changes", x.count(6), 6);
    }

    private static void promise17IfCut() {
        SeamReadings x = Due.shelf("abc|d;ab|cd|ef|gh|ij;aab");
        due.is("17: the first place", x.ifCut(0, 0, 1), 4);
        due.is("17: the last place", x.ifCut(0, 0, 2), 4);
        due.is("17: a sixth patch", x.ifCut(1, 0, 1), 32);
        due.is("17: two letters of one kind", x.ifCut(2, 0, 2), 2);
        due.is("17: more than before", x.ifCut(2, 0, 1), 3);
        due.is("17: no such scroll", x.ifCut(3, 0, 1), NO_SUCH);
        due.is("17: no such patch", x.ifCut(0, 2, 1), NO_SUCH);
        due.is("17: below the first patch", x.ifCut(0, -1, 1), NO_SUCH);
        due.is("17: no such patch, and a bad place", x.ifCut(0, 2, 0), NO_SUCH);
        due.is("17: place 0", x.ifCut(0, 0, 0), BAD_VALUE);
        due.is("17: place behind all letters", x.ifCut(0, 0, 3), BAD_VALUE);
        due.is("17: a patch of one letter", x.ifCut(0, 1, 1), BAD_VALUE);
        due.is("17: the least place", x.ifCut(0, 0, LEAST), BAD_VALUE);
        due.is("17: the greatest place", x.ifCut(0, 0, GREATEST), BAD_VALUE);
        due.text("17: nothing is cut", Due.scroll(x, 0), "abc|d");
        due.text("17: nothing is cut of the longest one", Due.scroll(x, 1), "ab|cd|ef|gh|ij");
        due.is("17: nothing changes", x.count(6), 1);
        due.is("17: six parts, each of them unlike backward", Due.shelf(FULL).ifCut(0, 2, 6), 128);
    }

    private static void best(String scroll, int... answers) {
        SeamReadings x = Due.shelf(scroll);
        for (int what = 0; what < 3; what++) {
            due.is("18: best cut of " + scroll + ", " + what, x.bestCut(0, what), answers[what]);
        }
        due.text("18: nothing is cut", Due.scroll(x, 0), scroll);
        due.is("18: nothing changes", x.count(6), 1);
    }

    private static void promise18BestCut() {
        best("a", NONE, NONE, NONE);
        best("a|b|c|d|e", NONE, NONE, NONE);
        best("ab", 0, 1, 2);
        best("abcd", 0, 2, 8);
        best("abc", 0, 1, 4);
        best("aa|aa", 0, 1, 1);
        best("a|abcd", 1, 2, 8);
        best("ab|abcd|abcd", 1, 2, 32);
        best("ab|cd|ef|gh|ij", 0, 1, 32);
        best(FULL, 0, 2, 128);
        SeamReadings x = Due.shelf("a;ab");
        due.is("18: no such scroll", x.bestCut(2, 0), NO_SUCH);
        due.is("18: below the first one", x.bestCut(-1, 3), NO_SUCH);
        due.is("18: behind the last what", x.bestCut(1, 3), BAD_VALUE);
        due.is("18: below the first what", x.bestCut(1, -1), BAD_VALUE);
        due.is("18: a bad what, and no cut", x.bestCut(0, 3), BAD_VALUE);
        due.is("18: the least what", x.bestCut(1, LEAST), BAD_VALUE);
    }

    private static void promise19Put() {
        SeamReadings x = new SeamReadings();
        due.is("19: no character", x.put(0), BAD_VALUE);
        due.is("19: a code of 32", x.put(32), BAD_VALUE);
        due.is("19: a code of 127", x.put(127), BAD_VALUE);
        due.is("19: a code of 255", x.put(255), BAD_VALUE);
        due.is("19: a bad code ahead of good ones", x.put(32L << 8 | 'a'), BAD_VALUE);
        due.is("19: a bad code behind good ones", x.put('a' << 8 | 32), BAD_VALUE);
        due.is("19: 0 behind a character", x.put('a' << 8), BAD_VALUE);
        due.is("19: 0 between characters", x.put('a' << 16 | 'b'), BAD_VALUE);
        due.is("19: a bit above eight bits that are 0", x.put(1L << 16 | 'b'), BAD_VALUE);
        due.is("19: the highest bit alone", x.put(Long.MIN_VALUE), BAD_VALUE);
        due.is("19: the highest bit above a character", x.put(Long.MIN_VALUE | 'a'), BAD_VALUE);
        due.is("19: all bits", x.put(-1), BAD_VALUE);
        due.is("19: the greatest number", x.put(Long.MAX_VALUE), BAD_VALUE);
        due.is("19: a bad code of eight", x.put(Due.packed("abcdefgh") | 1L << 63), BAD_VALUE);
        due.is("19: errors leave the pad", x.count(5), 0);
        due.is("19: a code of 33", x.put(33), 1);
        due.is("19: a code of 126", x.put(126), 2);
        due.is("19: no change", x.count(6), 0);
        due.is("19: wiped", x.wipe(), 2);
        due.is("19: two characters", x.put(Due.packed("ab")), 2);
        due.is("19: eight characters", x.put(Due.packed("cdefghij")), 10);
        x.sew();
        due.text("19: the lowest bits are the last character", Due.scroll(x, 0), "abcdefghij");
        for (int i = 1; i <= 7; i++) {
            due.is("19: eight more", x.put(Due.packed("abcdefgh")), 8 * i);
        }
        due.is("19: to sixty-two", x.put(Due.packed("abcdef")), 62);
        due.is("19: beyond sixty-four", x.put(Due.packed("abc")), TOO_MANY);
        due.is("19: beyond sixty-four, and a bad code", x.put(Due.packed("a c")), BAD_VALUE);
        due.is("19: too many leave the pad", x.count(5), 62);
        due.is("19: to sixty-four", x.put(Due.packed("ab")), 64);
        due.is("19: one more", x.put('a'), TOO_MANY);
        due.is("19: none more", x.put(0), BAD_VALUE);
    }

    private static void promise20Wipe() {
        SeamReadings x = Due.shelf("ab");
        due.is("20: an empty pad", x.wipe(), 0);
        Due.putAll(x, "cd|");
        due.is("20: three characters", x.wipe(), 3);
        due.is("20: the pad is empty", x.count(5), 0);
        due.is("20: once more", x.wipe(), 0);
        Due.putAll(x, "e");
        x.sew();
        due.text("20: nothing is left of what was wiped", Due.scroll(x, 1), "e");
        due.is("20: no change", x.count(6), 2);
    }

    private static void faultOf(String text, int fault) {
        SeamReadings x = new SeamReadings();
        Due.putAll(x, text);
        due.is("21: fault of " + text, x.fault(), fault);
        due.is("21: the pad stays", x.count(5), text.length());
        if (fault != NONE) {
            due.is("21: sew with the fault of " + text, x.sew(), BAD_TEXT);
        }
    }

    private static void promise21Fault() {
        faultOf("", 0);
        faultOf("a", NONE);
        faultOf("az|b;c", NONE);
        faultOf("|", 0);
        faultOf(";", 0);
        faultOf("a|", 2);
        faultOf("a;", 2);
        faultOf("a||b", 2);
        faultOf("a;;b", 2);
        faultOf("a|;b", 2);
        faultOf("a;|b", 2);
        faultOf("A", 0);
        faultOf("aB", 1);
        faultOf("a{", 1);
        faultOf("a`", 1);
        faultOf("a!|", 1);
        faultOf("abcdefghijkl", NONE);
        faultOf("abcdefghijklm", 12);
        faultOf("a|abcdefghijklm", 14);
        faultOf("a;abcdefghijklm", 14);
        faultOf("a|b|c|d|e", NONE);
        faultOf("a|b|c|d|e|f", 9);
        faultOf("a|b|c|d|e|", 9);
        faultOf("a;b|c|d|e|f", NONE);
        faultOf("a|b|c|d|e;f|g|h|i|j", NONE);
        faultOf("a;b|c|d|e|f|g", 11);
        faultOf("a;b;c;d;e", NONE);
        faultOf("a;b;c;d;e;f", 9);
        faultOf("a;b;c;d;e;", 9);
        faultOf(FULL, NONE);
        faultOf(FULL.substring(0, 51), NONE);
        faultOf(FULL.substring(0, 52), 52);
        faultOf("abcdefghijkl|mnopqrstuvwx|abcdefghijkm|mnopqrstuvwz|zyxwvutsrqp;", 64);
    }

    private static void promise22Undo() {
        SeamReadings x = Due.shelf("abc|d");
        Due.putAll(x, "pad");
        x.cut(0, 0, 1);
        x.turn(0, 2);
        due.is("22: once", x.undo(), 2);
        due.text("22: cut, yet", Due.scroll(x, 0), "a|bc|d");
        due.is("22: twice", x.undo(), 1);
        due.text("22: cut no more", Due.scroll(x, 0), "abc|d");
        due.is("22: three times", x.undo(), 0);
        due.is("22: no scroll", x.count(0), 0);
        due.is("22: the pad stays", x.wipe(), 3);
        due.is("22: none is left", x.undo(), NOT_POSSIBLE);
        SeamReadings y = Due.shelf("abcdefghi");
        for (int place = 1; place <= 4; place++) {
            y.cut(0, place - 1, 1);
        }
        y.turn(0, 4);
        y.turn(0, 0);
        y.burn(0);
        due.is("22: the oldest ones are dropped", y.count(6), 6);
        String[] before = {"a|bcdefghi", "a|b|cdefghi", "a|b|c|defghi", "a|b|c|d|efghi", "a|b|c|d|ihgfe", "a|b|c|d|ihgfe"};
        for (int left = 5; left >= 0; left--) {
            due.is("22: back", y.undo(), left);
            due.text("22: back with " + left + " left", Due.scroll(y, 0), before[left]);
        }
        due.is("22: no further", y.undo(), NOT_POSSIBLE);
        undoOfEachChange();
        SeamReadings z = Due.shelf("ab");
        z.save(0);
        z.turn(0, 0);
        z.save(1);
        z.undo();
        due.is("22: the slots stay", z.restore(1), 1);
        due.text("22: as they were saved", Due.scroll(z, 0), "ba");
    }

    private static void undoOfEachChange() {
        SeamReadings x = Due.shelf("ab|c;de|f");
        x.save(1);
        Due.putAll(x, "gh");
        due.is("22: sew", x.sew(), 3);
        due.is("22: undo of sew", x.undo(), 1);
        due.is("22: undo of sew brings no text back", x.count(5), 0);
        due.is("22: scrolls after undo of sew", x.count(0), 2);
        for (int kind = 0; kind < 7; kind++) {
            change(x, kind);
            due.is("22: undo of change " + kind, x.undo(), 1);
            due.is("22: scrolls after undo of change " + kind, x.count(0), 2);
            due.text("22: first scroll after undo of change " + kind, Due.scroll(x, 0), "ab|c");
            due.text("22: second scroll after undo of change " + kind, Due.scroll(x, 1), "de|f");
        }
    }

    private static void change(SeamReadings x, int kind) {
        switch (kind) {
            case 0:
                due.is("22: burn", x.burn(0), 3);
                break;
            case 1:
                due.is("22: cut", x.cut(0, 0, 1), 3);
                break;
            case 2:
                due.is("22: undoSeam", x.undoSeam(0, 0), 1);
                break;
            case 3:
                due.is("22: turn", x.turn(1, 0), 2);
                break;
            case 4:
                due.is("22: exchange", x.exchange(1, 0), 4);
                break;
            case 5:
                due.is("22: join", x.join(0, 1), 0);
                break;
            default:
                due.is("22: restore", x.restore(1), 2);
                break;
        }
        due.is("22: changes after change " + kind, x.count(6), 2);
    }

    private static void promise23Save() {
        SeamReadings x = new SeamReadings();
        due.is("23: an empty shelf", x.save(0), 0);
        due.is("23: no change", x.count(6), 0);
        Due.putAll(x, "ab|c;d");
        x.sew();
        due.is("23: two scrolls", x.save(1), 2);
        due.is("23: no such slot", x.save(2), BAD_VALUE);
        due.is("23: below the first slot", x.save(-1), BAD_VALUE);
        due.is("23: the least slot", x.save(LEAST), BAD_VALUE);
        due.is("23: the greatest slot", x.save(GREATEST), BAD_VALUE);
        x.burn(0);
        due.is("23: saved over", x.save(1), 1);
        x.burn(0);
        due.is("23: restored from the slot", x.restore(1), 1);
        due.text("23: what was saved last", Due.scroll(x, 0), "d");
        due.is("23: the other slot", x.restore(0), 0);
    }

    private static void promise24Restore() {
        SeamReadings x = Due.shelf("ab|c;d");
        due.is("24: nothing was saved", x.restore(0), NOT_POSSIBLE);
        due.is("24: no such slot", x.restore(2), BAD_VALUE);
        due.is("24: below the first slot", x.restore(-1), BAD_VALUE);
        due.is("24: the least slot", x.restore(LEAST), BAD_VALUE);
        due.is("24: errors are no changes", x.count(6), 1);
        x.save(0);
        due.is("24: nothing was saved in the other one", x.restore(1), NOT_POSSIBLE);
        x.cut(0, 0, 1);
        x.burn(1);
        Due.putAll(x, "pad");
        due.is("24: two scrolls", x.restore(0), 2);
        due.text("24: the first one", Due.scroll(x, 0), "ab|c");
        due.text("24: the second one", Due.scroll(x, 1), "d");
        due.is("24: the pad stays", x.count(5), 3);
        due.is("24: a change", x.count(6), 4);
        x.turn(0, 0);
        due.is("24: the slot keeps it", x.restore(0), 2);
        due.text("24: as it was saved", Due.scroll(x, 0), "ab|c");
        due.is("24: undone", x.undo(), 5);
        due.text("24: as it was before", Due.scroll(x, 0), "ba|c");
    }
}
