/** The terms that all promises share: a test for each case that a sentence of them names. */
final class EdgesOfTermsTest extends Edges {
    public static void main(String[] arguments) throws ReflectiveOperationException {
        run(EdgesOfTermsTest.class);
    }

    // ---- the use of an object, and the parts of its face

    @Edge(promise = 0, says = "An object is used for at most 512 calls after it has been made")
    static void theLastCallIsStillRight() {
        SeamReadings x = Due.shelf("ab|c");
        for (int call = 3; call < 512; call++) {
            is("turn, call " + call, x.turn(0, 0), 2);
        }
        is("letter, call 512", x.letter(0, 0, 0), 1);
    }

    @Edge(promise = 0, says = "Ahead of the calls `sew`, `burn`, `cut`, `undoSeam`, `turn`, `exchange`, `join` the interface says: ---- changes.")
    static void eachOfTheSevenIsAChange() {
        SeamReadings x = new SeamReadings();
        Due.putAll(x, "abc|d;e");
        x.sew();
        is("changes after sew", x.count(6), 1);
        x.turn(0, 0);
        is("changes after turn", x.count(6), 2);
        x.cut(0, 0, 1);
        is("changes after cut", x.count(6), 3);
        x.undoSeam(0, 0);
        is("changes after undoSeam", x.count(6), 4);
        x.exchange(0, 0);
        is("changes after exchange", x.count(6), 5);
        x.undo();
        x.join(0, 1);
        is("changes after join", x.count(6), 5);
        x.burn(0);
        is("changes after burn", x.count(6), 6);
    }

    @Edge(promise = 0, says = "Ahead of the calls `scroll`, `patch`, `letter`, `reading`, `find`, `shared`, `compare`, `count` "
        + "the interface says: ---- what there is; nothing changes.")
    static void whatThereIsChangesNothing() {
        SeamReadings x = busy();
        x.wipe();
        Due.putAll(x, "ab");
        for (int what = 0; what < 7; what++) {
            x.scroll(1, what);
            x.find(2, what);
            x.count(what);
        }
        x.patch(1, 4);
        x.letter(2, 1, 1);
        x.reading(1, 3, 5);
        x.shared(0, 1);
        x.compare(2, 1);
        SeamReadings unasked = busy();
        unasked.wipe();
        Due.putAll(unasked, "ab");
        text("what there is", told(x), told(unasked));
    }

    @Edge(promise = 0, says = "Ahead of the calls `ifCut`, `bestCut` the interface says: ---- what if; nothing changes.")
    static void whatIfChangesNothing() {
        SeamReadings x = busy();
        is("ifCut of a full scroll", x.ifCut(1, 4, 1), 2);
        is("ifCut", x.ifCut(2, 1, 1), 2);
        for (int what = 0; what < 3; what++) {
            x.bestCut(0, what);
            x.bestCut(1, what);
        }
        text("what there is", told(x), told(busy()));
    }

    @Edge(promise = 0, says = "Ahead of the calls `put`, `wipe`, `fault` the interface says: ---- texts.")
    static void textsAreNoChanges() {
        SeamReadings x = Due.shelf("ab|c");
        x.put('a');
        is("changes after put", x.count(6), 1);
        x.fault();
        is("changes after fault", x.count(6), 1);
        x.wipe();
        is("changes after wipe", x.count(6), 1);
        shelfIs(x, "ab|c");
    }

    @Edge(promise = 0, says = "Ahead of the calls `undo`, `save`, `restore` the interface says: ---- undo, saving.")
    static void undoTakesSaveLeavesRestoreAddsAChange() {
        SeamReadings x = Due.shelf("ab|c");
        x.save(0);
        is("changes after save", x.count(6), 1);
        x.restore(0);
        is("changes after restore", x.count(6), 2);
        x.undo();
        is("changes after undo", x.count(6), 1);
    }

    @Edge(promise = 0, says = "The constants: `NO_SUCH = -1, BAD_VALUE = -2, BAD_TEXT = -3, TOO_MANY = -4, NOT_POSSIBLE = -5, NONE = -6`: "
        + "Error codes, and NONE: there is none")
    static void constants() {
        is("NO_SUCH", SeamReadings.NO_SUCH, -1);
        is("BAD_VALUE", SeamReadings.BAD_VALUE, -2);
        is("BAD_TEXT", SeamReadings.BAD_TEXT, -3);
        is("TOO_MANY", SeamReadings.TOO_MANY, -4);
        is("NOT_POSSIBLE", SeamReadings.NOT_POSSIBLE, -5);
        is("NONE", SeamReadings.NONE, -6);
    }

    // ---- conventions: the codes, and their order

    @Edge(promise = 0, says = "A method that fails returns one of the error codes "
        + "NO_SUCH (-1), BAD_VALUE (-2), BAD_TEXT (-3), TOO_MANY (-4) and NOT_POSSIBLE (-5)")
    static void eachCodeIsReturned() {
        SeamReadings x = new SeamReadings();
        is("burn on an empty shelf", x.burn(0), -1);
        is("count of a what that there is not", x.count(7), -2);
        is("sew of an empty pad", x.sew(), -3);
        Due.putAll(x, FULL);
        is("put on a full pad", x.put('a'), -4);
        is("undo without a change", x.undo(), -5);
    }

    private static final String ORDER = "it names its errors in the order in which they are checked, and the first one that applies is returned";

    @Edge(promise = 0, says = ORDER)
    static void orderOfSewTextBeforeTooMany() {
        SeamReadings x = Due.shelf("a;b;c;d;e");
        is("an empty pad on a full shelf", x.sew(), BAD_TEXT);
        Due.putAll(x, "f;");
        is("a text that ends too early on a full shelf", x.sew(), BAD_TEXT);
        x.wipe();
        Due.putAll(x, "a;b;c;d;e;f");
        is("a sixth scroll in the text itself", x.sew(), BAD_TEXT);
    }

    @Edge(promise = 0, says = ORDER)
    static void orderOfCutNumberBeforePlaceBeforeTooMany() {
        SeamReadings x = Due.shelf("a|b|c|d|ef");
        is("no such scroll, a bad place", x.cut(1, 4, 0), NO_SUCH);
        is("no such patch, a bad place, five patches", x.cut(0, 5, 0), NO_SUCH);
        is("no such patch, five patches", x.cut(0, 5, 1), NO_SUCH);
        is("a bad place, five patches", x.cut(0, 4, 2), BAD_VALUE);
        is("five patches alone", x.cut(0, 4, 1), TOO_MANY);
    }

    @Edge(promise = 0, says = ORDER)
    static void orderOfJoinNumberBeforeTheSameBeforeTooMany() {
        SeamReadings x = Due.shelf("a|b|c;d|e|f");
        is("twice the same that there is not", x.join(2, 2), NO_SUCH);
        is("twice the same below 0", x.join(-1, -1), NO_SUCH);
        is("the same, and six patches", x.join(1, 1), BAD_VALUE);
        is("six patches alone", x.join(0, 1), TOO_MANY);
    }

    @Edge(promise = 0, says = ORDER)
    static void orderOfScrollNumberBeforeWhat() {
        SeamReadings x = Due.shelf("a");
        is("no such scroll, a bad what", x.scroll(1, 7), NO_SUCH);
        is("no such scroll, a bad what below 0", x.scroll(-1, -1), NO_SUCH);
        is("a bad what alone", x.scroll(0, 7), BAD_VALUE);
    }

    @Edge(promise = 0, says = ORDER)
    static void orderOfFindNumberBeforeWhatBeforeWord() {
        SeamReadings x = Due.shelf("a");
        is("no such scroll, a bad what, no word", x.find(1, 4), NO_SUCH);
        is("no such scroll, no word", x.find(1, 0), NO_SUCH);
        is("a bad what, no word", x.find(0, 4), BAD_VALUE);
        is("a bad what below 0, no word", x.find(0, -1), BAD_VALUE);
        is("no word alone", x.find(0, 0), BAD_TEXT);
        x.put('a');
        is("no such scroll, a bad what, a word", x.find(1, 4), NO_SUCH);
    }

    @Edge(promise = 0, says = ORDER)
    static void orderOfIfCutNumberBeforePlace() {
        SeamReadings x = Due.shelf("ab");
        is("no such scroll, a bad place", x.ifCut(1, 0, 0), NO_SUCH);
        is("no such patch, a bad place", x.ifCut(0, 1, 0), NO_SUCH);
        is("a bad place alone", x.ifCut(0, 0, 0), BAD_VALUE);
    }

    @Edge(promise = 0, says = ORDER)
    static void orderOfBestCutNumberBeforeWhat() {
        SeamReadings x = Due.shelf("ab");
        is("no such scroll, a bad what", x.bestCut(1, 3), NO_SUCH);
        is("a bad what alone", x.bestCut(0, 3), BAD_VALUE);
    }

    @Edge(promise = 0, says = ORDER)
    static void orderOfPutCodesBeforeTooMany() {
        SeamReadings x = new SeamReadings();
        Due.putAll(x, FULL);
        is("no character, a full pad", x.put(0), BAD_VALUE);
        is("a bad code, a full pad", x.put(32), BAD_VALUE);
        is("a gap, a full pad", x.put(1L << 16 | 'a'), BAD_VALUE);
        is("a full pad alone", x.put('a'), TOO_MANY);
    }

    // Where there is no such slot, nothing was ever saved in it either.
    @Edge(promise = 0, says = ORDER)
    static void orderOfRestoreSlotBeforeNotPossible() {
        SeamReadings x = new SeamReadings();
        is("no such slot", x.restore(2), BAD_VALUE);
        is("a slot below 0", x.restore(-1), BAD_VALUE);
        is("nothing saved alone", x.restore(1), NOT_POSSIBLE);
    }

    // ---- conventions: an error changes nothing

    private static final String NOTHING = "A call that returns an error changes nothing";

    private static SeamReadings fullShelf(String pad) {
        SeamReadings x = Due.shelf("ab|c;d;e;f");
        Due.putAll(x, pad);
        return x;
    }

    @Edge(promise = 0, says = NOTHING)
    static void sewOfABadTextChangesNothing() {
        refused("sew of an empty pad", () -> Due.shelf("ab|c"), SeamReadings::sew, BAD_TEXT);
        refused("sew of a text whose last scroll is bad", () -> fullShelf("g;h|"), SeamReadings::sew, BAD_TEXT);
    }

    @Edge(promise = 0, says = NOTHING)
    static void sewOfTooManyChangesNothing() {
        refused("sew of a fifth and a sixth scroll", () -> fullShelf("g;h"), SeamReadings::sew, TOO_MANY);
    }

    @Edge(promise = 0, says = NOTHING)
    static void burnOfNoSuchChangesNothing() {
        refused("burn behind the last scroll", Edges::busy, x -> x.burn(3), NO_SUCH);
        refused("burn below the first scroll", Edges::busy, x -> x.burn(-1), NO_SUCH);
    }

    @Edge(promise = 0, says = NOTHING)
    static void refusedCutChangesNothing() {
        refused("cut of no such scroll", Edges::busy, x -> x.cut(3, 0, 1), NO_SUCH);
        refused("cut of no such patch", Edges::busy, x -> x.cut(0, 2, 1), NO_SUCH);
        refused("cut at 0", Edges::busy, x -> x.cut(0, 0, 0), BAD_VALUE);
        refused("cut behind all letters", Edges::busy, x -> x.cut(0, 0, 2), BAD_VALUE);
        refused("cut of a full scroll", Edges::busy, x -> x.cut(1, 4, 1), TOO_MANY);
    }

    @Edge(promise = 0, says = NOTHING)
    static void refusedUndoSeamChangesNothing() {
        refused("undoSeam of no such scroll", Edges::busy, x -> x.undoSeam(3, 0), NO_SUCH);
        refused("undoSeam of no such seam", Edges::busy, x -> x.undoSeam(0, 1), NO_SUCH);
        refused("undoSeam to 13 letters", () -> Due.shelf("abcdefghijkl|m|n"), x -> x.undoSeam(0, 0), TOO_MANY);
    }

    @Edge(promise = 0, says = NOTHING)
    static void refusedTurnChangesNothing() {
        refused("turn in no such scroll", Edges::busy, x -> x.turn(3, 0), NO_SUCH);
        refused("turn of no such patch", Edges::busy, x -> x.turn(0, 2), NO_SUCH);
    }

    @Edge(promise = 0, says = NOTHING)
    static void refusedExchangeChangesNothing() {
        refused("exchange in no such scroll", Edges::busy, x -> x.exchange(3, 0), NO_SUCH);
        refused("exchange at no such seam", Edges::busy, x -> x.exchange(0, 1), NO_SUCH);
        refused("exchange at a seam below 0", Edges::busy, x -> x.exchange(0, -1), NO_SUCH);
    }

    @Edge(promise = 0, says = NOTHING)
    static void refusedJoinChangesNothing() {
        refused("join of no such scroll", Edges::busy, x -> x.join(3, 0), NO_SUCH);
        refused("join behind no such scroll", Edges::busy, x -> x.join(0, 3), NO_SUCH);
        refused("join with itself", Edges::busy, x -> x.join(2, 2), BAD_VALUE);
        refused("join to six patches", Edges::busy, x -> x.join(1, 2), TOO_MANY);
        refused("join to six patches the other way", Edges::busy, x -> x.join(2, 1), TOO_MANY);
    }

    @Edge(promise = 0, says = NOTHING)
    static void refusedAskingChangesNothing() {
        refused("scroll", Edges::busy, x -> x.scroll(0, 7), BAD_VALUE);
        refused("patch", Edges::busy, x -> x.patch(0, 2), NO_SUCH);
        refused("letter", Edges::busy, x -> x.letter(0, 0, 2), NO_SUCH);
        refused("reading", Edges::busy, x -> x.reading(0, 4, 0), NO_SUCH);
        refused("find", Edges::busy, x -> x.find(0, 0), BAD_TEXT);
        refused("shared", Edges::busy, x -> x.shared(0, 3), NO_SUCH);
        refused("compare", Edges::busy, x -> x.compare(3, 0), NO_SUCH);
        refused("count", Edges::busy, x -> x.count(7), BAD_VALUE);
        refused("ifCut", Edges::busy, x -> x.ifCut(0, 0, 2), BAD_VALUE);
        refused("bestCut", Edges::busy, x -> x.bestCut(0, 3), BAD_VALUE);
    }

    private static SeamReadings padOf(String text) {
        SeamReadings x = new SeamReadings();
        Due.putAll(x, text);
        return x;
    }

    @Edge(promise = 0, says = NOTHING)
    static void refusedPutChangesNothing() {
        refused("put of a bad code ahead of good ones", Edges::busy, x -> x.put(32L << 16 | 'a' << 8 | 'b'), BAD_VALUE);
        refused("put of a bad code behind good ones", Edges::busy, x -> x.put('a' << 16 | 'b' << 8 | 32), BAD_VALUE);
        refused("put of three on a pad of 62", () -> padOf("a|b;" + FULL.substring(0, 58)), x -> x.put(Due.packed("xyz")), TOO_MANY);
    }

    @Edge(promise = 0, says = NOTHING)
    static void refusedUndoChangesNothing() {
        refused("undo", () -> padOf("ab|c;d"), SeamReadings::undo, NOT_POSSIBLE);
    }

    @Edge(promise = 0, says = NOTHING)
    static void refusedSaveChangesNothing() {
        refused("save in a slot behind the last", Edges::busy, x -> x.save(2), BAD_VALUE);
        refused("save in a slot below the first", Edges::busy, x -> x.save(-1), BAD_VALUE);
    }

    @Edge(promise = 0, says = NOTHING)
    static void refusedRestoreChangesNothing() {
        refused("restore of no such slot", Edges::busy, x -> x.restore(2), BAD_VALUE);
        refused("restore of a slot in which nothing was saved", Edges::busy, x -> x.restore(0), NOT_POSSIBLE);
    }

    // ---- conventions: NONE, and numbers

    @Edge(promise = 0, says = "NONE (-6) is not an error")
    static void noneIsAnAnswerOfRightCalls() {
        SeamReadings x = Due.shelf("a|b");
        is("fault of a right text", padOf("a").fault(), NONE);
        is("bestCut where nothing can be cut", x.bestCut(0, 0), NONE);
        x.put('z');
        is("find of a word that stands nowhere", x.find(0, 1), NONE);
    }

    @Edge(promise = 0, says = "it is returned only if no error applies")
    static void noneIsBehindAllErrorsOfFind() {
        SeamReadings x = Due.shelf("a|b");
        is("no such scroll, no word", x.find(1, 1), NO_SUCH);
        is("no word", x.find(0, 1), BAD_TEXT);
        x.put('z');
        is("no such scroll, a word that stands nowhere", x.find(1, 1), NO_SUCH);
        is("a bad what, a word that stands nowhere", x.find(0, 4), BAD_VALUE);
        is("no error", x.find(0, 1), NONE);
        is("no error, and the place", x.find(0, 2), NONE);
    }

    @Edge(promise = 0, says = "it is returned only if no error applies")
    static void noneIsBehindAllErrorsOfBestCut() {
        SeamReadings x = Due.shelf("a|b");
        is("no such scroll", x.bestCut(1, 0), NO_SUCH);
        is("a bad what", x.bestCut(0, 3), BAD_VALUE);
        is("a bad what below 0", x.bestCut(0, -1), BAD_VALUE);
        is("no error", x.bestCut(0, 2), NONE);
    }

    @Edge(promise = 0, says = "Everything is numbered from 0")
    static void theFirstOfAllIs0AndTheLastIsOneLessThanThereAre() {
        SeamReadings x = Due.shelf("ab|cd|e;f");
        is("the first letter of the first patch of the first scroll", x.letter(0, 0, 0), 0);
        is("the last letter of the second patch", x.letter(0, 1, 1), 3);
        is("the last patch", x.letter(0, 2, 0), 4);
        is("the last scroll", x.letter(1, 0, 0), 5);
        is("the first reading's first letter", x.reading(0, 0, 0), 0);
        is("the last reading's last letter", x.reading(0, 7, 4), 0);
        is("behind the last reading", x.reading(0, 8, 0), NO_SUCH);
        is("the first seam", x.undoSeam(0, 0), 2);
        is("the seam that is the first one then", x.undoSeam(0, 0), 1);
        is("the first slot", x.save(0), 2);
        is("the second slot", x.save(1), 2);
        is("a third slot", x.save(2), BAD_VALUE);
    }

    // ---- scrolls

    private static final String SCROLLS = "There are up to 5 scrolls, numbered in the order in which they were sewn "
        + "(when one is burnt, those behind it move up)";

    @Edge(promise = 0, says = SCROLLS)
    static void aFifthScrollButNoSixth() {
        SeamReadings x = Due.shelf("a;b;c;d");
        x.put('e');
        is("a fifth", x.sew(), 5);
        x.put('f');
        is("a sixth", x.sew(), TOO_MANY);
        x.burn(2);
        is("again a fifth", x.sew(), 5);
        shelfIs(x, "a;b;d;e;f");
    }

    @Edge(promise = 0, says = SCROLLS)
    static void laterTextsComeBehindFormerOnes() {
        SeamReadings x = Due.shelf("d;c");
        Due.putAll(x, "b;a");
        x.sew();
        shelfIs(x, "d;c;b;a");
    }

    @Edge(promise = 0, says = SCROLLS)
    static void thoseBehindABurntOneMoveUp() {
        SeamReadings x = Due.shelf("a;b;c;d;e");
        x.burn(1);
        shelfIs(x, "a;c;d;e");
        x.burn(3);
        shelfIs(x, "a;c;d");
        x.burn(0);
        shelfIs(x, "c;d");
        is("the number that was the last one's", x.burn(2), NO_SUCH);
    }

    @Edge(promise = 0, says = "A scroll is a row of 1 to 5 patches")
    static void onePatchAndFivePatches() {
        SeamReadings x = Due.shelf("a;a|b|c|d|e");
        is("one", x.scroll(0, 0), 1);
        is("five", x.scroll(1, 0), 5);
        is("the fifth one's letters", x.patch(1, 4), 1);
        is("a sixth one", x.patch(1, 5), NO_SUCH);
    }

    @Edge(promise = 0, says = "a patch is a row of 1 to 12 letters, a to z (as numbers 0 to 25)")
    static void oneLetterAndTwelve() {
        SeamReadings x = Due.shelf("a|abcdefghijkl");
        is("one", x.patch(0, 0), 1);
        is("twelve", x.patch(0, 1), 12);
        is("the twelfth letter", x.letter(0, 1, 11), 11);
        is("a thirteenth", x.letter(0, 1, 12), NO_SUCH);
    }

    @Edge(promise = 0, says = "a patch is a row of 1 to 12 letters, a to z (as numbers 0 to 25)")
    static void lettersFrom0To25() {
        SeamReadings x = Due.shelf("abcdefghijkl|mnopqrstuvwx|yz");
        for (int letter = 0; letter < 26; letter++) {
            is("letter " + letter, x.letter(0, letter / 12, letter % 12), letter);
        }
    }

    @Edge(promise = 0, says = "A seam lies between each patch and the next one")
    static void oneSeamLessThanPatches() {
        SeamReadings x = Due.shelf("a;b|c|d|e|f");
        is("a scroll of one patch has none", x.exchange(0, 0), NO_SUCH);
        is("a scroll of five patches has a fourth", x.exchange(1, 3), 2);
        is("but no fifth", x.exchange(1, 4), NO_SUCH);
    }

    @Edge(promise = 0, says = "the seam k is behind the patch k")
    static void eachSeamJoinsThePatchOfItsNumberAndTheNextOne() {
        String[] without = {"ab|c|d|e", "a|bc|d|e", "a|b|cd|e", "a|b|c|de"};
        for (int seam = 0; seam < 4; seam++) {
            SeamReadings x = Due.shelf("a|b|c|d|e");
            x.undoSeam(0, seam);
            shelfIs(x, without[seam]);
        }
    }

    // ---- readings

    @Edge(promise = 0, says = "A reading of a scroll is a row of letters: its patches, from the first to the last one, "
        + "each of which is read forward or backward")
    static void eachPatchForwardOrBackward() {
        text("readings", readings(Due.shelf("ab|cd"), 0), "abcd abdc bacd badc cdab cdba dcab dcba");
        text("readings of one patch", readings(Due.shelf("abc"), 0), "abc cba");
        is("all ways of five patches", Due.shelf(FULL).scroll(0, 3), 32);
    }

    @Edge(promise = 0, says = "or, from the other end, its patches from the last to the first one, each forward or backward likewise")
    static void fromTheOtherEndAndInNoOtherOrder() {
        text("readings", readings(Due.shelf("a|b|c"), 0), "abc cba");
        text("patches keep their order", readings(Due.shelf("ab|c|d"), 0), "abcd bacd dcab dcba");
        is("from both ends", Due.shelf(FULL).scroll(0, 2), 64);
    }

    @Edge(promise = 0, says = "Rows of letters that are the same are one reading")
    static void theSameRowCountsOnce() {
        text("forward and backward the same", readings(Due.shelf("aba"), 0), "aba");
        text("from both ends the same", readings(Due.shelf("ab|ab"), 0), "abab abba baab baba");
        text("patches of one letter each", readings(Due.shelf("a|a|a|a|a"), 0), "aaaaa");
        text("told over unlike seams", readings(Due.shelf("ab|a|ba"), 0), "abaab ababa baaab baaba");
        text("some of both ends", readings(Due.shelf("a|ab"), 0), "aab aba baa");
    }

    private static final String ALPHABET = "Readings are in the order of the alphabet: "
        + "of two unlike ones the one that has the lesser letter at the first place where they differ is first";

    @Edge(promise = 0, says = ALPHABET)
    static void theFirstPlaceWhereTheyDifferDecides() {
        text("they differ at the first place", readings(Due.shelf("za|az"), 0), "azaz azza zaaz zaza");
        text("they differ at the last places alone", readings(Due.shelf("aa|aa|ab"), 0), "aaaaab aaaaba abaaaa baaaaa");
        text("those of both ends take turns", readings(Due.shelf("ca|ba"), 0), "abac abca acab acba baac baca caab caba");
        text("z is behind y", readings(Due.shelf("z|y"), 0), "yz zy");
    }

    @Edge(promise = 0, says = ALPHABET)
    static void inOrderOverAllSixtyFour() {
        String before = "";
        for (int reading = 0; reading < 64; reading++) {
            // All letters of all readings would be more calls than one object is used for.
            String row = Due.reading(Due.shelf("zy|xw|ba|dc|fe"), 0, reading);
            is("letters of " + row, row.length(), 10);
            is(before + " before " + row, before.compareTo(row) < 0 ? 1 : 0, 1);
            before = row;
        }
    }

    @Edge(promise = 0, says = "(All readings of a scroll are of the same length.)")
    static void eachReadingHasAllLetters() {
        SeamReadings x = Due.shelf("abc|de|f");
        for (int reading = 0; reading < 8; reading++) {
            is("a sixth letter of reading " + reading, x.reading(0, reading, 5) >= 0 ? 1 : 0, 1);
            is("a seventh letter of reading " + reading, x.reading(0, reading, 6), NO_SUCH);
        }
    }

    // ---- texts

    @Edge(promise = 0, says = "The pad is a text of at most 64 characters, scrolls: text = scroll { \";\" scroll }")
    static void sixtyFourCharactersButNoMore() {
        SeamReadings x = padOf(FULL.substring(0, 63));
        is("to 64", x.put('o'), 64);
        is("to 65", x.put('n'), TOO_MANY);
        is("the text of 64", x.fault(), NONE);
    }

    @Edge(promise = 0, says = "The pad is a text of at most 64 characters, scrolls: text = scroll { \";\" scroll }")
    static void scrollsStandBetweenSemicolons() {
        is("one", padOf("a").fault(), NONE);
        is("two", padOf("a;b|c").fault(), NONE);
        is("none ahead of the first", padOf(";a").fault(), 0);
        is("none between two", padOf("a;;b").fault(), 2);
        is("none behind the last", padOf("a;").fault(), 2);
    }

    @Edge(promise = 0, says = "scroll = patch { \"|\" patch }")
    static void patchesStandBetweenBars() {
        is("one", padOf("a").fault(), NONE);
        is("two", padOf("a|b").fault(), NONE);
        is("none ahead of the first", padOf("|a").fault(), 0);
        is("none between two", padOf("a||b").fault(), 2);
        is("none behind the last", padOf("a|").fault(), 2);
        is("none at the end of a scroll", padOf("a|;b").fault(), 2);
        is("none at the start of a scroll", padOf("a;|b").fault(), 2);
    }

    @Edge(promise = 0, says = "patch = letter { letter }")
    static void patchesAreOfLettersAlone() {
        is("a", padOf("a").fault(), NONE);
        is("z", padOf("z").fault(), NONE);
        is("what is before a", padOf("a`").fault(), 1);
        is("what is behind z", padOf("a{").fault(), 1);
        is("a great letter", padOf("aA").fault(), 1);
        is("a digit", padOf("a0").fault(), 1);
        is("what is before the bar is no bar", padOf("a:b").fault(), 1);
        is("what is behind the bar is no bar", padOf("a}b").fault(), 1);
        is("what is behind the semicolon is none", padOf("a<b").fault(), 1);
    }

    private static final String MOST = "There are at most 5 scrolls in a text, 5 patches in a scroll, and 12 letters in a patch";

    @Edge(promise = 0, says = MOST)
    static void fiveScrollsInAText() {
        is("five", padOf("a;b;c;d;e").fault(), NONE);
        is("six", padOf("a;b;c;d;e;f").fault(), 9);
    }

    @Edge(promise = 0, says = MOST)
    static void fivePatchesInAScroll() {
        is("five", padOf("a|b|c|d|e").fault(), NONE);
        is("six", padOf("a|b|c|d|e|f").fault(), 9);
        is("five in each of three scrolls", padOf("a|b|c|d|e;a|b|c|d|e;a|b|c|d|e").fault(), NONE);
    }

    @Edge(promise = 0, says = MOST)
    static void twelveLettersInAPatch() {
        is("twelve", padOf("abcdefghijkl").fault(), NONE);
        is("thirteen", padOf("abcdefghijklm").fault(), 12);
        is("twelve in each of two patches and a scroll", padOf("abcdefghijkl|abcdefghijkl;abcdefghijkl").fault(), NONE);
    }

    private static final String FAULT = "The fault is the index of the first character that cannot stand at its place when the text is read "
        + "from left to right (also of a 13th letter of a patch, a fifth \"|\" of a scroll, and a fifth \";\")";

    @Edge(promise = 0, says = FAULT)
    static void ofTwoFaultsTheFirst() {
        is("two bad characters", padOf("ab!c?").fault(), 2);
        is("a bad character, and an end too early", padOf("!a|").fault(), 0);
        is("a bar too many, and a bad character", padOf("a||b!").fault(), 2);
        is("the last character alone", padOf("ab|c;d!").fault(), 6);
    }

    @Edge(promise = 0, says = FAULT)
    static void aThirteenthLetter() {
        is("of the first patch", padOf("abcdefghijklmn|a").fault(), 12);
        is("of a later patch", padOf("ab|abcdefghijklm").fault(), 15);
        is("of a later scroll", padOf("ab;abcdefghijklm").fault(), 15);
        is("as the last character of a full pad", padOf("abcdefghijkl|abcdefghijkl|abcdefghijkl|abcdefghijk;abcdefghijklm").fault(), 63);
    }

    @Edge(promise = 0, says = FAULT)
    static void aFifthBarOfAScroll() {
        is("of the first scroll", padOf("a|b|c|d|e|").fault(), 9);
        is("of a later scroll", padOf("a|b;a|b|c|d|e|f").fault(), 13);
        is("not of two scrolls together", padOf("a|b|c;d|e|f|g").fault(), NONE);
    }

    @Edge(promise = 0, says = FAULT)
    static void aFifthSemicolon() {
        is("at the end", padOf("a;b;c;d;e;").fault(), 9);
        is("behind scrolls of more patches", padOf("a|b;b|c;c;d;e|f;g").fault(), 15);
    }

    private static final String EARLY = "if there is none and the text ends too early (also if it is empty), it is the length of the text";

    @Edge(promise = 0, says = EARLY)
    static void aTextThatEndsTooEarly() {
        is("behind a bar", padOf("ab|").fault(), 3);
        is("behind a semicolon", padOf("ab|c;").fault(), 5);
        is("at 64", padOf(FULL.substring(0, 51) + ";abcdefghijk|").fault(), 64);
    }

    @Edge(promise = 0, says = EARLY)
    static void anEmptyText() {
        is("of a new object", new SeamReadings().fault(), 0);
        SeamReadings x = padOf("ab");
        x.wipe();
        is("of a wiped pad", x.fault(), 0);
    }

    private static final String WORD = "A word is 1 to 12 letters in the pad, and nothing else";

    private static int wordOf(String pad) {
        SeamReadings x = Due.shelf("a");
        Due.putAll(x, pad);
        return x.find(0, 0);
    }

    @Edge(promise = 0, says = WORD)
    static void oneToTwelveLetters() {
        is("none", wordOf(""), BAD_TEXT);
        is("one", wordOf("a"), 1);
        is("twelve", wordOf("abcdefghijkl"), 0);
        is("thirteen", wordOf("abcdefghijklm"), BAD_TEXT);
        is("sixty-four", wordOf("a".repeat(64)), BAD_TEXT);
    }

    @Edge(promise = 0, says = WORD)
    static void nothingButLetters() {
        is("a and z", wordOf("az"), 0);
        is("two patches", wordOf("a|b"), BAD_TEXT);
        is("two scrolls", wordOf("a;b"), BAD_TEXT);
        is("what is before a", wordOf("`"), BAD_TEXT);
        is("what is behind z", wordOf("a{"), BAD_TEXT);
        is("a great letter", wordOf("A"), BAD_TEXT);
        is("a bad character ahead", wordOf("!a"), BAD_TEXT);
    }
}
