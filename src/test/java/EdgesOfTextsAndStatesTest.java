/** Promises 19 to 24, the pad, undo and the slots: a test for each case that a sentence of them names. */
final class EdgesOfTextsAndStatesTest extends Edges {
    public static void main(String[] arguments) throws ReflectiveOperationException {
        run(EdgesOfTextsAndStatesTest.class);
    }

    private static SeamReadings padOf(String text) {
        SeamReadings x = new SeamReadings();
        Due.putAll(x, text);
        return x;
    }

    private static int put(long characters) {
        return new SeamReadings().put(characters);
    }

    // ---- promise 19

    @Edge(promise = 19, says = "Appends characters to the pad")
    static void behindThoseThatThereAre() {
        SeamReadings x = new SeamReadings();
        x.put(Due.packed("ab"));
        x.put(Due.packed("|c;"));
        x.put(Due.packed("d"));
        x.sew();
        shelfIs(x, "ab|c;d");
    }

    @Edge(promise = 19, says = "Appends characters to the pad")
    static void anyCharactersAlsoWhatNoTextHolds() {
        SeamReadings x = new SeamReadings();
        for (int code = 33; code <= 96; code++) {
            is("length with " + code, x.put(code), code - 32);
        }
    }

    private static final String NUMBER = "They are given as a number: its lowest 8 bits are the last character, "
        + "the next 8 bits the one before, and so on";

    @Edge(promise = 19, says = NUMBER)
    static void theLowestBitsAreTheLastOfEight() {
        SeamReadings x = new SeamReadings();
        x.put(0x6162636465666768L);
        x.sew();
        shelfIs(x, "abcdefgh");
    }

    @Edge(promise = 19, says = NUMBER)
    static void theLowestBitsAreTheLastOfTwo() {
        SeamReadings x = new SeamReadings();
        x.put(0x7a61L);
        x.sew();
        shelfIs(x, "za");
    }

    private static final String NO_MORE = "8 bits that are 0 mean that there are no more characters, and everything above them has to be 0, too";

    @Edge(promise = 19, says = NO_MORE)
    static void anyBitAboveEightThatAre0IsRefused() {
        for (int characters = 0; characters <= 6; characters++) {
            long right = Due.packed("abcdef".substring(0, characters));
            for (int bit = 8 * characters + 8; bit < 64; bit++) {
                is("bit " + bit + " above " + characters + " characters", put(right | 1L << bit), BAD_VALUE);
            }
        }
    }

    @Edge(promise = 19, says = NO_MORE)
    static void aCharacterAboveEightBitsThatAre0IsRefused() {
        is("above none", put('a' << 8), BAD_VALUE);
        is("above one", put('a' << 16 | 'b'), BAD_VALUE);
        is("above six", put((long) 'a' << 56 | Due.packed("bcdefg")), BAD_VALUE);
    }

    @Edge(promise = 19, says = "1 to 8 characters")
    static void fromOneToEight() {
        for (int characters = 1; characters <= 8; characters++) {
            is("put of " + characters, put(Due.packed("abcdefgh".substring(0, characters))), characters);
        }
    }

    @Edge(promise = 19, says = "Returns the length of the pad then")
    static void withThoseThatWereThere() {
        SeamReadings x = new SeamReadings();
        is("one", x.put('a'), 1);
        is("and eight", x.put(Due.packed("bcdefghi")), 9);
        x.wipe();
        is("two on a wiped pad", x.put(Due.packed("ab")), 2);
        x.sew();
        is("three on a pad that was sewn", x.put(Due.packed("abc")), 3);
    }

    private static final String BAD = "BAD_VALUE if there is no character, a code is not 33 to 126, or a bit above 8 bits that are 0 is not 0";

    @Edge(promise = 19, says = BAD)
    static void noCharacter() {
        is("put of 0", put(0), BAD_VALUE);
        is("put of 0 on a pad that has some", padOf("ab").put(0), BAD_VALUE);
    }

    @Edge(promise = 19, says = BAD)
    static void codesFrom33To126() {
        for (int code = 1; code < 256; code++) {
            boolean right = code >= 33 && code <= 126;
            is("code " + code, put(code), right ? 1 : BAD_VALUE);
            is("code " + code + " ahead of another one", put(code << 8 | 'a'), right ? 2 : BAD_VALUE);
            is("code " + code + " behind another one", put('a' << 8 | code), right ? 2 : BAD_VALUE);
        }
    }

    @Edge(promise = 19, says = BAD)
    static void aBadCodeAtEachOfEightPlaces() {
        for (int place = 0; place < 8; place++) {
            long without = Due.packed("abcdefgh") & ~(255L << 8 * place);
            is("32 at " + place, put(without | 32L << 8 * place), BAD_VALUE);
            is("33 at " + place, put(without | 33L << 8 * place), 8);
            is("126 at " + place, put(without | 126L << 8 * place), 8);
            is("127 at " + place, put(without | 127L << 8 * place), BAD_VALUE);
            is("128 at " + place, put(without | 128L << 8 * place), BAD_VALUE);
        }
    }

    @Edge(promise = 19, says = BAD)
    static void theLeastAndTheGreatestNumbers() {
        for (long number : new long[] {-1, Long.MIN_VALUE, Long.MIN_VALUE + 'a', Long.MAX_VALUE, LEAST, GREATEST}) {
            is("put of " + number, put(number), BAD_VALUE);
        }
    }

    @Edge(promise = 19, says = "TOO_MANY if the pad would be longer than 64")
    static void sixtyFourAreNotTooManyButSixtyFiveAre() {
        for (int characters = 1; characters <= 8; characters++) {
            long some = Due.packed("abcdefgh".substring(0, characters));
            SeamReadings x = padOf(FULL.substring(0, 65 - characters));
            is(characters + " to sixty-five", x.put(some), TOO_MANY);
            SeamReadings y = padOf(FULL.substring(0, 64 - characters));
            is(characters + " to sixty-four", y.put(some), 64);
            is("one more", y.put('a'), TOO_MANY);
        }
    }

    // ---- promise 20

    private static final String EMPTIES = "Empties the pad, and returns the length that it had";

    @Edge(promise = 20, says = EMPTIES)
    static void aPadOfNoneOfOneOf64() {
        is("none", new SeamReadings().wipe(), 0);
        is("one", padOf("a").wipe(), 1);
        is("sixty-four", padOf(FULL).wipe(), 64);
    }

    @Edge(promise = 20, says = EMPTIES)
    static void nothingIsLeft() {
        SeamReadings x = padOf(FULL);
        x.wipe();
        is("length", x.count(5), 0);
        is("fault", x.fault(), 0);
        is("wipe again", x.wipe(), 0);
        is("put", x.put('z'), 1);
        x.sew();
        shelfIs(x, "z");
    }

    @Edge(promise = 20, says = EMPTIES)
    static void thePadAlone() {
        SeamReadings x = busy();
        is("wipe", x.wipe(), 8);
        Due.putAll(x, "pa|d;pad");
        text("all else", told(x), told(busy()));
    }

    // ---- promise 21

    private static final String FAULT = "Returns the fault of the pad as scrolls, NONE if there is none";

    @Edge(promise = 21, says = FAULT)
    static void noneOfRightTexts() {
        for (String right : new String[] {"a", "z", "ab|c;de", "a|b|c|d|e;f|g|h|i|j", "a;b;c;d;e", "abcdefghijkl", FULL}) {
            is("fault of " + right, padOf(right).fault(), NONE);
        }
    }

    @Edge(promise = 21, says = FAULT)
    static void fromTheFirstCharacterToTheLength() {
        is("an empty pad", padOf("").fault(), 0);
        is("the first character", padOf("!").fault(), 0);
        is("a later one", padOf("ab!").fault(), 2);
        is("the end", padOf("ab|").fault(), 3);
        is("the sixty-fourth", padOf(FULL.substring(0, 63) + "|").fault(), 63);
        is("behind the sixty-fourth", padOf(FULL.substring(0, 51) + "a;" + FULL.substring(0, 10) + "|").fault(), 51);
    }

    // A right text is one also where the shelf has no room for it.
    @Edge(promise = 21, says = FAULT)
    static void theShelfDoesNotMatter() {
        SeamReadings x = Due.shelf("a;b;c;d;e");
        x.put('f');
        is("fault on a full shelf", x.fault(), NONE);
        is("sew on a full shelf", x.sew(), TOO_MANY);
    }

    @Edge(promise = 21, says = FAULT)
    static void thePadStays() {
        SeamReadings x = padOf("ab|c!");
        is("fault", x.fault(), 4);
        is("fault again", x.fault(), 4);
        is("length", x.count(5), 5);
    }

    // ---- promise 22

    private static final String UNDOES = "Undoes the latest change: everything except the pad, the slots and the history is as it was before it";

    private static void undone(String named, Call change) {
        SeamReadings x = Due.shelf("abc|d;ef|g|h");
        x.turn(0, 0);
        x.save(0);
        Due.putAll(x, "i|j");
        is(named + " is no error", change.on(x) >= 0 ? 1 : 0, 1);
        is("changes after " + named, x.count(6), 3);
        is("undo of " + named, x.undo(), 2);
        shelfIs(x, "cba|d;ef|g|h");
    }

    @Edge(promise = 22, says = UNDOES)
    static void eachKindOfChange() {
        undone("sew", SeamReadings::sew);
        undone("burn", x -> x.burn(0));
        undone("cut", x -> x.cut(0, 0, 1));
        undone("undoSeam", x -> x.undoSeam(1, 0));
        undone("turn", x -> x.turn(1, 0));
        undone("exchange", x -> x.exchange(1, 0));
        undone("join", x -> x.join(0, 1));
        undone("join the other way", x -> x.join(1, 0));
        undone("restore", x -> x.restore(0));
    }

    @Edge(promise = 22, says = UNDOES)
    static void onlyTheLatestOne() {
        SeamReadings x = Due.shelf("abc|d");
        x.cut(0, 0, 1);
        x.turn(0, 1);
        x.undo();
        shelfIs(x, "a|bc|d");
        x.undo();
        shelfIs(x, "abc|d");
        x.undo();
        shelfIs(x, "");
    }

    @Edge(promise = 22, says = UNDOES)
    static void thePadIsNotAsItWas() {
        SeamReadings x = padOf("ab|c");
        x.sew();
        x.undo();
        is("length after undo of sew", x.count(5), 0);
        Due.putAll(x, "de");
        x.sew();
        Due.putAll(x, "fgh");
        x.undo();
        is("length of what was put since", x.count(5), 3);
        x.sew();
        shelfIs(x, "fgh");
    }

    @Edge(promise = 22, says = UNDOES)
    static void theSlotsAreNotAsTheyWere() {
        SeamReadings x = Due.shelf("ab");
        x.turn(0, 0);
        x.save(0);
        x.undo();
        x.save(1);
        x.undo();
        is("a slot that was saved in since", x.restore(0), 1);
        shelfIs(x, "ba");
        is("the other one", x.restore(1), 1);
        shelfIs(x, "ab");
    }

    @Edge(promise = 22, says = UNDOES)
    static void undoIsNoChangeItself() {
        SeamReadings x = Due.shelf("abc");
        x.cut(0, 0, 1);
        x.cut(0, 1, 1);
        x.undo();
        x.undo();
        shelfIs(x, "abc");
        is("changes", x.count(6), 1);
    }

    @Edge(promise = 22, says = UNDOES)
    static void whatComesAfterUndoDoesNotTouchTheStatesBefore() {
        SeamReadings x = Due.shelf("abc");
        x.turn(0, 0);
        x.undo();
        x.turn(0, 0);
        x.cut(0, 0, 1);
        x.undo();
        shelfIs(x, "cba");
        x.undo();
        shelfIs(x, "abc");
    }

    private static final String HISTORY = "A history of at most 6 states is kept: each method that is a change, and returns no error, "
        + "records the state before it (also if nothing is different then)";

    @Edge(promise = 22, says = HISTORY)
    static void sixStatesButNoSeventh() {
        SeamReadings x = Due.shelf("ab");
        for (int changes = 2; changes <= 6; changes++) {
            x.turn(0, 0);
            is("changes", x.count(6), changes);
        }
        x.turn(0, 0);
        is("after a seventh one", x.count(6), 6);
    }

    @Edge(promise = 22, says = HISTORY)
    static void alsoIfNothingIsDifferent() {
        SeamReadings x = Due.shelf("a|a;bb|c");
        x.turn(0, 0);
        is("changes after turn of one letter", x.count(6), 2);
        x.turn(1, 0);
        is("changes after turn of the same forward and backward", x.count(6), 3);
        x.exchange(0, 0);
        is("changes after exchange of two that are the same", x.count(6), 4);
        x.save(0);
        x.restore(0);
        is("changes after restore of what there is", x.count(6), 5);
        is("undo", x.undo(), 4);
        shelfIs(x, "a|a;bb|c");
    }

    @Edge(promise = 22, says = HISTORY)
    static void notIfAnErrorIsReturned() {
        SeamReadings x = Due.shelf("a|b|c|d|ef;g|hijklmnopqrst");
        Due.putAll(x, "u|");
        is("sew", x.sew(), BAD_TEXT);
        is("burn", x.burn(1), NO_SUCH);
        is("changes", x.count(6), 0);
        x.wipe();
        Due.putAll(x, "a|b|c|d|ef;g|hijklmnopqrs");
        x.sew();
        Due.putAll(x, "a;b;c;d");
        is("sew of too many", x.sew(), TOO_MANY);
        is("burn of no such", x.burn(2), NO_SUCH);
        is("cut", x.cut(0, 4, 1), TOO_MANY);
        is("cut out of range", x.cut(1, 0, 1), BAD_VALUE);
        is("undoSeam", x.undoSeam(1, 0), TOO_MANY);
        is("turn", x.turn(1, 2), NO_SUCH);
        is("exchange", x.exchange(1, 1), NO_SUCH);
        is("join", x.join(0, 1), TOO_MANY);
        is("join with itself", x.join(0, 0), BAD_VALUE);
        is("restore", x.restore(0), NOT_POSSIBLE);
        is("restore of no such slot", x.restore(2), BAD_VALUE);
        is("changes after all of them", x.count(6), 1);
    }

    @Edge(promise = 22, says = "when one more is recorded, the oldest one is dropped")
    static void theOldestOneOfSeven() {
        SeamReadings x = Due.shelf("abcde");
        for (int place = 1; place <= 4; place++) {
            x.cut(0, place - 1, 1);
        }
        x.exchange(0, 0);
        x.exchange(0, 1);
        String[] before = {"abcde", "a|bcde", "a|b|cde", "a|b|c|de", "a|b|c|d|e", "b|a|c|d|e"};
        for (int left = 5; left >= 0; left--) {
            is("undo", x.undo(), left);
            shelfIs(x, before[left]);
        }
        is("the state of the empty shelf is gone", x.undo(), NOT_POSSIBLE);
    }

    @Edge(promise = 22, says = "when one more is recorded, the oldest one is dropped")
    static void oneIsDroppedForEachThatIsRecorded() {
        SeamReadings x = Due.shelf("abcdefghijkl");
        for (int round = 0; round < 20; round++) {
            x.cut(0, 0, round % 11 + 1);
            x.undoSeam(0, 0);
        }
        x.turn(0, 0);
        String[] before = {"abcdefg|hijkl", "abcdefghijkl", "abcdefgh|ijkl", "abcdefghijkl", "abcdefghi|jkl", "abcdefghijkl"};
        for (int left = 5; left >= 0; left--) {
            is("undo", x.undo(), left);
            shelfIs(x, before[left]);
        }
        is("no further", x.undo(), NOT_POSSIBLE);
    }

    @Edge(promise = 22, says = "Returns how many changes can be undone then")
    static void fromFiveToNone() {
        SeamReadings x = Due.shelf("ab");
        for (int i = 0; i < 5; i++) {
            x.turn(0, 0);
        }
        for (int left = 5; left >= 0; left--) {
            is("undo", x.undo(), left);
            is("changes", x.count(6), left);
        }
    }

    @Edge(promise = 22, says = "NOT_POSSIBLE if there is none")
    static void noChangeAndNoneLeft() {
        SeamReadings x = new SeamReadings();
        is("of a new object", x.undo(), NOT_POSSIBLE);
        x.put('a');
        x.save(0);
        is("after calls that are no changes", x.undo(), NOT_POSSIBLE);
        x.sew();
        is("the only one", x.undo(), 0);
        is("none left", x.undo(), NOT_POSSIBLE);
        is("still none", x.undo(), NOT_POSSIBLE);
    }

    // ---- promise 23

    private static final String SAVES = "Saves everything except the pad, the history and the slots in a slot, and overwrites what was saved there";

    @Edge(promise = 23, says = SAVES)
    static void allScrollsOfAFullShelf() {
        SeamReadings x = Due.shelf("a|b|c|d|e;f;gh;ij|k;lmnopqrs|t");
        x.save(0);
        for (int i = 0; i < 5; i++) {
            x.burn(0);
        }
        x.restore(0);
        shelfIs(x, "a|b|c|d|e;f;gh;ij|k;lmnopqrs|t");
    }

    @Edge(promise = 23, says = SAVES)
    static void anEmptyShelfIsSavedToo() {
        SeamReadings x = new SeamReadings();
        is("save", x.save(1), 0);
        x.put('a');
        x.sew();
        is("restore", x.restore(1), 0);
        shelfIs(x, "");
    }

    @Edge(promise = 23, says = SAVES)
    static void notThePad() {
        SeamReadings x = Due.shelf("ab|c");
        Due.putAll(x, "de");
        x.save(0);
        is("the length stays", x.count(5), 2);
        Due.putAll(x, "fgh");
        x.restore(0);
        is("the length then", x.count(5), 5);
        x.sew();
        shelfIs(x, "ab|c;defgh");
    }

    @Edge(promise = 23, says = SAVES)
    static void notTheHistory() {
        SeamReadings x = Due.shelf("ab");
        x.save(0);
        is("changes", x.count(6), 1);
        x.turn(0, 0);
        x.turn(0, 0);
        x.restore(0);
        is("changes after restore", x.count(6), 4);
    }

    @Edge(promise = 23, says = SAVES)
    static void notTheSlots() {
        SeamReadings x = Due.shelf("ab");
        x.save(0);
        x.turn(0, 0);
        x.save(1);
        x.turn(0, 0);
        x.save(0);
        x.restore(0);
        is("the other slot", x.restore(1), 1);
        shelfIs(x, "ba");
    }

    @Edge(promise = 23, says = SAVES)
    static void theLaterOneOverwritesTheFormer() {
        SeamReadings x = Due.shelf("a|b;c;d|e|f");
        x.save(1);
        x.burn(0);
        x.burn(0);
        is("save of fewer", x.save(1), 1);
        is("restore of fewer", x.restore(1), 1);
        shelfIs(x, "d|e|f");
        Due.putAll(x, "gh;i");
        x.sew();
        is("save of more", x.save(1), 3);
        x.burn(1);
        is("restore of more", x.restore(1), 3);
        shelfIs(x, "d|e|f;gh;i");
    }

    @Edge(promise = 23, says = SAVES)
    static void whatComesAfterDoesNotTouchWhatWasSaved() {
        SeamReadings x = Due.shelf("ab|c");
        x.save(0);
        x.turn(0, 0);
        x.cut(0, 0, 1);
        x.exchange(0, 0);
        x.restore(0);
        shelfIs(x, "ab|c");
    }

    @Edge(promise = 23, says = "0 or 1")
    static void twoSlotsApart() {
        SeamReadings x = Due.shelf("ab");
        x.save(0);
        x.turn(0, 0);
        x.save(1);
        x.restore(0);
        shelfIs(x, "ab");
        x.restore(1);
        shelfIs(x, "ba");
    }

    @Edge(promise = 23, says = "Returns how many scrolls there are")
    static void savedFrom0To5() {
        is("none", new SeamReadings().save(0), 0);
        is("one", Due.shelf("a|b").save(1), 1);
        is("five", Due.shelf("a;b;c;d;e|f").save(0), 5);
    }

    @Edge(promise = 23, says = "BAD_VALUE if there is no such slot")
    static void saveInNoSuchSlot() {
        SeamReadings x = Due.shelf("a");
        is("behind the last one", x.save(2), BAD_VALUE);
        for (int far : FAR) {
            is("slot " + far, x.save(far), BAD_VALUE);
        }
        is("nothing was saved in the first one", x.restore(0), NOT_POSSIBLE);
        is("nothing was saved in the second one", x.restore(1), NOT_POSSIBLE);
    }

    // ---- promise 24

    private static final String RESTORES = "Restores what was saved last in a slot, which keeps it";

    @Edge(promise = 24, says = RESTORES)
    static void theSlotKeepsIt() {
        SeamReadings x = Due.shelf("ab|c;d");
        x.save(0);
        for (int i = 0; i < 3; i++) {
            x.burn(1);
            x.turn(0, 0);
            is("restore", x.restore(0), 2);
            shelfIs(x, "ab|c;d");
        }
    }

    @Edge(promise = 24, says = RESTORES)
    static void whatWasSavedLast() {
        SeamReadings x = Due.shelf("ab");
        x.save(1);
        x.turn(0, 0);
        x.save(1);
        x.burn(0);
        is("restore", x.restore(1), 1);
        shelfIs(x, "ba");
    }

    @Edge(promise = 24, says = RESTORES)
    static void thePadAndTheOtherSlotStay() {
        SeamReadings x = Due.shelf("ab");
        x.save(0);
        x.turn(0, 0);
        x.save(1);
        Due.putAll(x, "cd");
        x.restore(0);
        is("the length of the pad", x.count(5), 2);
        x.restore(1);
        shelfIs(x, "ba");
    }

    @Edge(promise = 24, says = "This is a change")
    static void restoreIsAChange() {
        SeamReadings x = Due.shelf("ab|c");
        x.save(0);
        x.burn(0);
        x.restore(0);
        is("changes", x.count(6), 3);
        is("undo", x.undo(), 2);
        shelfIs(x, "");
        x.undo();
        shelfIs(x, "ab|c");
    }

    // An undo takes back neither what was saved nor that it was.
    @Edge(promise = 24, says = "This is a change")
    static void theSlotIsTheSameAfterUndo() {
        SeamReadings x = Due.shelf("ab|c");
        x.save(0);
        x.turn(0, 0);
        x.restore(0);
        x.undo();
        shelfIs(x, "ba|c");
        x.restore(0);
        shelfIs(x, "ab|c");
    }

    @Edge(promise = 24, says = "0 or 1")
    static void bothSlots() {
        for (int slot = 0; slot < 2; slot++) {
            SeamReadings x = Due.shelf("ab");
            x.save(slot);
            x.turn(0, 0);
            is("restore of " + slot, x.restore(slot), 1);
            shelfIs(x, "ab");
        }
    }

    @Edge(promise = 24, says = "Returns how many scrolls there are then")
    static void restoredFrom0To5() {
        SeamReadings x = new SeamReadings();
        x.save(0);
        Due.putAll(x, "a;b;c;d;e|f");
        x.sew();
        x.save(1);
        is("none", x.restore(0), 0);
        is("five", x.restore(1), 5);
    }

    @Edge(promise = 24, says = "BAD_VALUE if there is no such slot")
    static void restoreOfNoSuchSlot() {
        SeamReadings x = Due.shelf("a");
        x.save(0);
        x.save(1);
        is("behind the last one", x.restore(2), BAD_VALUE);
        for (int far : FAR) {
            is("slot " + far, x.restore(far), BAD_VALUE);
        }
        is("changes", x.count(6), 1);
    }

    @Edge(promise = 24, says = "NOT_POSSIBLE if nothing was saved in it")
    static void nothingWasSavedInOneOrInBoth() {
        SeamReadings x = Due.shelf("ab|c");
        is("the first one", x.restore(0), NOT_POSSIBLE);
        is("the second one", x.restore(1), NOT_POSSIBLE);
        x.save(1);
        is("the first one still", x.restore(0), NOT_POSSIBLE);
        is("the second one then", x.restore(1), 1);
        SeamReadings y = Due.shelf("ab|c");
        y.save(0);
        is("the second one still", y.restore(1), NOT_POSSIBLE);
    }
}
