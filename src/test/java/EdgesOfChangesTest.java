/** Promises 1 to 8, a new object and the changes: a test for each case that a sentence of them names. */
final class EdgesOfChangesTest extends Edges {
    public static void main(String[] arguments) throws ReflectiveOperationException {
        run(EdgesOfChangesTest.class);
    }

    private static SeamReadings sewn(String... texts) {
        SeamReadings x = new SeamReadings();
        for (String text : texts) {
            Due.putAll(x, text);
            x.sew();
        }
        return x;
    }

    /** The call is recorded, once, and undone to what there was before it. */
    private static void isAChange(String shelf, Call call) {
        SeamReadings x = Due.shelf(shelf);
        call.on(x);
        is("changes", x.count(6), 2);
        is("undo", x.undo(), 1);
        shelfIs(x, shelf);
    }

    // ---- promise 1

    @Edge(promise = 1, says = "Creates a shelf without scrolls")
    static void aNewObjectHasNoScroll() {
        SeamReadings x = new SeamReadings();
        is("scrolls", x.count(0), 0);
        is("patches", x.count(1), 0);
        is("letters", x.count(2), 0);
        is("readings", x.count(3), 0);
        is("pairs", x.count(4), 0);
        is("the first scroll", x.scroll(0, 0), NO_SUCH);
        is("burn", x.burn(0), NO_SUCH);
    }

    @Edge(promise = 1, says = "Creates a shelf without scrolls")
    static void aNewObjectHasAnEmptyPad() {
        is("its length", new SeamReadings().count(5), 0);
        is("its fault", new SeamReadings().fault(), 0);
        is("wipe", new SeamReadings().wipe(), 0);
        is("sew", new SeamReadings().sew(), BAD_TEXT);
    }

    @Edge(promise = 1, says = "Creates a shelf without scrolls")
    static void aNewObjectHasNoHistory() {
        is("changes", new SeamReadings().count(6), 0);
        is("undo", new SeamReadings().undo(), NOT_POSSIBLE);
    }

    @Edge(promise = 1, says = "Creates a shelf without scrolls")
    static void aNewObjectHasNothingSaved() {
        is("the first slot", new SeamReadings().restore(0), NOT_POSSIBLE);
        is("the second slot", new SeamReadings().restore(1), NOT_POSSIBLE);
    }

    @Edge(promise = 1, says = "Creates a shelf without scrolls")
    static void twoObjectsShareNothing() {
        SeamReadings one = busy();
        SeamReadings two = new SeamReadings();
        text("all that there is", told(two), told(new SeamReadings()));
        text("all of the other one", told(one), told(busy()));
    }

    // ---- promise 2

    private static final String SEWS = "Sews the scrolls of the pad, and empties the pad";

    @Edge(promise = 2, says = SEWS)
    static void theLeastText() {
        SeamReadings x = sewn("z");
        shelfIs(x, "z");
    }

    @Edge(promise = 2, says = SEWS)
    static void theLongestText() {
        String full = "a|b|c|d|e;f|g|h|i|j;klmnopqrstuv|wxyz|a;abcdefghijkl;mnopqrst|uv";
        is("its length", full.length(), 64);
        shelfIs(sewn(full), full);
        shelfIs(sewn(FULL), FULL);
    }

    @Edge(promise = 2, says = SEWS)
    static void behindThoseThatThereAre() {
        shelfIs(sewn("ab|c;d", "ef", "g|h"), "ab|c;d;ef;g|h");
    }

    @Edge(promise = 2, says = SEWS)
    static void thePadIsEmptyThen() {
        SeamReadings x = sewn("ab|c;d");
        is("its length", x.count(5), 0);
        is("its fault", x.fault(), 0);
        is("sew of it", x.sew(), BAD_TEXT);
        is("wipe of it", x.wipe(), 0);
        is("eight characters more", x.put(Due.packed("e|f|g|hi")), 8);
        x.sew();
        shelfIs(x, "ab|c;d;e|f|g|hi");
    }

    @Edge(promise = 2, says = "This is a change")
    static void sewOfSeveralScrollsIsOneChange() {
        SeamReadings x = sewn("ab|c", "d;e;f");
        is("changes", x.count(6), 2);
        is("undo", x.undo(), 1);
        shelfIs(x, "ab|c");
        is("undo to the empty shelf", x.undo(), 0);
        shelfIs(x, "");
    }

    @Edge(promise = 2, says = "Returns how many scrolls there are then")
    static void asManyAsThereAreOfAll() {
        SeamReadings x = new SeamReadings();
        x.put('a');
        is("the first one", x.sew(), 1);
        Due.putAll(x, "b;c;d");
        is("three more", x.sew(), 4);
        is("five at once", sewFive(), 5);
    }

    private static int sewFive() {
        SeamReadings x = new SeamReadings();
        Due.putAll(x, "a;b;c;d;e");
        return x.sew();
    }

    @Edge(promise = 2, says = "BAD_TEXT if the pad has a fault")
    static void eachKindOfFault() {
        for (String bad : new String[] {"", "|", ";", "a|", "a;", "a||b", "a;;b", "A", "a!", "abcdefghijklm", "a|b|c|d|e|f", "a;b;c;d;e;f"}) {
            SeamReadings x = new SeamReadings();
            Due.putAll(x, bad);
            is("sew of " + bad, x.sew(), BAD_TEXT);
            is("scrolls after sew of " + bad, x.count(0), 0);
        }
    }

    @Edge(promise = 2, says = "TOO_MANY if there would be more than 5")
    static void fiveAreNotTooManyButSixAre() {
        String[] there = {"a", "a;b", "a;b;c", "a;b;c;d"};
        String[] five = {"p;q;r;s", "p;q;r", "p;q", "p"};
        for (int i = 0; i < 4; i++) {
            SeamReadings x = sewn(there[i]);
            Due.putAll(x, five[i] + ";t");
            is("six, with " + there[i] + " before", x.sew(), TOO_MANY);
            x.wipe();
            Due.putAll(x, five[i]);
            is("five, with " + there[i] + " before", x.sew(), 5);
            x.put('u');
            is("one more", x.sew(), TOO_MANY);
        }
    }

    // ---- promise 3

    @Edge(promise = 3, says = "Burns a scroll")
    static void theFirstOneTheLastOneTheOnlyOne() {
        SeamReadings x = sewn("ab|c;d;ef");
        x.burn(0);
        shelfIs(x, "d;ef");
        x.burn(1);
        shelfIs(x, "d");
        x.burn(0);
        shelfIs(x, "");
    }

    @Edge(promise = 3, says = "Burns a scroll")
    static void nothingIsLeftOfItInAShorterOne() {
        for (String shorter : new String[] {"ab|c", "ab|ab", "a", "a|a|b"}) {
            SeamReadings x = sewn(FULL);
            x.burn(0);
            Due.putAll(x, shorter);
            x.sew();
            SeamReadings unburnt = sewn(shorter);
            for (int what = 0; what < 7; what++) {
                is("scroll of " + shorter + ", " + what, x.scroll(0, what), unburnt.scroll(0, what));
                is("bestCut of " + shorter + ", " + what, x.bestCut(0, what), unburnt.bestCut(0, what));
            }
            is("letters of all", x.count(2), unburnt.count(2));
            is("readings of all", x.count(3), unburnt.count(3));
            text("readings", readings(x, 0), readings(unburnt, 0));
            shelfIs(x, shorter);
        }
    }

    @Edge(promise = 3, says = "This is a change")
    static void burnIsAChange() {
        isAChange("ab|c;d;ef", x -> x.burn(0));
        isAChange("ab|c;d;ef", x -> x.burn(2));
        isAChange("a", x -> x.burn(0));
    }

    @Edge(promise = 3, says = "Returns how many letters it had")
    static void fromOneLetterToSixty() {
        SeamReadings x = sewn("z", FULL, "ab|c|def");
        is("of all patches", x.burn(2), 6);
        is("one", x.burn(0), 1);
        is("sixty", x.burn(0), 60);
    }

    @Edge(promise = 3, says = "NO_SUCH if there is no such scroll")
    static void burnOfNoSuchScroll() {
        is("on an empty shelf", new SeamReadings().burn(0), NO_SUCH);
        SeamReadings x = sewn("ab|c;d");
        is("behind the last one", x.burn(2), NO_SUCH);
        for (int far : FAR) {
            is("burn of " + far, x.burn(far), NO_SUCH);
        }
        x.burn(1);
        is("of the one that went", x.burn(1), NO_SUCH);
        is("behind a full shelf", sewn("a;b;c;d;e").burn(5), NO_SUCH);
    }

    // ---- promise 4

    @Edge(promise = 4, says = "Cuts a patch in two, and sews both parts together by a new seam")
    static void theFirstPatchAndTheLastOne() {
        SeamReadings x = sewn("abcd|ef|gh;ijk");
        x.cut(0, 0, 3);
        shelfIs(x, "abc|d|ef|gh;ijk");
        x.cut(0, 3, 1);
        shelfIs(x, "abc|d|ef|g|h;ijk");
        x.cut(1, 0, 1);
        shelfIs(x, "abc|d|ef|g|h;i|jk");
        is("the new seam is there", x.exchange(1, 0), 4);
    }

    @Edge(promise = 4, says = "This is a change")
    static void cutIsAChange() {
        isAChange("abcd|ef;g", x -> x.cut(0, 0, 1));
    }

    @Edge(promise = 4, says = "1 to the number of its letters less 1: how many letters the first part has")
    static void placesFrom1ToTheLettersLess1() {
        for (int place = 1; place <= 11; place++) {
            SeamReadings x = sewn("a|bcdefghijklm");
            is("cut at " + place, x.cut(0, 1, place), 3);
            is("letters of the first part", x.patch(0, 1), place);
            is("letters of the second part", x.patch(0, 2), 12 - place);
        }
        is("the one place of two letters", sewn("ab").cut(0, 0, 1), 2);
    }

    @Edge(promise = 4, says = "Returns how many patches the scroll has then")
    static void fromTwoPatchesToFive() {
        SeamReadings x = sewn("ab;abcde");
        for (int patches = 2; patches <= 5; patches++) {
            is("patches", x.cut(1, patches - 2, 1), patches);
        }
        is("the other scroll's", x.cut(0, 0, 1), 2);
    }

    @Edge(promise = 4, says = "NO_SUCH if there is no such scroll or patch")
    static void cutOfNoSuchScroll() {
        is("on an empty shelf", new SeamReadings().cut(0, 0, 1), NO_SUCH);
        SeamReadings x = sewn("ab|cd;ef");
        is("behind the last one", x.cut(2, 0, 1), NO_SUCH);
        for (int far : FAR) {
            is("cut in " + far, x.cut(far, 0, 1), NO_SUCH);
        }
    }

    @Edge(promise = 4, says = "NO_SUCH if there is no such scroll or patch")
    static void cutOfNoSuchPatch() {
        SeamReadings x = sewn("ab|cd;ef;ab|cd|ef|gh|ij");
        is("behind the last one", x.cut(0, 2, 1), NO_SUCH);
        is("behind the only one", x.cut(1, 1, 1), NO_SUCH);
        is("behind the fifth one", x.cut(2, 5, 1), NO_SUCH);
        for (int far : FAR) {
            is("cut of " + far, x.cut(0, far, 1), NO_SUCH);
        }
    }

    @Edge(promise = 4, says = "BAD_VALUE if place is out of range")
    static void cutAtAPlaceOutOfRange() {
        SeamReadings x = sewn("abc|defghijk|l");
        is("at 0", x.cut(0, 0, 0), BAD_VALUE);
        is("behind all letters", x.cut(0, 0, 3), BAD_VALUE);
        is("in the next patch", x.cut(0, 0, 4), BAD_VALUE);
        is("of a patch of one letter", x.cut(0, 2, 1), BAD_VALUE);
        is("of a patch of one letter, at 0", x.cut(0, 2, 0), BAD_VALUE);
        is("behind twelve letters", sewn("abcdefghijkl").cut(0, 0, 12), BAD_VALUE);
        for (int far : FAR) {
            is("cut at " + far, x.cut(0, 1, far), BAD_VALUE);
        }
    }

    @Edge(promise = 4, says = "TOO_MANY if it has 5 patches")
    static void cutOfFourPatchesAndOfFive() {
        SeamReadings x = sewn("ab|cd|ef|gh");
        is("of four", x.cut(0, 3, 1), 5);
        is("of five", x.cut(0, 0, 1), TOO_MANY);
        is("of another one's five", sewn("ab;ab|c|d|e|f").cut(1, 0, 1), TOO_MANY);
        is("beside another one's five", sewn("ab;ab|c|d|e|f").cut(0, 0, 1), 2);
    }

    // ---- promise 5

    @Edge(promise = 5, says = "Undoes a seam: both patches beside it become one (forward as they are)")
    static void theFirstSeamAndTheLastOne() {
        SeamReadings x = sewn("ba|c|ed|f;g|h");
        x.undoSeam(0, 0);
        shelfIs(x, "bac|ed|f;g|h");
        x.undoSeam(0, 1);
        shelfIs(x, "bac|edf;g|h");
        x.undoSeam(0, 0);
        shelfIs(x, "bacedf;g|h");
        x.undoSeam(1, 0);
        shelfIs(x, "bacedf;gh");
    }

    @Edge(promise = 5, says = "Undoes a seam: both patches beside it become one (forward as they are)")
    static void theSecondSeamOfFour() {
        SeamReadings x = sewn("a|cb|ed|f|g");
        x.undoSeam(0, 1);
        shelfIs(x, "a|cbed|f|g");
    }

    @Edge(promise = 5, says = "This is a change")
    static void undoSeamIsAChange() {
        isAChange("ab|c;d|e|fg", x -> x.undoSeam(1, 0));
    }

    @Edge(promise = 5, says = "Returns how many patches the scroll has then")
    static void fromFourPatchesToOne() {
        SeamReadings x = sewn("a|b|c|d|e;f|g");
        for (int patches = 4; patches >= 1; patches--) {
            is("patches", x.undoSeam(0, 0), patches);
        }
        is("the other scroll's", x.undoSeam(1, 0), 1);
    }

    @Edge(promise = 5, says = "NO_SUCH if there is no such scroll or seam")
    static void undoSeamOfNoSuchScroll() {
        is("on an empty shelf", new SeamReadings().undoSeam(0, 0), NO_SUCH);
        SeamReadings x = sewn("a|b;c|d");
        is("behind the last one", x.undoSeam(2, 0), NO_SUCH);
        for (int far : FAR) {
            is("undoSeam in " + far, x.undoSeam(far, 0), NO_SUCH);
        }
    }

    @Edge(promise = 5, says = "NO_SUCH if there is no such scroll or seam")
    static void undoSeamOfNoSuchSeam() {
        SeamReadings x = sewn("a|b|c;d;a|b|c|d|e");
        is("behind the last one", x.undoSeam(0, 2), NO_SUCH);
        is("of a scroll of one patch", x.undoSeam(1, 0), NO_SUCH);
        is("behind the fifth patch", x.undoSeam(2, 4), NO_SUCH);
        for (int far : FAR) {
            is("undoSeam of " + far, x.undoSeam(0, far), NO_SUCH);
        }
    }

    @Edge(promise = 5, says = "TOO_MANY if the patch would have more than 12 letters")
    static void twelveLettersAreNotTooManyButThirteenAre() {
        String row = "abcdefghijklmnopqrstuvwx";
        for (int first = 1; first <= 12; first++) {
            SeamReadings x = sewn(row.substring(0, first) + "|" + row.substring(first, 13));
            is("thirteen of " + first + " and others", x.undoSeam(0, 0), TOO_MANY);
            if (first < 12) {
                SeamReadings y = sewn(row.substring(0, first) + "|" + row.substring(first, 12));
                is("twelve of " + first + " and others", y.undoSeam(0, 0), 1);
            }
        }
        is("twenty-four", sewn(FULL).undoSeam(0, 3), TOO_MANY);
        is("twelve beside others", sewn("abcdefghijkl|a|bcdefghijkl|abcdefghijkl").undoSeam(0, 1), 3);
    }

    // ---- promise 6

    @Edge(promise = 6, says = "Turns a patch round: its letters are in the opposite order")
    static void ofOneLetterOfTwoOfThreeOfTwelve() {
        SeamReadings x = sewn("a|bc|def|ghijklmnopqr;stu");
        x.turn(0, 0);
        shelfIs(x, "a|bc|def|ghijklmnopqr;stu");
        x.turn(0, 1);
        shelfIs(x, "a|cb|def|ghijklmnopqr;stu");
        x.turn(0, 2);
        shelfIs(x, "a|cb|fed|ghijklmnopqr;stu");
        x.turn(0, 3);
        shelfIs(x, "a|cb|fed|rqponmlkjihg;stu");
        x.turn(1, 0);
        shelfIs(x, "a|cb|fed|rqponmlkjihg;uts");
    }

    @Edge(promise = 6, says = "This is a change")
    static void turnIsAChange() {
        isAChange("ab|c;def", x -> x.turn(1, 0));
        isAChange("ab|c;def", x -> x.turn(0, 1));
    }

    @Edge(promise = 6, says = "Returns how many places of the patch have another letter then")
    static void fromNoPlaceToAll() {
        is("one letter", sewn("a").turn(0, 0), 0);
        is("the same forward and backward, even", sewn("abba").turn(0, 0), 0);
        is("the same forward and backward, odd", sewn("aba").turn(0, 0), 0);
        is("all but the middle", sewn("abc").turn(0, 0), 2);
        is("all but the ends", sewn("abca").turn(0, 0), 2);
        is("all", sewn("abcd").turn(0, 0), 4);
        is("all of twelve", sewn("abcdefghijkl").turn(0, 0), 12);
        is("of the patch alone", sewn("abcd|ef|ghi").turn(0, 1), 2);
    }

    @Edge(promise = 6, says = "NO_SUCH if there is no such scroll or patch")
    static void turnInNoSuchScroll() {
        is("on an empty shelf", new SeamReadings().turn(0, 0), NO_SUCH);
        SeamReadings x = sewn("ab|cd;ef");
        is("behind the last one", x.turn(2, 0), NO_SUCH);
        for (int far : FAR) {
            is("turn in " + far, x.turn(far, 0), NO_SUCH);
        }
    }

    @Edge(promise = 6, says = "NO_SUCH if there is no such scroll or patch")
    static void turnOfNoSuchPatch() {
        SeamReadings x = sewn("ab|cd;ef;a|b|c|d|e");
        is("behind the last one", x.turn(0, 2), NO_SUCH);
        is("behind the only one", x.turn(1, 1), NO_SUCH);
        is("behind the fifth one", x.turn(2, 5), NO_SUCH);
        for (int far : FAR) {
            is("turn of " + far, x.turn(0, far), NO_SUCH);
        }
    }

    // ---- promise 7

    @Edge(promise = 7, says = "Exchanges both patches beside a seam")
    static void atTheFirstSeamAndTheLastOne() {
        SeamReadings x = sewn("a|bcd|ef|g|h;ij|k");
        x.exchange(0, 0);
        shelfIs(x, "bcd|a|ef|g|h;ij|k");
        x.exchange(0, 3);
        shelfIs(x, "bcd|a|ef|h|g;ij|k");
        x.exchange(0, 1);
        shelfIs(x, "bcd|ef|a|h|g;ij|k");
        x.exchange(1, 0);
        shelfIs(x, "bcd|ef|a|h|g;k|ij");
    }

    @Edge(promise = 7, says = "Exchanges both patches beside a seam")
    static void theShortestWithTheLongest() {
        SeamReadings x = sewn("abcdefghijkl|m");
        x.exchange(0, 0);
        shelfIs(x, "m|abcdefghijkl");
        x.exchange(0, 0);
        shelfIs(x, "abcdefghijkl|m");
    }

    @Edge(promise = 7, says = "This is a change")
    static void exchangeIsAChange() {
        isAChange("ab|c;d|efg|h", x -> x.exchange(1, 1));
    }

    @Edge(promise = 7, says = "Returns how many readings the scroll has then")
    static void theReadingsAfterItAreCounted() {
        is("from seven to four", sewn("a|ab|ab").exchange(0, 0), 4);
        is("from four to seven", sewn("ab|a|ab").exchange(0, 0), 7);
        is("one", sewn("a|aa").exchange(0, 0), 1);
        is("sixty-four", sewn(FULL).exchange(0, 0), 64);
    }

    @Edge(promise = 7, says = "NO_SUCH if there is no such scroll or seam")
    static void exchangeInNoSuchScroll() {
        is("on an empty shelf", new SeamReadings().exchange(0, 0), NO_SUCH);
        SeamReadings x = sewn("a|b;c|d");
        is("behind the last one", x.exchange(2, 0), NO_SUCH);
        for (int far : FAR) {
            is("exchange in " + far, x.exchange(far, 0), NO_SUCH);
        }
    }

    @Edge(promise = 7, says = "NO_SUCH if there is no such scroll or seam")
    static void exchangeAtNoSuchSeam() {
        SeamReadings x = sewn("a|b|c;d;a|b|c|d|e");
        is("behind the last one", x.exchange(0, 2), NO_SUCH);
        is("of a scroll of one patch", x.exchange(1, 0), NO_SUCH);
        is("behind the fifth patch", x.exchange(2, 4), NO_SUCH);
        for (int far : FAR) {
            is("exchange at " + far, x.exchange(0, far), NO_SUCH);
        }
    }

    // ---- promise 8

    @Edge(promise = 8, says = "Sews a scroll behind another one, by a new seam")
    static void itsPatchesComeBehindInTheirOrder() {
        SeamReadings x = sewn("ab|c;d|ef");
        x.join(0, 1);
        shelfIs(x, "d|ef|ab|c");
        SeamReadings y = sewn("ab|c;d|ef");
        y.join(1, 0);
        shelfIs(y, "ab|c|d|ef");
    }

    @Edge(promise = 8, says = "Sews a scroll behind another one, by a new seam")
    static void theNewSeamCanBeUndone() {
        SeamReadings x = sewn("ab;cd");
        x.join(1, 0);
        shelfIs(x, "ab|cd");
        is("the seam between them", x.undoSeam(0, 0), 1);
        shelfIs(x, "abcd");
    }

    @Edge(promise = 8, says = "Sews a scroll behind another one, by a new seam")
    static void toSixtyLetters() {
        SeamReadings x = sewn("abcdefghijkl|mnopqrstuvwx", "yyyyyyyyyyyz|abcdefghijkl|mnopqrstuvwx");
        is("join", x.join(0, 1), 0);
        shelfIs(x, "yyyyyyyyyyyz|abcdefghijkl|mnopqrstuvwx|abcdefghijkl|mnopqrstuvwx");
    }

    @Edge(promise = 8, says = "the former goes")
    static void thoseBehindTheOneThatGoesMoveUp() {
        SeamReadings x = sewn("a;b;c;d;e");
        x.join(1, 3);
        shelfIs(x, "a;c;d|b;e");
        x.join(3, 0);
        shelfIs(x, "a|e;c;d|b");
        x.join(0, 1);
        shelfIs(x, "c|a|e;d|b");
    }

    @Edge(promise = 8, says = "This is a change")
    static void joinIsAChange() {
        isAChange("ab|c;d;ef", x -> x.join(0, 2));
        isAChange("ab|c;d;ef", x -> x.join(2, 0));
    }

    @Edge(promise = 8, says = "Returns the number of the scroll that there is then")
    static void itsNumberIsOneLessIfTheFormerWasBeforeIt() {
        is("the first behind the last", sewn("a;b;c;d;e").join(0, 4), 3);
        is("the last behind the first", sewn("a;b;c;d;e").join(4, 0), 0);
        is("the first behind the second", sewn("a;b").join(0, 1), 0);
        is("the second behind the first", sewn("a;b").join(1, 0), 0);
        is("the second behind the third", sewn("a;b;c").join(1, 2), 1);
        is("the third behind the second", sewn("a;b;c").join(2, 1), 1);
    }

    @Edge(promise = 8, says = "NO_SUCH if there is no such scroll")
    static void joinOfNoSuchScroll() {
        is("on an empty shelf", new SeamReadings().join(0, 1), NO_SUCH);
        SeamReadings x = sewn("a|b;c|d");
        is("of the one behind the last one", x.join(2, 0), NO_SUCH);
        for (int far : FAR) {
            is("join of " + far, x.join(far, 0), NO_SUCH);
        }
    }

    @Edge(promise = 8, says = "NO_SUCH if there is no such scroll")
    static void joinBehindNoSuchScroll() {
        SeamReadings x = sewn("a|b;c|d");
        is("behind the one behind the last one", x.join(0, 2), NO_SUCH);
        for (int far : FAR) {
            is("join behind " + far, x.join(0, far), NO_SUCH);
            is("join of " + far + " with itself", x.join(far, far), NO_SUCH);
        }
    }

    @Edge(promise = 8, says = "BAD_VALUE if both are the same")
    static void joinWithItself() {
        SeamReadings x = sewn("a;b|c;a|b|c|d|e");
        for (int scroll = 0; scroll < 3; scroll++) {
            is("join of " + scroll + " with itself", x.join(scroll, scroll), BAD_VALUE);
        }
    }

    // The same letters are not the same scroll.
    @Edge(promise = 8, says = "BAD_VALUE if both are the same")
    static void joinWithAnotherOneOfTheSameLetters() {
        is("join", sewn("a|b;a|b").join(0, 1), 0);
    }

    @Edge(promise = 8, says = "TOO_MANY if it would have more than 5 patches")
    static void fivePatchesAreNotTooManyButSixAre() {
        String row = "a|b|c|d|e|f";
        for (int first = 1; first <= 5; first++) {
            String text = row.substring(0, 2 * first - 1) + ";" + row.substring(2 * first);
            is("six of " + first + " and others", sewn(text).join(0, 1), TOO_MANY);
            is("six of " + first + " and others, the other way", sewn(text).join(1, 0), TOO_MANY);
        }
        for (int first = 1; first <= 4; first++) {
            String text = row.substring(0, 2 * first - 1) + ";" + row.substring(2 * first, 9);
            is("five of " + first + " and others", sewn(text).join(0, 1), 0);
            is("five of " + first + " and others, the other way", sewn(text).join(1, 0), 0);
        }
        is("ten", sewn("a|b|c|d|e;f|g|h|i|j").join(1, 0), TOO_MANY);
    }
}
