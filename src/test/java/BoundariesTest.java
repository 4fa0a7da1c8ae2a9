import java.util.function.IntUnaryOperator;

// Each sentence of the document that names a boundary case, by itself. The sentence stands ahead of its test, and is
// printed if it does not hold. That a call that returns an error changes nothing is the matter of RefusedCallsTest.
public final class BoundariesTest {
    private static final int NO_SUCH = -1, BAD_VALUE = -2, BAD_TEXT = -3, TOO_MANY = -4, NOT_POSSIBLE = -5, NONE = -6;
    private static final int ALL = 4095, LEAST = Integer.MIN_VALUE, MOST = Integer.MAX_VALUE;

    private static String sentence = "";
    private static int sentences = 0;
    private static int wrong = 0;

    public static void main(String[] args) {
        words();
        seats();
        albums();
        goingToSeats();
        ending();
        puttingPagesIn();
        toldPages();
        points();
        newObject();
        teach();
        sit();
        leave();
        begin();
        tell();
        round();
        clear();
        of();
        page();
        seat();
        word();
        count();
        guess();
        foretold();
        bestWord();
        pointsThen();
        put();
        wipe();
        texts();
        faultPlaces();
        faultEnds();
        carryOut();
        carryOutErrors();
        undo();
        undoRecords();
        save();
        restore();
        lastCall();
        System.out.println(wrong == 0 ? sentences + " sentences hold" : wrong + " answers are not as due");
        if (wrong != 0) System.exit(1);
    }

    private static void sentence(String text) {
        sentence = text;
        sentences++;
    }

    private static void due(String call, long got, long want) {
        if (got != want) {
            wrong++;
            System.out.println(sentence + " -- " + call + " answered " + got + ", due is " + want);
        }
    }

    /** The ends of a range are allowed, the values beside it and the farthest ones are not. */
    private static void range(String call, IntUnaryOperator at, int lowest, int highest, int error) {
        allowed(call, at, lowest, highest);
        refused(call, at, error, lowest - 1, highest + 1, LEAST, MOST, LEAST + lowest, MOST - highest);
    }

    private static void allowed(String call, IntUnaryOperator at, int... values) {
        for (int value : values) {
            int answer = at.applyAsInt(value);
            due(call + " with " + value + " is allowed: whether " + answer + " is an error",
                answer < 0 && answer != NONE ? 1 : 0, 0);
        }
    }

    private static void refused(String call, IntUnaryOperator at, int error, int... values) {
        for (int value : values) due(call + " with " + value, at.applyAsInt(value), error);
    }

    // ---- what the tests begin with

    private static DoodleAlbums fresh() {
        return new DoodleAlbums();
    }

    /** Words 0 to 11 have one feature each, 12 has none, 13 all, 14 and 15 the two lowest ones. */
    private static DoodleAlbums plain(int... seats) {
        DoodleAlbums x = fresh();
        for (int word = 0; word < 12; word++) x.teach(word, 1 << word);
        x.teach(12, 0);
        x.teach(13, ALL);
        x.teach(14, 3);
        x.teach(15, 3);
        for (int seat : seats) x.sit(seat, ALL);
        return x;
    }

    /** Players on some seats, the first of whom has begun an album with word 3. */
    private static DoodleAlbums begun(int... seats) {
        DoodleAlbums x = plain(seats);
        x.begin(seats[0], 3);
        return x;
    }

    /** Albums of seat 4 that are home with one page each; only seat 4 is taken. */
    private static DoodleAlbums homeAlbums(int number) {
        DoodleAlbums x = plain(4);
        for (int album = 0; album < number; album++) {
            x.begin(4, 3);
            x.round();
        }
        return x;
    }

    private static void rounds(DoodleAlbums x, int times) {
        for (int round = 0; round < times; round++) x.round();
    }

    private static long number(String text) {
        long number = 0;
        for (char sign : text.toCharArray()) number = number << 8 | sign;
        return number;
    }

    private static DoodleAlbums write(DoodleAlbums x, String text) {
        for (int from = 0; from < text.length(); from += 8) {
            x.put(number(text.substring(from, Math.min(from + 8, text.length()))));
        }
        return x;
    }

    private static DoodleAlbums written(String text) {
        return write(fresh(), text);
    }

    private static int faultOf(String text) {
        return written(text).fault();
    }

    private static void seatsDue(DoodleAlbums x, int album, int... seats) {
        due("of(" + album + ", 1)", x.of(album, 1), seats.length);
        for (int page = 0; page < seats.length; page++) {
            due("page(" + album + ", " + page + ", 0)", x.page(album, page, 0), seats[page]);
        }
    }

    private static void ownersDue(DoodleAlbums x, int... owners) {
        due("count(1)", x.count(1), owners.length);
        for (int album = 0; album < owners.length; album++) {
            due("of(" + album + ", 0)", x.of(album, 0), owners[album]);
        }
        due("of(" + owners.length + ", 0)", x.of(owners.length, 0), NO_SUCH);
    }

    private static void pointsDue(DoodleAlbums x, int... points) {
        for (int seat = 0; seat < points.length; seat++) due("seat(" + seat + ", 2)", x.seat(seat, 2), points[seat]);
    }

    // ---- terms

    private static void words() {
        sentence("Terms: There are 16 words, 0 to 15");
        range("word", fresh()::word, 0, 15, NO_SUCH);

        sentence("Terms: (word * word * 37 + word * 113 + 5) left over by 4096");
        due("word(0), nothing but the 5", fresh().word(0), 5);
        due("word(9), the last below 4096", fresh().word(9), 4019);
        due("word(10), the first above", fresh().word(10), 739);
        due("word(13), the last below 8192", fresh().word(13), 3631);
        due("word(14), twice above", fresh().word(14), 647);
        due("word(15)", fresh().word(15), 1833);

        sentence("Terms: NONE is returned only if no error applies");
        due("of(0, 6), no album", fresh().of(0, 6), NO_SUCH);
        due("seat(8, 3), no seat", fresh().seat(8, 3), NO_SUCH);
        due("seat(0, 3), no album", fresh().seat(0, 3), NONE);
    }

    private static void seats() {
        sentence("Terms: There are 8 seats, 0 to 7");
        range("seat(?, 0)", seat -> fresh().seat(seat, 0), 0, 7, NO_SUCH);

        sentence("Terms: (all 12 at first) and points (0 at first)");
        for (int seat = 0; seat < 8; seat++) {
            due("seat(" + seat + ", 1)", fresh().seat(seat, 1), ALL);
            due("seat(" + seat + ", 2)", fresh().seat(seat, 2), 0);
        }

        sentence("Terms: which stay when the player leaves");
        DoodleAlbums x = begun(0, 1, 2);
        x.sit(0, 8);
        rounds(x, 3);
        x.leave(0);
        due("seat(0, 1)", x.seat(0, 1), 8);
        due("seat(0, 2)", x.seat(0, 2), 2);
        x.sit(0, NONE);
        due("seat(0, 1), come back", x.seat(0, 1), 8);
        due("seat(0, 2), come back", x.seat(0, 2), 2);

        sentence("Terms: At first nobody sits anywhere");
        for (int seat = 0; seat < 8; seat++) due("leave(" + seat + ")", fresh().leave(seat), NOT_POSSIBLE);
        due("count(0)", fresh().count(0), 0);
    }

    private static void albums() {
        sentence("Albums: There are up to 12 albums");
        DoodleAlbums x = homeAlbums(11);
        due("begin(4, 3), the 12th", x.begin(4, 3), 11);
        due("count(1)", x.count(1), 12);
        due("of(11, 0)", x.of(11, 0), 4);
        due("of(12, 0)", x.of(12, 0), NO_SUCH);
        x.round();
        due("begin(4, 3), the 13th", x.begin(4, 3), TOO_MANY);
        due("count(1)", x.count(1), 12);

        sentence("Albums: numbered in the order in which they were begun");
        DoodleAlbums order = plain(7, 0, 3);
        order.begin(3, 1);
        order.begin(0, 1);
        order.begin(7, 1);
        ownersDue(order, 3, 0, 7);

        sentence("Albums: when some are cleared, those behind them move up");
        ownersDue(clearedAmongThree(0), 1, 2);
        ownersDue(clearedAmongThree(1), 0, 2);
        ownersDue(clearedAmongThree(2), 0, 1);

        sentence("Albums: The first page is a word by the owner");
        DoodleAlbums first = begun(6);
        seatsDue(first, 0, 6);
        due("page(0, 0, 1)", first.page(0, 0, 1), 3);
        due("of(0, 4)", first.of(0, 4), 3);

        sentence("Albums: behind a word comes a drawing, behind a drawing a word");
        DoodleAlbums kinds = begun(6, 0, 1, 2, 3, 4, 5, 7);
        rounds(kinds, 7);
        due("of(0, 1)", kinds.of(0, 1), 8);
        for (int page = 0; page < 8; page++) {
            due("page(0, " + page + ", 1)", kinds.page(0, page, 1), page % 2 == 0 ? 3 : 8);
        }

        sentence("Albums: An album lies at the seat of its last page");
        DoodleAlbums lies = begun(6, 7);
        due("of(0, 2), one page", lies.of(0, 2), 6);
        lies.round();
        due("of(0, 2), two pages", lies.of(0, 2), 7);
        lies.round();
        due("of(0, 2), home", lies.of(0, 2), 7);

        sentence("Albums: It goes round (0), is home (1), or is stranded (2)");
        DoodleAlbums how = begun(6, 7);
        due("of(0, 3)", how.of(0, 3), 0);
        rounds(how, 2);
        due("of(0, 3)", how.of(0, 3), 1);
        how.begin(7, 3);
        how.leave(7);
        rounds(how, 2);
        due("of(1, 3)", how.of(1, 3), 2);
    }

    /** Albums of seats 0, 1 and 2, one of which came home while the others went round; it is cleared. */
    private static DoodleAlbums clearedAmongThree(int ended) {
        DoodleAlbums x = plain();
        for (int seat = 0; seat < 3; seat++) {
            x.sit(seat, ALL);
            x.begin(seat, 3);
            if (seat == ended) x.round();
            x.leave(seat);
        }
        due("of(" + ended + ", 3)", x.of(ended, 3), 1);
        due("count(2)", x.count(2), 2);
        due("clear()", x.clear(), 1);
        return x;
    }

    // ---- rounds

    private static void goingToSeats() {
        sentence("Words, players: the next seat of 7 is 0");
        DoodleAlbums wraps = begun(7, 0, 6);
        rounds(wraps, 2);
        seatsDue(wraps, 0, 7, 0, 6);

        sentence("Rounds: to the first seat, from the next one of where it lies on");
        DoodleAlbums x = begun(3, 2, 4, 7, 0);
        rounds(x, 4);
        seatsDue(x, 0, 3, 4, 7, 0, 2);
        DoodleAlbums behind = begun(3, 2);
        behind.round();
        seatsDue(behind, 0, 3, 2);

        sentence("Rounds: on which a player sits");
        DoodleAlbums left = begun(3, 4, 5);
        left.leave(4);
        left.round();
        seatsDue(left, 0, 3, 5);

        sentence("Rounds: and that has no page in it");
        DoodleAlbums had = begun(3, 4);
        had.round();
        had.sit(2, ALL);
        had.round();
        seatsDue(had, 0, 3, 4, 2);
        DoodleAlbums all = begun(5, 0, 1, 2, 3, 4, 6, 7);
        for (int round = 1; round < 8; round++) due("round() " + round, all.round(), 1);
        seatsDue(all, 0, 5, 6, 7, 0, 1, 2, 3, 4);
        due("of(0, 3), a page by each seat", all.of(0, 3), 0);
        due("round() 8", all.round(), 0);
        due("of(0, 1)", all.of(0, 1), 8);

        sentence("Rounds: each album that goes round, at a full table");
        DoodleAlbums full = plain(0);
        for (int album = 0; album < 4; album++) {
            full.begin(0, 3);
            full.round();
        }
        for (int seat = 1; seat < 8; seat++) full.sit(seat, ALL);
        for (int seat = 0; seat < 8; seat++) due("begin(" + seat + ", 3)", full.begin(seat, 3), 4 + seat);
        for (int round = 1; round < 8; round++) due("round() " + round, full.round(), 8);
        seatsDue(full, 3, 0);
        seatsDue(full, 4, 0, 1, 2, 3, 4, 5, 6, 7);
        seatsDue(full, 11, 7, 0, 1, 2, 3, 4, 5, 6);
        due("seat(0, 4)", full.seat(0, 4), 12);
        due("seat(7, 4)", full.seat(7, 4), 8);
        due("round() 8", full.round(), 0);
        due("count(3)", full.count(3), 12);
    }

    private static void ending() {
        sentence("Rounds: If there is none, it is home if a player sits on its owner's seat");
        DoodleAlbums alone = begun(3);
        due("round(), the owner alone", alone.round(), 0);
        due("of(0, 3)", alone.of(0, 3), 1);
        DoodleAlbums back = begun(3, 4);
        back.leave(3);
        back.round();
        back.sit(3, ALL);
        back.round();
        due("of(0, 3), the owner came back", back.of(0, 3), 1);
        DoodleAlbums owner = begun(3, 4);
        owner.round();
        owner.leave(4);
        owner.round();
        due("of(0, 3), only the owner sits", owner.of(0, 3), 1);

        sentence("Rounds: otherwise it is stranded");
        DoodleAlbums left = begun(3, 4);
        left.round();
        left.leave(3);
        left.round();
        due("of(0, 3), the owner left", left.of(0, 3), 2);
        DoodleAlbums nobody = begun(3);
        nobody.leave(3);
        due("round(), nobody sits", nobody.round(), 0);
        due("of(0, 3), nobody sits", nobody.of(0, 3), 2);

        sentence("Rounds: If there is none -- the owner's own page is one");
        DoodleAlbums gone = begun(3, 4);
        gone.leave(3);
        gone.round();
        due("of(0, 3), it goes on without its owner", gone.of(0, 3), 0);
        seatsDue(gone, 0, 3, 4);

        sentence("Rounds: each album that goes round -- and no other one");
        DoodleAlbums ended = begun(3);
        ended.round();
        ended.leave(3);
        ended.sit(4, ALL);
        ended.round();
        due("of(0, 3), home for good", ended.of(0, 3), 1);
        seatsDue(ended, 0, 3);
        nobody.sit(3, ALL);
        nobody.sit(4, ALL);
        nobody.round();
        due("of(0, 3), stranded for good", nobody.of(0, 3), 2);
        seatsDue(nobody, 0, 3);
    }

    private static int drawn(int features, int drawable) {
        DoodleAlbums x = plain(0, 1);
        x.teach(3, features);
        x.sit(1, drawable);
        x.begin(0, 3);
        x.round();
        return x.page(0, 1, 1);
    }

    private static void puttingPagesIn() {
        sentence("Rounds: the drawing of those of its features that the player can draw");
        due("all of all", drawn(ALL, ALL), ALL);
        due("all of none", drawn(0, ALL), 0);
        due("none of all", drawn(ALL, 0), 0);
        due("the highest of all", drawn(ALL, 2048), 2048);
        due("the lowest of all", drawn(ALL, 1), 1);
        due("others than there are", drawn(0b1010, 0b0101), 0);

        sentence("Rounds: the fewest features in one of both sets alone; of several the lowest one");
        DoodleAlbums x = begun(0, 1, 2);
        x.tell(0, 0b101);
        rounds(x, 2);
        due("page(0, 2, 1), words 0, 2 and 13 have one of both", x.page(0, 2, 1), 0);
        DoodleAlbums same = plain(0, 1, 2);
        for (int word = 0; word < 16; word++) same.teach(word, 7);
        same.begin(0, 15);
        rounds(same, 2);
        due("page(0, 2, 1), all words alike", same.page(0, 2, 1), 0);
        same.teach(15, 3);
        same.sit(1, 3);
        same.begin(1, 15);
        same.begin(2, 15);
        rounds(same, 2);
        due("page(2, 2, 1), the last word alone is most like", same.page(2, 2, 1), 15);
    }

    private static void toldPages() {
        sentence("Rounds: If a page was told for the album, that is put in instead");
        DoodleAlbums x = begun(0, 1, 2, 3);
        x.tell(0, 0);
        x.round();
        due("page(0, 1, 1), told is 0", x.page(0, 1, 1), 0);
        due("page(0, 1, 2)", x.page(0, 1, 2), 1);
        x.tell(0, 0);
        x.round();
        due("page(0, 2, 1), told is 0", x.page(0, 2, 1), 0);
        due("page(0, 2, 2)", x.page(0, 2, 2), 1);

        sentence("Rounds: and is not told any more");
        due("of(0, 6)", x.of(0, 6), NONE);
        x.round();
        due("page(0, 3, 1)", x.page(0, 3, 1), 1);
        due("page(0, 3, 2)", x.page(0, 3, 2), 0);
        due("page(0, 2, 2), it stays a told one", x.page(0, 2, 2), 1);

        sentence("Rounds: for one that ends without another page it stays told");
        DoodleAlbums home = begun(0);
        home.tell(0, ALL);
        home.round();
        due("of(0, 6), home", home.of(0, 6), ALL);
        due("of(0, 1), home", home.of(0, 1), 1);
        DoodleAlbums stranded = begun(0, 1);
        stranded.round();
        stranded.tell(0, 0);
        stranded.leave(0);
        rounds(stranded, 2);
        due("of(0, 3)", stranded.of(0, 3), 2);
        due("of(0, 6), stranded", stranded.of(0, 6), 0);

        sentence("Rounds: told for the album -- and for no other one");
        DoodleAlbums two = plain(0, 1, 2);
        two.begin(0, 3);
        two.begin(1, 3);
        two.tell(1, 77);
        two.round();
        due("page(0, 1, 1)", two.page(0, 1, 1), 8);
        due("page(1, 1, 1)", two.page(1, 1, 1), 77);
    }

    private static void points() {
        sentence("Rounds: If the page is a word, and the same word as on the page ahead of the drawing");
        DoodleAlbums x = begun(0, 1, 2);
        x.tell(0, 3);
        x.round();
        pointsDue(x, 0, 0, 0);
        x.tell(0, 3);
        x.round();
        pointsDue(x, 0, 1, 1);

        sentence("Rounds: the same word -- not one with the same features");
        DoodleAlbums alike = plain(0, 1, 2);
        alike.begin(0, 15);
        rounds(alike, 2);
        due("page(0, 2, 1)", alike.page(0, 2, 1), 14);
        pointsDue(alike, 0, 0, 0);

        sentence("Rounds: the page ahead of the drawing -- not the first page");
        DoodleAlbums back = begun(0, 1, 2, 4, 5);
        rounds(back, 1);
        back.tell(0, 7);
        rounds(back, 2);
        back.tell(0, 3);
        back.round();
        pointsDue(back, 0, 0, 0, 0, 0, 0);
        DoodleAlbums again = begun(0, 1, 2, 4, 5);
        rounds(again, 1);
        again.tell(0, 7);
        rounds(again, 3);
        pointsDue(again, 0, 0, 0, 0, 1, 1);

        sentence("Rounds: it has at least 3 pages");
        for (int pages = 1; pages <= 8; pages++) {
            DoodleAlbums home = plain();
            for (int seat = 0; seat < pages; seat++) home.sit(seat, ALL);
            home.begin(0, 3);
            rounds(home, pages - 1);
            due("seat(0, 2), on its way with " + pages, home.seat(0, 2), 0);
            home.round();
            due("of(0, 1)", home.of(0, 1), pages);
            due("of(0, 3)", home.of(0, 3), 1);
            due("seat(0, 2), home with " + pages, home.seat(0, 2), pages < 3 ? 0 : 2);
        }

        sentence("Rounds: its last word is its first one");
        DoodleAlbums other = begun(0, 1, 2);
        other.round();
        other.tell(0, 4);
        rounds(other, 2);
        due("of(0, 3)", other.of(0, 3), 1);
        pointsDue(other, 0, 0, 0);
        DoodleAlbums likeness = plain(0, 1, 2);
        likeness.begin(0, 15);
        rounds(likeness, 3);
        due("of(0, 8), a word with the same features", likeness.of(0, 8), 0);
        pointsDue(likeness, 0, 0, 0);

        sentence("Rounds: When an album comes home -- once, and not when it is stranded");
        DoodleAlbums home = begun(0, 1, 2);
        rounds(home, 3);
        pointsDue(home, 2, 1, 1);
        rounds(home, 3);
        pointsDue(home, 2, 1, 1);
        DoodleAlbums stranded = begun(0, 1, 2);
        stranded.leave(0);
        rounds(stranded, 3);
        due("of(0, 3)", stranded.of(0, 3), 2);
        pointsDue(stranded, 0, 1, 1);
        stranded.sit(0, ALL);
        stranded.round();
        pointsDue(stranded, 0, 1, 1);
    }

    // ---- promises 1 to 8: changes

    private static void newObject() {
        sentence("1: Creates an empty table");
        DoodleAlbums x = fresh();
        for (int what = 0; what <= 8; what++) due("count(" + what + ")", x.count(what), 0);
        due("of(0, 0)", x.of(0, 0), NO_SUCH);
        due("page(0, 0, 0)", x.page(0, 0, 0), NO_SUCH);
        due("fault()", x.fault(), 0);
        due("wipe()", x.wipe(), 0);
        due("undo()", x.undo(), NOT_POSSIBLE);
        due("restore(0)", x.restore(0), NOT_POSSIBLE);
        due("restore(1)", x.restore(1), NOT_POSSIBLE);

        sentence("1: an object by itself");
        DoodleAlbums other = begun(0, 1);
        write(other, "c");
        other.save(0);
        due("count(0)", x.count(0), 0);
        due("word(0)", x.word(0), 5);
        due("count(7)", x.count(7), 0);
        due("restore(0)", x.restore(0), NOT_POSSIBLE);
    }

    private static void teach() {
        sentence("2: NO_SUCH if there is no such word");
        range("teach(?, 0)", word -> fresh().teach(word, 0), 0, 15, NO_SUCH);

        sentence("2: features: 0 to 4095");
        range("teach(15, ?)", features -> fresh().teach(15, features), 0, ALL, BAD_VALUE);
        refused("teach(15, NONE)", features -> fresh().teach(15, features), BAD_VALUE, NONE);

        sentence("2: NO_SUCH ahead of BAD_VALUE");
        due("teach(16, 4096)", fresh().teach(16, 4096), NO_SUCH);
        due("teach(-1, -1)", fresh().teach(-1, -1), NO_SUCH);

        sentence("2: Returns the previous set");
        DoodleAlbums x = fresh();
        due("teach(15, 0)", x.teach(15, 0), 1833);
        due("teach(15, 4095)", x.teach(15, ALL), 0);
        due("teach(15, 4095)", x.teach(15, ALL), ALL);

        sentence("2: pages that there are stay");
        DoodleAlbums y = begun(0, 1, 2);
        y.tell(0, 8);
        rounds(y, 2);
        y.teach(3, ALL);
        due("page(0, 0, 1)", y.page(0, 0, 1), 3);
        due("page(0, 1, 1)", y.page(0, 1, 1), 8);
        due("page(0, 2, 1)", y.page(0, 2, 1), 3);
    }

    private static void sit() {
        sentence("3: NO_SUCH if there is no such seat");
        range("sit(?, 0)", seat -> fresh().sit(seat, 0), 0, 7, NO_SUCH);

        sentence("3: 0 to 4095, or NONE");
        range("sit(7, ?)", features -> fresh().sit(7, features), 0, ALL, BAD_VALUE);
        allowed("sit(7, ?)", features -> fresh().sit(7, features), NONE);
        refused("sit(7, ?)", features -> fresh().sit(7, features), BAD_VALUE, NONE - 1, NONE + 1, -2, -3, -4);

        sentence("3: NO_SUCH ahead of BAD_VALUE");
        due("sit(8, 4096)", fresh().sit(8, 4096), NO_SUCH);
        due("sit(-1, -1)", fresh().sit(-1, -1), NO_SUCH);

        sentence("3: NONE: what the seat has");
        DoodleAlbums x = fresh();
        x.sit(7, NONE);
        due("seat(7, 1)", x.seat(7, 1), ALL);
        x.sit(7, 0);
        x.sit(7, NONE);
        due("seat(7, 1)", x.seat(7, 1), 0);

        sentence("3: Returns how many players sit at the table then");
        DoodleAlbums y = fresh();
        for (int seat = 7; seat >= 0; seat--) due("sit(" + seat + ", 0)", y.sit(seat, 0), 8 - seat);
        due("count(0)", y.count(0), 255);

        sentence("3: or stays on it");
        due("sit(3, 5)", y.sit(3, 5), 8);
        due("seat(3, 1)", y.seat(3, 1), 5);
        due("count(0)", y.count(0), 255);
    }

    private static void leave() {
        sentence("4: NO_SUCH if there is no such seat");
        DoodleAlbums x = plain(0, 7);
        refused("leave", x::leave, NO_SUCH, -1, 8, 32, LEAST, MOST, NONE);

        sentence("4: NOT_POSSIBLE if nobody sits there");
        due("leave(1)", x.leave(1), NOT_POSSIBLE);
        due("leave(6)", x.leave(6), NOT_POSSIBLE);

        sentence("4: Returns how many players sit at the table then");
        due("leave(0)", x.leave(0), 1);
        due("leave(7)", x.leave(7), 0);
        due("leave(7) again", x.leave(7), NOT_POSSIBLE);
        due("count(0)", x.count(0), 0);
    }

    private static void begin() {
        sentence("5: NO_SUCH if there is no such seat");
        DoodleAlbums all = plain(0, 1, 2, 3, 4, 5, 6, 7);
        range("begin(?, 3)", seat -> all.begin(seat, 3), 0, 7, NO_SUCH);
        due("count(1)", all.count(1), 2);

        sentence("5: NO_SUCH if there is no such word");
        range("begin(4, ?)", word -> plain(4).begin(4, word), 0, 15, NO_SUCH);

        sentence("5: NO_SUCH ahead of TOO_MANY and NOT_POSSIBLE");
        due("begin(8, 3), 12 albums", homeAlbums(12).begin(8, 3), NO_SUCH);
        due("begin(4, 16), 12 albums", homeAlbums(12).begin(4, 16), NO_SUCH);
        due("begin(3, -1), nobody sits there", homeAlbums(12).begin(3, -1), NO_SUCH);
        due("begin(3, 16), one goes round", begun(3).begin(3, 16), NO_SUCH);

        sentence("5: TOO_MANY if there are 12 albums");
        due("begin(4, 3), 11 albums", homeAlbums(11).begin(4, 3), 11);
        due("begin(4, 3), 12 albums", homeAlbums(12).begin(4, 3), TOO_MANY);

        sentence("5: TOO_MANY ahead of NOT_POSSIBLE");
        due("begin(3, 3), nobody sits there, 11 albums", homeAlbums(11).begin(3, 3), NOT_POSSIBLE);
        due("begin(3, 3), nobody sits there, 12 albums", homeAlbums(12).begin(3, 3), TOO_MANY);
        DoodleAlbums full = homeAlbums(11);
        full.begin(4, 3);
        due("begin(4, 3), one goes round, 12 albums", full.begin(4, 3), TOO_MANY);

        sentence("5: NOT_POSSIBLE if nobody sits there");
        due("begin(5, 3)", plain(4, 6).begin(5, 3), NOT_POSSIBLE);
        DoodleAlbums left = plain(5);
        left.leave(5);
        due("begin(5, 3), left", left.begin(5, 3), NOT_POSSIBLE);

        sentence("5: NOT_POSSIBLE if an album of this owner goes round");
        DoodleAlbums x = begun(0, 1);
        due("begin(0, 4)", x.begin(0, 4), NOT_POSSIBLE);
        x.round();
        due("begin(0, 4), it lies at another seat", x.begin(0, 4), NOT_POSSIBLE);
        due("begin(1, 4), it lies there", x.begin(1, 4), 1);
        x.round();
        due("begin(0, 4), it is home", x.begin(0, 4), 2);
        x.leave(1);
        x.round();
        due("of(1, 3)", x.of(1, 3), 2);
        x.sit(1, ALL);
        due("begin(1, 4), it is stranded", x.begin(1, 4), 3);

        sentence("5: Returns its number");
        due("begin(4, 3), no album", homeAlbums(0).begin(4, 3), 0);
        DoodleAlbums emptied = homeAlbums(12);
        emptied.clear();
        due("begin(4, 3), all cleared", emptied.begin(4, 3), 0);
        due("of(0, 1)", emptied.of(0, 1), 1);
        due("of(0, 3)", emptied.of(0, 3), 0);
    }

    private static void tell() {
        sentence("6: NO_SUCH if there is no such album");
        refused("tell(?, 0), no album", album -> fresh().tell(album, 0), NO_SUCH, -1, 0, 1, 11, 12, LEAST, MOST);
        DoodleAlbums full = homeAlbums(11);
        full.begin(4, 3);
        due("tell(11, 0)", full.tell(11, 0), 0);
        due("tell(12, 0)", full.tell(12, 0), NO_SUCH);

        sentence("6: a drawing, 0 to 4095");
        range("tell(0, ?)", page -> begun(0, 1).tell(0, page), 0, ALL, BAD_VALUE);
        refused("tell(0, NONE)", page -> begun(0, 1).tell(0, page), BAD_VALUE, NONE);

        sentence("6: a word, 0 to 15, if the next page is one");
        DoodleAlbums x = begun(0, 1);
        x.round();
        range("tell(0, ?)", page -> x.tell(0, page), 0, 15, BAD_VALUE);
        refused("tell(0, NONE)", page -> x.tell(0, page), BAD_VALUE, NONE);

        sentence("6: NO_SUCH ahead of BAD_VALUE ahead of NOT_POSSIBLE");
        DoodleAlbums home = homeAlbums(1);
        due("tell(1, 4096)", home.tell(1, 4096), NO_SUCH);
        due("tell(0, 4096)", home.tell(0, 4096), BAD_VALUE);
        due("tell(0, -1)", home.tell(0, -1), BAD_VALUE);

        sentence("6: NOT_POSSIBLE if it does not go round");
        due("tell(0, 0), home", home.tell(0, 0), NOT_POSSIBLE);
        due("tell(0, 4095), home", home.tell(0, ALL), NOT_POSSIBLE);
        DoodleAlbums stranded = begun(0);
        stranded.leave(0);
        stranded.round();
        due("tell(0, 0), stranded", stranded.tell(0, 0), NOT_POSSIBLE);

        sentence("6: Returns 1 if a page was told for it already, otherwise 0");
        DoodleAlbums y = begun(0, 1, 2);
        due("tell(0, 0)", y.tell(0, 0), 0);
        due("tell(0, 4095)", y.tell(0, ALL), 1);
        due("tell(0, 4095) again", y.tell(0, ALL), 1);
        y.round();
        due("tell(0, 0), the next page", y.tell(0, 0), 0);

        sentence("6: (instead of one that was told)");
        y.tell(0, 15);
        y.round();
        due("page(0, 1, 1)", y.page(0, 1, 1), ALL);
        due("page(0, 2, 1)", y.page(0, 2, 1), 15);
    }

    private static void round() {
        sentence("7: Returns how many albums go round behind it");
        due("round(), no album", fresh().round(), 0);
        DoodleAlbums x = begun(0, 1);
        x.begin(1, 3);
        due("round(), two", x.round(), 2);
        due("round(), two end", x.round(), 0);
        due("round(), all are home", x.round(), 0);
        DoodleAlbums one = begun(0, 1);
        one.round();
        one.begin(1, 3);
        due("round(), one of two ends", one.round(), 1);
    }

    private static void clear() {
        sentence("8: Returns how many");
        due("clear(), no album", fresh().clear(), 0);
        due("clear(), none ended", begun(0).clear(), 0);
        due("clear(), 1", homeAlbums(1).clear(), 1);
        due("clear(), 12", homeAlbums(12).clear(), 12);
        DoodleAlbums full = homeAlbums(11);
        full.begin(4, 5);
        due("clear(), 11 of 12", full.clear(), 11);

        sentence("8: all albums that are home or stranded");
        due("of(0, 4), the 12th goes round", full.of(0, 4), 5);
        due("count(1)", full.count(1), 1);
        DoodleAlbums x = begun(0);
        x.round();
        x.begin(0, 3);
        x.leave(0);
        x.round();
        due("count(3)", x.count(3), 1);
        due("count(4)", x.count(4), 1);
        due("clear(), one of each", x.clear(), 2);
        due("count(1)", x.count(1), 0);
        due("clear() again", x.clear(), 0);

        sentence("8: the page that is told goes with its album");
        DoodleAlbums told = homeAlbums(2);
        told.sit(5, ALL);
        told.begin(4, 3);
        told.tell(2, 99);
        due("clear()", told.clear(), 2);
        due("of(0, 6)", told.of(0, 6), 99);
        told.round();
        due("page(0, 1, 1)", told.page(0, 1, 1), 99);
        due("page(0, 1, 2)", told.page(0, 1, 2), 1);

        sentence("8: the pages that were told go with their album");
        DoodleAlbums moved = homeAlbums(1);
        moved.sit(5, ALL);
        moved.sit(6, ALL);
        moved.begin(4, 3);
        moved.round();
        moved.tell(1, 15);
        moved.round();
        moved.clear();
        due("page(0, 1, 2)", moved.page(0, 1, 2), 0);
        due("page(0, 2, 2)", moved.page(0, 2, 2), 1);
        due("page(0, 2, 1)", moved.page(0, 2, 1), 15);

        sentence("8: an album that is cleared leaves nothing to the next one");
        DoodleAlbums next = begun(0, 1, 2);
        next.tell(0, 77);
        rounds(next, 2);
        next.tell(0, 99);
        next.round();
        due("of(0, 6), home", next.of(0, 6), 99);
        due("clear()", next.clear(), 1);
        due("begin(1, 4)", next.begin(1, 4), 0);
        int[] news = {1, 1, 1, 0, 4, 0, NONE, 2, 0};
        for (int what = 0; what <= 8; what++) due("of(0, " + what + ")", next.of(0, what), news[what]);
        due("page(0, 0, 2)", next.page(0, 0, 2), 0);
        due("page(0, 1, 0)", next.page(0, 1, 0), NO_SUCH);
        next.round();
        due("page(0, 1, 1)", next.page(0, 1, 1), 16);
        due("page(0, 1, 2)", next.page(0, 1, 2), 0);
    }

    // ---- promises 9 to 13: what there is

    private static void of() {
        sentence("9: NO_SUCH if there is no such album");
        refused("of(?, 0), no album", album -> fresh().of(album, 0), NO_SUCH, -1, 0, 1, 11, 12, LEAST, MOST);
        range("of(?, 0), 12 albums", album -> homeAlbums(12).of(album, 0), 0, 11, NO_SUCH);

        sentence("9: BAD_VALUE if what is out of range");
        range("of(0, ?)", what -> homeAlbums(1).of(0, what), 0, 8, BAD_VALUE);

        sentence("9: NO_SUCH ahead of BAD_VALUE");
        due("of(1, 9)", homeAlbums(1).of(1, 9), NO_SUCH);
        due("of(-1, -1)", homeAlbums(1).of(-1, -1), NO_SUCH);

        sentence("9: 4 its last word");
        DoodleAlbums x = begun(0, 1, 2, 3);
        due("of(0, 4), one page", x.of(0, 4), 3);
        x.round();
        due("of(0, 4), behind a drawing", x.of(0, 4), 3);
        x.tell(0, 9);
        x.round();
        due("of(0, 4), three pages", x.of(0, 4), 9);
        x.round();
        due("of(0, 4), behind another drawing", x.of(0, 4), 9);

        sentence("9: 5 how often a word in it is another one than the word before");
        due("of(0, 5), one page", begun(0).of(0, 5), 0);
        due("of(0, 5), another word", x.of(0, 5), 1);
        DoodleAlbums kept = begun(0, 1, 2);
        rounds(kept, 2);
        due("of(0, 5), the same word", kept.of(0, 5), 0);
        DoodleAlbums often = begun(0, 1, 2, 3, 4, 5, 6, 7);
        for (int word = 0; word < 3; word++) {
            often.round();
            often.tell(0, word);
            often.round();
            due("of(0, 5), as often as can be", often.of(0, 5), word + 1);
        }
        often.round();
        due("of(0, 1)", often.of(0, 1), 8);
        due("of(0, 5), eight pages", often.of(0, 5), 3);

        sentence("9: 6 the page that is told for it (NONE)");
        DoodleAlbums told = begun(0, 1);
        due("of(0, 6)", told.of(0, 6), NONE);
        told.tell(0, 0);
        due("of(0, 6)", told.of(0, 6), 0);
        told.tell(0, ALL);
        due("of(0, 6)", told.of(0, 6), ALL);

        sentence("9: 7 the seats that have a page in it, as a set");
        due("of(0, 7), seat 0", begun(0).of(0, 7), 1);
        due("of(0, 7), seat 7", begun(7).of(0, 7), 128);
        due("of(0, 7), all seats", often.of(0, 7), 255);

        sentence("9: 8 in how many features its last word and its first one differ");
        due("of(0, 8), one page", begun(0).of(0, 8), 0);
        DoodleAlbums far = plain(0, 1, 2);
        far.begin(0, 12);
        far.round();
        far.tell(0, 13);
        far.round();
        due("of(0, 8), in all of them", far.of(0, 8), 12);
        far.teach(13, 0);
        due("of(0, 8), taught", far.of(0, 8), 0);
    }

    private static void page() {
        sentence("10: NO_SUCH if there is no such album");
        refused("page(?, 0, 0), no album", album -> fresh().page(album, 0, 0), NO_SUCH, -1, 0, 1, 11, 12, LEAST, MOST);
        range("page(?, 0, 0), 12 albums", album -> homeAlbums(12).page(album, 0, 0), 0, 11, NO_SUCH);

        sentence("10: NO_SUCH if there is no such page");
        DoodleAlbums x = begun(0, 1, 2, 3, 4, 5, 6, 7);
        for (int last = 0; last < 8; last++) {
            range("page(0, ?, 0)", page -> x.page(0, page, 0), 0, last, NO_SUCH);
            x.round();
        }
        range("page(0, ?, 0), home", page -> x.page(0, page, 0), 0, 7, NO_SUCH);

        sentence("10: BAD_VALUE if what is out of range");
        range("page(0, 0, ?)", what -> begun(0).page(0, 0, what), 0, 2, BAD_VALUE);

        sentence("10: NO_SUCH ahead of BAD_VALUE");
        due("page(1, 0, 3)", begun(0).page(1, 0, 3), NO_SUCH);
        due("page(0, 1, 3)", begun(0).page(0, 1, 3), NO_SUCH);
        due("page(0, -1, -1)", begun(0).page(0, -1, -1), NO_SUCH);

        sentence("10: 1 the word or the drawing");
        DoodleAlbums y = plain(0, 1, 2);
        y.begin(0, 0);
        y.tell(0, ALL);
        y.round();
        y.tell(0, 15);
        y.round();
        due("page(0, 0, 1), the lowest word", y.page(0, 0, 1), 0);
        due("page(0, 1, 1), the largest drawing", y.page(0, 1, 1), ALL);
        due("page(0, 2, 1), the highest word", y.page(0, 2, 1), 15);

        sentence("10: 2 whether it was told (1 or 0)");
        due("page(0, 0, 2), the first page", y.page(0, 0, 2), 0);
        due("page(0, 1, 2)", y.page(0, 1, 2), 1);
        due("page(0, 2, 2)", y.page(0, 2, 2), 1);
        DoodleAlbums last = begun(0, 1, 2, 3, 4, 5, 6, 7);
        rounds(last, 6);
        last.tell(0, 1);
        last.round();
        due("page(0, 6, 2)", last.page(0, 6, 2), 0);
        due("page(0, 7, 2), the last page", last.page(0, 7, 2), 1);
    }

    private static void seat() {
        sentence("11: NO_SUCH if there is no such seat");
        range("seat(?, 4)", seat -> fresh().seat(seat, 4), 0, 7, NO_SUCH);

        sentence("11: BAD_VALUE if what is out of range");
        range("seat(7, ?)", what -> fresh().seat(7, what), 0, 4, BAD_VALUE);

        sentence("11: NO_SUCH ahead of BAD_VALUE");
        due("seat(8, 5)", fresh().seat(8, 5), NO_SUCH);
        due("seat(-1, -1)", fresh().seat(-1, -1), NO_SUCH);

        sentence("11: 0 whether a player sits there (1 or 0)");
        DoodleAlbums x = plain(0, 7);
        int[] sits = {1, 0, 0, 0, 0, 0, 0, 1};
        for (int seat = 0; seat < 8; seat++) due("seat(" + seat + ", 0)", x.seat(seat, 0), sits[seat]);

        sentence("11: 3 the album of this owner that goes round (NONE)");
        due("seat(4, 3), none", plain(4).seat(4, 3), NONE);
        due("seat(4, 3), 12 that are home", homeAlbums(12).seat(4, 3), NONE);
        DoodleAlbums full = homeAlbums(11);
        full.begin(4, 3);
        due("seat(4, 3), the 12th", full.seat(4, 3), 11);
        full.leave(4);
        due("seat(4, 3), the owner left", full.seat(4, 3), 11);
        full.round();
        due("seat(4, 3), stranded", full.seat(4, 3), NONE);
        DoodleAlbums lies = begun(0, 1);
        lies.round();
        due("seat(0, 3), it lies elsewhere", lies.seat(0, 3), 0);
        due("seat(1, 3), it only lies there", lies.seat(1, 3), NONE);

        sentence("11: 4 pages by this seat in all albums");
        due("seat(0, 4), no album", fresh().seat(0, 4), 0);
        due("seat(4, 4), 12 albums", homeAlbums(12).seat(4, 4), 12);
        due("seat(3, 4), 12 albums of another one", homeAlbums(12).seat(3, 4), 0);
        due("seat(1, 4)", lies.seat(1, 4), 1);
    }

    private static void word() {
        sentence("12: NO_SUCH if there is no such word");
        range("word", plain()::word, 0, 15, NO_SUCH);

        sentence("12: Returns the set");
        due("word(12), none", plain().word(12), 0);
        due("word(13), all", plain().word(13), ALL);
    }

    private static void count() {
        sentence("13: BAD_VALUE if what is out of range");
        range("count", fresh()::count, 0, 8, BAD_VALUE);

        sentence("13: 0 players, as a set of seats");
        due("count(0), seat 0", plain(0).count(0), 1);
        due("count(0), seat 7", plain(7).count(0), 128);
        due("count(0), all", plain(0, 1, 2, 3, 4, 5, 6, 7).count(0), 255);

        sentence("13: 1 albums, 2 those that go round, 3 home, 4 stranded");
        DoodleAlbums x = homeAlbums(10);
        x.begin(4, 3);
        x.leave(4);
        x.round();
        x.sit(4, ALL);
        x.begin(4, 3);
        int[] albums = {12, 1, 10, 1};
        for (int what = 1; what <= 4; what++) due("count(" + what + ")", x.count(what), albums[what - 1]);

        sentence("13: 5 rounds so far");
        DoodleAlbums y = fresh();
        due("count(5)", y.count(5), 0);
        y.round();
        due("count(5), a round without albums", y.count(5), 1);
        y.clear();
        due("count(5), a change that is no round", y.count(5), 1);

        sentence("13: 6 all points");
        DoodleAlbums points = begun(0, 1, 2);
        rounds(points, 2);
        due("count(6)", points.count(6), 2);
        points.round();
        points.leave(0);
        due("count(6), also of one who left", points.count(6), 4);

        sentence("13: 7 the length of the pad");
        due("count(7)", written("c").count(7), 1);
        due("count(7), full", written("c;".repeat(40)).count(7), 80);

        sentence("13: 8 how many changes can be undone");
        DoodleAlbums changes = fresh();
        for (int change = 1; change <= 8; change++) {
            changes.round();
            due("count(8) behind " + change, changes.count(8), Math.min(change, 6));
        }
    }

    // ---- promises 14 to 17: what if

    private static void guess() {
        sentence("14: drawing: 0 to 4095");
        range("guess", fresh()::guess, 0, ALL, BAD_VALUE);
        refused("guess", fresh()::guess, BAD_VALUE, NONE);

        sentence("14: the word that is most like a drawing (of several the lowest one)");
        due("guess(0), nothing", plain().guess(0), 12);
        due("guess(4095), all", plain().guess(ALL), 13);
        due("guess(3), words 14 and 15 alike", plain().guess(3), 14);
        due("guess(2049), words 0, 11, 12 have one or two in one of both", plain().guess(2049), 0);
        DoodleAlbums far = fresh();
        for (int word = 0; word < 16; word++) far.teach(word, 0);
        due("guess(4095), all as far as can be", far.guess(ALL), 0);
        far.teach(15, 1);
        due("guess(4095), the last one is nearer", far.guess(ALL), 15);
        due("guess(0)", far.guess(0), 0);
    }

    private static void foretold() {
        sentence("15: NO_SUCH if there is no such album");
        refused("foretold(?, 0), no album", album -> fresh().foretold(album, 0), NO_SUCH, -1, 0, 1, 11, 12, LEAST, MOST);
        range("foretold(?, 0), 12 albums", album -> homeAlbums(12).foretold(album, 0), 0, 11, NO_SUCH);

        sentence("15: BAD_VALUE if what is out of range");
        range("foretold(0, ?)", what -> homeAlbums(1).foretold(0, what), 0, 3, BAD_VALUE);

        sentence("15: NO_SUCH ahead of BAD_VALUE");
        due("foretold(1, 4)", homeAlbums(1).foretold(1, 4), NO_SUCH);
        due("foretold(-1, -1)", homeAlbums(1).foretold(-1, -1), NO_SUCH);

        sentence("15: how many rounds until it does not go round any more (0 if it does not now)");
        due("foretold(0, 2), home", homeAlbums(1).foretold(0, 2), 0);
        due("foretold(0, 2), the owner alone", begun(0).foretold(0, 2), 1);
        DoodleAlbums all = begun(7, 0, 1, 2, 3, 4, 5, 6);
        for (int left = 8; left >= 0; left--) {
            due("foretold(0, 2), all seats taken", all.foretold(0, 2), left);
            due("foretold(0, 1), all seats taken", all.foretold(0, 1), 8);
            all.round();
        }

        sentence("15: how it is then: 1 or 2");
        DoodleAlbums x = begun(0, 1);
        due("foretold(0, 3)", x.foretold(0, 3), 1);
        x.leave(0);
        due("foretold(0, 3), the owner left", x.foretold(0, 3), 2);
        x.leave(1);
        due("foretold(0, 3), nobody sits", x.foretold(0, 3), 2);
        due("foretold(0, 1), nobody sits", x.foretold(0, 1), 1);
        x.round();
        x.sit(0, ALL);
        due("foretold(0, 3), stranded already", x.foretold(0, 3), 2);

        sentence("15: 0 its last word, also by a page that is told");
        DoodleAlbums told = begun(0, 1, 2);
        due("foretold(0, 0)", told.foretold(0, 0), 3);
        told.tell(0, 0);
        due("foretold(0, 0), nothing is drawn", told.foretold(0, 0), 12);
        due("of(0, 6), nothing changes", told.of(0, 6), 0);
        told.round();
        told.tell(0, 15);
        due("foretold(0, 0), a word is told", told.foretold(0, 0), 15);
        due("foretold(0, 0), the owner alone", begun(0).foretold(0, 0), 3);
    }

    private static void bestWord() {
        sentence("16: NO_SUCH if there is no such seat");
        DoodleAlbums all = plain(0, 1, 2, 3, 4, 5, 6, 7);
        range("bestWord(?, 0)", seat -> all.bestWord(seat, 0), 0, 7, NO_SUCH);

        sentence("16: BAD_VALUE if what is neither 0 nor 1");
        range("bestWord(7, ?)", what -> all.bestWord(7, what), 0, 1, BAD_VALUE);

        sentence("16: NO_SUCH ahead of BAD_VALUE ahead of NOT_POSSIBLE");
        due("bestWord(8, 2)", fresh().bestWord(8, 2), NO_SUCH);
        due("bestWord(-1, 0)", fresh().bestWord(-1, 0), NO_SUCH);
        due("bestWord(0, 2), nobody sits there", fresh().bestWord(0, 2), BAD_VALUE);
        due("bestWord(0, -1), nobody sits there", fresh().bestWord(0, -1), BAD_VALUE);

        sentence("16: NOT_POSSIBLE if nobody sits there");
        due("bestWord(0, 0)", fresh().bestWord(0, 0), NOT_POSSIBLE);
        due("bestWord(0, 1)", fresh().bestWord(0, 1), NOT_POSSIBLE);
        all.leave(6);
        due("bestWord(6, 0), left", all.bestWord(6, 0), NOT_POSSIBLE);

        sentence("16: of several the lowest one");
        due("bestWord(0, 0), all words stay with the owner", plain(0).bestWord(0, 0), 0);
        due("bestWord(0, 1), all words stay with the owner", plain(0).bestWord(0, 1), 0);
        DoodleAlbums none = plain(0, 1, 2);
        none.sit(1, 0);
        due("bestWord(0, 0), seat 1 draws nothing", none.bestWord(0, 0), 12);
        DoodleAlbums last = plain(0, 1, 2);
        for (int word = 0; word < 15; word++) last.teach(word, ALL);
        last.teach(15, 0);
        last.sit(1, 0);
        due("bestWord(0, 0), the last word alone comes back", last.bestWord(0, 0), 15);
        due("bestWord(0, 1), the last word alone comes back", last.bestWord(0, 1), 0);

        sentence("16: if a seat began it now -- as if it could, with 12 albums or one that goes round");
        due("bestWord(4, 0), 12 albums", homeAlbums(12).bestWord(4, 0), 0);
        due("bestWord(0, 0), one goes round", begun(0, 1).bestWord(0, 0), 0);
    }

    private static void pointsThen() {
        sentence("17: NO_SUCH if there is no such seat");
        range("pointsThen", fresh()::pointsThen, 0, 7, NO_SUCH);

        sentence("17: if all albums that go round ended -- none goes round");
        due("pointsThen(0), no album", fresh().pointsThen(0), 0);
        DoodleAlbums x = begun(0, 1, 2);
        rounds(x, 3);
        due("pointsThen(0), home", x.pointsThen(0), 2);

        sentence("17: if all albums that go round ended -- also the last of 12");
        DoodleAlbums full = homeAlbums(11);
        full.begin(4, 3);
        full.sit(5, ALL);
        full.sit(6, ALL);
        due("pointsThen(4)", full.pointsThen(4), 2);
        due("pointsThen(5)", full.pointsThen(5), 1);
        due("pointsThen(7)", full.pointsThen(7), 0);
        due("seat(4, 2), nothing changes", full.seat(4, 2), 0);

        sentence("17: if all albums that go round ended -- all of them at a full table");
        DoodleAlbums all = plain(0, 1, 2, 3, 4, 5, 6, 7);
        for (int seat = 0; seat < 8; seat++) all.begin(seat, 3);
        // each album is passed through 3 pairs of a drawing and its word, and comes home
        due("pointsThen(0)", all.pointsThen(0), 2 + 6);
        due("pointsThen(7)", all.pointsThen(7), 2 + 6);
        rounds(all, 8);
        due("seat(7, 2), played", all.seat(7, 2), 8);
    }

    // ---- promises 18 to 21: texts

    private static void put() {
        sentence("18: 1 to 8 characters");
        due("put of one", fresh().put('c'), 1);
        due("put of eight", fresh().put(number("cccccccc")), 8);
        for (int length = 1; length <= 8; length++) {
            due("put of " + length, fresh().put(number("c".repeat(length))), length);
        }

        sentence("18: BAD_VALUE if there is no character");
        due("put(0)", fresh().put(0), BAD_VALUE);

        sentence("18: a code is not 33 to 126");
        for (int place = 0; place < 8; place++) {
            for (int code = 1; code < 256; code++) {
                long others = place == 0 ? 0 : number("~!~!~!~".substring(0, place));
                long characters = (long) code << 8 * place | others;
                due("put with code " + code + " ahead of " + place, fresh().put(characters),
                    code >= 33 && code <= 126 ? place + 1 : BAD_VALUE);
            }
        }

        sentence("18: a code is not 33 to 126 -- with good ones ahead of it");
        int[] codes = {0, 1, 32, 127, 128, 255};
        for (int place = 0; place < 7; place++) {
            for (int code : codes) {
                long characters = number("cccccccc") & ~(255L << 8 * place) | (long) code << 8 * place;
                due("put with code " + code + " ahead of " + place + " of eight", fresh().put(characters), BAD_VALUE);
            }
        }

        sentence("18: a bit above 8 bits that are 0 is not 0");
        for (int characters = 1; characters <= 6; characters++) {
            long low = number("c".repeat(characters));
            for (int bit = 8 * characters + 8; bit < 64; bit++) {
                due("put of " + characters + " with bit " + bit, fresh().put(low | 1L << bit), BAD_VALUE);
            }
        }
        due("put(c, 8 bits that are 0)", fresh().put(number("c") << 8), BAD_VALUE);
        due("put(Long.MIN_VALUE)", fresh().put(Long.MIN_VALUE), BAD_VALUE);
        due("put(Long.MAX_VALUE)", fresh().put(Long.MAX_VALUE), BAD_VALUE);
        due("put(-1)", fresh().put(-1), BAD_VALUE);

        sentence("18: the lowest 8 bits are the last character");
        DoodleAlbums order = fresh();
        order.put('+' << 16 | '7' << 8 | '=');
        order.put('5');
        due("carryOut()", order.carryOut(), 1);
        due("seat(7, 1)", order.seat(7, 1), 5);

        sentence("18: TOO_MANY if the pad would be longer than 80");
        for (int length = 1; length <= 8; length++) {
            String text = "c".repeat(length);
            due("put of " + length + " up to 80", written("c".repeat(80 - length)).put(number(text)), 80);
            due("put of " + length + " up to 81", written("c".repeat(81 - length)).put(number(text)), TOO_MANY);
            due("put of " + length + " behind 80", written("c".repeat(80)).put(number(text)), TOO_MANY);
        }

        sentence("18: BAD_VALUE ahead of TOO_MANY");
        due("put(0) behind 80", written("c".repeat(80)).put(0), BAD_VALUE);
        due("put of code 127 behind 80", written("c".repeat(80)).put(127), BAD_VALUE);
    }

    private static void wipe() {
        sentence("19: Empties the pad, and returns the length that it had");
        due("wipe(), empty", fresh().wipe(), 0);
        due("wipe(), one", written("c").wipe(), 1);
        DoodleAlbums x = written("c".repeat(80));
        due("wipe(), full", x.wipe(), 80);
        due("count(7)", x.count(7), 0);
        due("fault(), of an empty pad", x.fault(), 0);
        due("put behind it", x.put('c'), 1);
        due("fault(), nothing is left", x.fault(), NONE);
    }

    private static void texts() {
        sentence("Texts: a row of orders, of at most 80 characters");
        String most = "c;".repeat(39) + "r9";
        due("fault of " + most, faultOf(most), NONE);
        due("carryOut() of 40 orders", written(most).carryOut(), 40);

        sentence("Texts: the features that can be drawn (those that the seat has, if they are left out)");
        DoodleAlbums x = written("+7=0;+7;+0");
        due("carryOut()", x.carryOut(), 3);
        due("seat(7, 1)", x.seat(7, 1), 0);
        due("seat(0, 1)", x.seat(0, 1), ALL);

        sentence("Texts: round(), as often as the digit tells (once, if it is left out)");
        for (int times = 1; times <= 9; times++) {
            DoodleAlbums y = written("r" + times);
            due("carryOut() of r" + times, y.carryOut(), 1);
            due("count(5) of r" + times, y.count(5), times);
        }
        DoodleAlbums once = written("r;r");
        due("carryOut() of r;r", once.carryOut(), 2);
        due("count(5)", once.count(5), 2);

        sentence("Texts: A digit is 0 to 7 for a seat");
        for (char order : new char[] {'+', '-', 'b'}) {
            String end = order == 'b' ? "=0" : "";
            due("fault of " + order + "0", faultOf(order + "0" + end), NONE);
            due("fault of " + order + "7", faultOf(order + "7" + end), NONE);
            due("fault of " + order + "8", faultOf(order + "8" + end), 1);
            due("fault of " + order + "9", faultOf(order + "9" + end), 1);
            due("fault of " + order + "/", faultOf(order + "/" + end), 1);
            due("fault of " + order + ":", faultOf(order + ":" + end), 1);
            due("fault of " + order + "00", faultOf(order + "00" + end), 2);
        }

        sentence("Texts: 1 to 9 for rounds");
        due("fault of r1", faultOf("r1"), NONE);
        due("fault of r9", faultOf("r9"), NONE);
        due("fault of r0", faultOf("r0"), 1);
        due("fault of r:", faultOf("r:"), 1);
        due("fault of r10", faultOf("r10"), 2);

        sentence("Texts: a number is 0 to 9999");
        for (String order : new String[] {"+3=", "b3=", "t", "t0="}) {
            String end = order.equals("t") ? "=0" : "";
            for (String good : new String[] {"0", "1", "9", "10", "99", "100", "999", "1000", "9999"}) {
                due("fault of " + order + good + end, faultOf(order + good + end), NONE);
            }
            due("fault of " + order + "10000" + end, faultOf(order + "10000" + end), order.length() + 4);
            due("fault of " + order + "99990" + end, faultOf(order + "99990" + end), order.length() + 4);
            due("fault of " + order + "100000" + end, faultOf(order + "100000" + end), order.length() + 4);
        }

        sentence("Texts: without leading zeros");
        for (String order : new String[] {"+3=", "b3=", "t", "t0="}) {
            String end = order.equals("t") ? "=0" : "";
            due("fault of " + order + "00" + end, faultOf(order + "00" + end), order.length() + 1);
            due("fault of " + order + "01" + end, faultOf(order + "01" + end), order.length() + 1);
            due("fault of " + order + "0999" + end, faultOf(order + "0999" + end), order.length() + 1);
        }
    }

    /** Behind each beginning, each character that can be put is tried: those of the second text can stand there. */
    private static void faultPlaces() {
        String digits = "0123456789";
        String[][] places = {
            {"", "+-brtc"}, {"c;", "+-brtc"}, {"r;", "+-brtc"}, {"r9;", "+-brtc"}, {"+0;", "+-brtc"}, {"t0=0;", "+-brtc"},
            {"c", ";"}, {"r", "123456789;"}, {"r1", ";"}, {"r9", ";"},
            {"+", "01234567"}, {"+0", "=;"}, {"+7", "=;"}, {"+0=", digits}, {"+0=0", ";"}, {"+0=1", digits + ";"},
            {"+0=12", digits + ";"}, {"+0=409", digits + ";"}, {"+0=9999", ";"}, {"+0=1000", ";"},
            {"-", "01234567"}, {"-0", ";"}, {"-7", ";"},
            {"b", "01234567"}, {"b0", "="}, {"b7", "="}, {"b0=", digits}, {"b0=0", ";"}, {"b0=1", digits + ";"},
            {"b0=999", digits + ";"}, {"b0=9999", ";"},
            {"t", digits}, {"t0", "="}, {"t1", digits + "="}, {"t999", digits + "="}, {"t9999", "="}, {"t0=", digits},
            {"t9999=", digits}, {"t0=0", ";"}, {"t0=9", digits + ";"}, {"t0=999", digits + ";"}, {"t0=9999", ";"}};
        sentence("Texts: the first character that cannot stand at its place");
        for (String[] place : places) {
            for (char sign = 33; sign <= 126; sign++) {
                String text = place[0] + sign;
                int fault = faultOf(text);
                if (place[1].indexOf(sign) < 0) {
                    due("fault of " + text, fault, place[0].length());
                } else {
                    due("fault of " + text + " is behind it", fault == NONE || fault == text.length() ? 1 : 0, 1);
                }
            }
        }
    }

    private static void faultEnds() {
        sentence("20: NONE if there is none");
        for (String text : new String[] {"c", "r", "r1", "+0", "-0", "b0=0", "t0=0", "+0=0", "c;c", "r;r;r"}) {
            due("fault of " + text, faultOf(text), NONE);
        }

        sentence("Texts: the text ends too early (also if it is empty)");
        String[] early = {"", "+", "-", "b", "b0", "b0=", "t", "t0", "t9999", "t0=", "+0=", "c;", "r;", "r1;", "+0=0;",
            "c;+", "c;b7="};
        for (String text : early) due("fault of " + text, faultOf(text), text.length());
        due("fault of 80 characters with ; at the end", faultOf("c;".repeat(40)), 80);
        due("fault of 80 characters, ; behind b7=", faultOf("c;".repeat(38) + "b7=;"), 79);
        due("fault of 80 characters, t0= at the end", faultOf("c;".repeat(38) + "t12="), 80);

        sentence("Texts: The fault is the index -- the first and the last one of 80");
        due("fault of ;...", faultOf(";c".repeat(40)), 0);
        due("fault of ...x", faultOf("c;".repeat(39) + "cx"), 79);
        due("fault of ...;;c", faultOf("c;".repeat(39) + ";c"), 78);
        due("fault of two faults", faultOf("c;x;x"), 2);
    }

    private static void carryOut() {
        sentence("21: BAD_TEXT if the pad has a fault (then it stays)");
        due("carryOut(), empty", fresh().carryOut(), BAD_TEXT);
        DoodleAlbums x = written("+0;+1;");
        due("carryOut(), ends too early", x.carryOut(), BAD_TEXT);
        due("count(7)", x.count(7), 6);
        due("count(0), nothing was carried out", x.count(0), 0);
        due("count(8)", x.count(8), 0);
        write(x, "+2");
        due("carryOut(), the pad goes on", x.carryOut(), 3);
        due("count(0)", x.count(0), 7);
        DoodleAlbums late = written("c;".repeat(39) + "cx");
        due("carryOut(), a fault in the last of 80", late.carryOut(), BAD_TEXT);
        due("count(7)", late.count(7), 80);

        sentence("21: and empties the pad");
        DoodleAlbums y = written("+0");
        due("carryOut()", y.carryOut(), 1);
        due("count(7)", y.count(7), 0);
        due("carryOut() again", y.carryOut(), BAD_TEXT);
        write(y, "-1;+2");
        due("carryOut(), the first one is an error", y.carryOut(), 0);
        due("count(7), emptied all the same", y.count(7), 0);

        sentence("21: up to the first one that returns an error");
        DoodleAlbums z = written("+0;+1;-2;+3;-4");
        due("carryOut()", z.carryOut(), 2);
        due("count(0), what stands ahead of it stays", z.count(0), 3);

        sentence("21: This is a change (one, with all of them; also if none is carried out)");
        DoodleAlbums one = written("+0;+1;+2");
        one.carryOut();
        due("count(8), three orders", one.count(8), 1);
        write(one, "-7");
        due("carryOut(), none", one.carryOut(), 0);
        due("count(8), no order", one.count(8), 2);
        due("undo()", one.undo(), 1);
        due("count(0)", one.count(0), 7);
        due("undo()", one.undo(), 0);
        due("count(0), all of them undone", one.count(0), 0);
    }

    private static int carriedOut(String text) {
        return written(text).carryOut();
    }

    private static void carryOutErrors() {
        sentence("21: the first one that returns an error -- the ranges of the orders' methods");
        due("features 4095", carriedOut("+0=4095;c"), 2);
        due("features 4096", carriedOut("+0=4096;c"), 0);
        due("features 9999", carriedOut("+0=9999;c"), 0);
        due("word 15", carriedOut("+0;b0=15;c"), 3);
        due("word 16", carriedOut("+0;b0=16;c"), 1);
        due("album 0", carriedOut("+0;b0=1;t0=0;c"), 4);
        due("album 1", carriedOut("+0;b0=1;t1=0;c"), 2);
        due("album 9999", carriedOut("+0;b0=1;t9999=0;c"), 2);
        due("drawing 4095", carriedOut("+0;b0=1;t0=4095;c"), 4);
        due("drawing 4096", carriedOut("+0;b0=1;t0=4096;c"), 2);
        due("told word 15", carriedOut("+0;+1;b0=1;r;t0=15;c"), 6);
        due("told word 16", carriedOut("+0;+1;b0=1;r;t0=16;c"), 4);
        due("a home album", carriedOut("+0;b0=1;r;t0=1;c"), 3);
        due("leave where nobody sits", carriedOut("+0;-0;-0;c"), 2);
        due("begin where nobody sits", carriedOut("b0=1;c"), 0);
        due("begin while one goes round", carriedOut("+0;b0=1;b0=1;c"), 2);
        due("rounds and clear without albums", carriedOut("r;r9;c"), 3);

        sentence("21: the first one that returns an error -- the 13th album");
        DoodleAlbums x = homeAlbums(10);
        write(x, "b4=1;r;b4=1;r;b4=1;r");
        due("carryOut()", x.carryOut(), 4);
        due("count(1)", x.count(1), 12);
    }

    // ---- promises 22 to 24: undo, saving

    private static void undo() {
        sentence("22: NOT_POSSIBLE if there is none");
        due("undo()", fresh().undo(), NOT_POSSIBLE);
        DoodleAlbums one = fresh();
        one.round();
        due("undo()", one.undo(), 0);
        due("undo() again", one.undo(), NOT_POSSIBLE);

        sentence("22: Returns how many changes can be undone then");
        DoodleAlbums x = fresh();
        for (int features = 1; features <= 7; features++) x.teach(0, features);
        for (int left = 5; left >= 0; left--) due("undo()", x.undo(), left);
        due("undo()", x.undo(), NOT_POSSIBLE);

        sentence("22: A history of at most 6 states; when one more is recorded, the oldest one is dropped");
        due("word(0), the first change stays", x.word(0), 1);
        DoodleAlbums six = fresh();
        for (int features = 1; features <= 6; features++) six.teach(0, features);
        for (int left = 5; left >= 0; left--) six.undo();
        due("word(0), all six are undone", six.word(0), 5);

        sentence("22: the oldest one is dropped -- at each turn of the history");
        for (int changes = 1; changes <= 30; changes++) {
            DoodleAlbums y = fresh();
            for (int features = 1; features <= changes; features++) y.teach(0, features);
            int kept = Math.min(changes, 6);
            for (int undone = 1; undone <= kept; undone++) {
                due("undo() " + undone + " behind " + changes, y.undo(), kept - undone);
                due("word(0)", y.word(0), changes == undone ? 5 : changes - undone);
            }
            due("undo() behind " + changes, y.undo(), NOT_POSSIBLE);
            y.teach(0, 99);
            due("count(8), a change behind them", y.count(8), 1);
        }

        sentence("22: everything is as it was before it");
        DoodleAlbums home = begun(0, 1, 2);
        home.tell(0, 8);
        home.round();
        home.tell(0, 3);
        home.round();
        home.teach(3, ALL);
        home.round();
        for (int undone = 0; undone < 5; undone++) home.undo();
        pointsDue(home, 0, 0, 0);
        due("of(0, 1)", home.of(0, 1), 1);
        due("of(0, 6)", home.of(0, 6), 8);
        due("word(3)", home.word(3), 8);
        due("count(5)", home.count(5), 0);
        rounds(home, 3);
        pointsDue(home, 2, 1, 1);
        home.undo();
        pointsDue(home, 0, 1, 1);
        due("of(0, 3)", home.of(0, 3), 0);
        due("page(0, 1, 2)", home.page(0, 1, 2), 1);
        due("page(0, 2, 2)", home.page(0, 2, 2), 0);

        sentence("22: everything except the pad, the slots and the history");
        DoodleAlbums kept = written("c;");
        kept.sit(0, 0);
        kept.begin(0, 1);
        kept.save(1);
        write(kept, "c");
        due("undo()", kept.undo(), 1);
        due("count(7), the pad stays", kept.count(7), 3);
        due("fault(), the pad stays", kept.fault(), NONE);
        due("restore(1), the slot stays", kept.restore(1), 1);
        due("undo() of restore", kept.undo(), 1);
        due("undo() of sit", kept.undo(), 0);
        due("seat(0, 1)", kept.seat(0, 1), ALL);
        due("restore(1), the slot stays", kept.restore(1), 1);
        due("restore(0), the other slot too", kept.restore(0), NOT_POSSIBLE);
    }

    private static void changesDue(DoodleAlbums x, String call, int answer, int changes) {
        due(call + " is an error", answer < 0 && answer != NONE ? 1 : 0, 0);
        due("count(8) behind " + call, x.count(8), changes);
    }

    private static void undoRecords() {
        sentence("22: each method that is a change records the state before it");
        DoodleAlbums x = fresh();
        changesDue(x, "teach", x.teach(0, 1), 1);
        changesDue(x, "sit", x.sit(0, 1), 2);
        changesDue(x, "begin", x.begin(0, 1), 3);
        changesDue(x, "tell", x.tell(0, 1), 4);
        changesDue(x, "leave", x.leave(0), 5);
        changesDue(x, "round", x.round(), 6);
        DoodleAlbums y = written("c");
        changesDue(y, "clear", y.clear(), 1);
        changesDue(y, "carryOut", y.carryOut(), 2);
        y.save(0);
        changesDue(y, "restore", y.restore(0), 3);

        sentence("22: (also if nothing is different then)");
        DoodleAlbums same = fresh();
        changesDue(same, "teach of the same", same.teach(0, 5), 1);
        changesDue(same, "clear of nothing", same.clear(), 2);
        same.save(0);
        changesDue(same, "restore of the same", same.restore(0), 3);
        changesDue(same, "sit", same.sit(0, ALL), 4);
        changesDue(same, "sit again", same.sit(0, NONE), 5);

        sentence("22: each method that is a change -- and no other one");
        DoodleAlbums none = fresh();
        none.sit(0, 0);
        changesDue(none, "save", none.save(0), 1);
        changesDue(none, "put", none.put('c'), 1);
        changesDue(none, "fault", none.fault(), 1);
        changesDue(none, "wipe", none.wipe(), 1);
        changesDue(none, "word", none.word(0), 1);
        changesDue(none, "guess", none.guess(0), 1);
        changesDue(none, "bestWord", none.bestWord(0, 0), 1);
        changesDue(none, "pointsThen", none.pointsThen(0), 1);
        changesDue(none, "undo", none.undo(), 0);

        sentence("22: and returns no error");
        DoodleAlbums errors = fresh();
        due("teach(16, 0)", errors.teach(16, 0), NO_SUCH);
        due("sit(0, 4096)", errors.sit(0, 4096), BAD_VALUE);
        due("leave(0)", errors.leave(0), NOT_POSSIBLE);
        due("begin(0, 0)", errors.begin(0, 0), NOT_POSSIBLE);
        due("tell(0, 0)", errors.tell(0, 0), NO_SUCH);
        due("carryOut()", errors.carryOut(), BAD_TEXT);
        due("restore(0)", errors.restore(0), NOT_POSSIBLE);
        due("undo()", errors.undo(), NOT_POSSIBLE);
        due("count(8)", errors.count(8), 0);

        sentence("22: and returns no error -- also with six states, at each turn of the history");
        for (int changes = 6; changes <= 20; changes++) {
            DoodleAlbums full = fresh();
            for (int features = 1; features <= changes; features++) full.teach(0, features);
            refused("leave", full::leave, NOT_POSSIBLE, 0, 7);
            due("teach(0, 4096)", full.teach(0, 4096), BAD_VALUE);
            due("sit(8, 0)", full.sit(8, 0), NO_SUCH);
            due("begin(0, 0)", full.begin(0, 0), NOT_POSSIBLE);
            due("tell(0, 0)", full.tell(0, 0), NO_SUCH);
            due("carryOut()", full.carryOut(), BAD_TEXT);
            due("restore(0)", full.restore(0), NOT_POSSIBLE);
            for (int undone = 1; undone <= 6; undone++) {
                due("undo() " + undone + " of " + changes, full.undo(), 6 - undone);
                due("word(0)", full.word(0), changes == undone ? 5 : changes - undone);
            }
            due("undo()", full.undo(), NOT_POSSIBLE);
        }

        sentence("22: An order of a text records nothing by itself");
        DoodleAlbums text = written("+0;+1;b0=1;t0=1;r;-1;r;c;+7");
        due("carryOut()", text.carryOut(), 9);
        due("count(8)", text.count(8), 1);
        due("undo()", text.undo(), 0);
        due("count(0)", text.count(0), 0);
        due("count(5)", text.count(5), 0);
    }

    private static void save() {
        sentence("23: slot: 0 or 1");
        range("save", slot -> fresh().save(slot), 0, 1, BAD_VALUE);

        sentence("23: Returns how many albums there are");
        due("save(0), none", fresh().save(0), 0);
        due("save(1), 12", homeAlbums(12).save(1), 12);

        sentence("23: and overwrites what was saved there");
        DoodleAlbums x = plain(0);
        x.save(0);
        x.begin(0, 3);
        x.save(0);
        x.round();
        x.clear();
        due("restore(0)", x.restore(0), 1);
        due("of(0, 3)", x.of(0, 3), 0);

        sentence("23: in a slot -- and not in the other one");
        DoodleAlbums two = plain(0);
        two.save(1);
        due("restore(0)", two.restore(0), NOT_POSSIBLE);
        two.begin(0, 3);
        two.save(0);
        due("restore(1)", two.restore(1), 0);
        due("restore(0)", two.restore(0), 1);

        sentence("23: everything except the pad, the history and the slots");
        DoodleAlbums y = written("c;c");
        y.teach(0, 1);
        y.save(0);
        y.wipe();
        y.teach(0, 2);
        due("restore(0)", y.restore(0), 0);
        due("count(7), the pad was not saved", y.count(7), 0);
        due("count(8), the history was not saved", y.count(8), 3);
        due("word(0)", y.word(0), 1);
    }

    private static void restore() {
        sentence("24: slot: 0 or 1");
        refused("restore", slot -> fresh().restore(slot), BAD_VALUE, -1, 2, LEAST, MOST, NONE);
        DoodleAlbums saved = fresh();
        saved.save(0);
        saved.save(1);
        range("restore, both are saved", slot -> saved.restore(slot), 0, 1, BAD_VALUE);

        sentence("24: NOT_POSSIBLE if nothing was saved in it");
        due("restore(0)", fresh().restore(0), NOT_POSSIBLE);
        due("restore(1)", fresh().restore(1), NOT_POSSIBLE);

        sentence("24: Returns how many albums there are then");
        DoodleAlbums full = homeAlbums(12);
        full.save(0);
        full.clear();
        full.save(1);
        due("restore(0)", full.restore(0), 12);
        due("of(11, 0)", full.of(11, 0), 4);
        due("restore(1)", full.restore(1), 0);
        due("of(0, 0)", full.of(0, 0), NO_SUCH);

        sentence("24: which keeps it");
        DoodleAlbums x = begun(0, 1);
        x.save(0);
        for (int time = 0; time < 8; time++) {
            due("restore(0)", x.restore(0), 1);
            due("of(0, 1)", x.of(0, 1), 1);
            due("round()", x.round(), 1);
            due("of(0, 1)", x.of(0, 1), 2);
        }

        sentence("24: what was saved last");
        DoodleAlbums last = fresh();
        for (int features = 1; features <= 9; features++) {
            last.teach(0, features);
            due("save(1)", last.save(1), 0);
        }
        last.teach(0, 77);
        last.restore(1);
        due("word(0)", last.word(0), 9);

        sentence("24: This is a change");
        due("undo()", last.undo(), 5);
        due("word(0)", last.word(0), 77);
    }

    // ---- the end

    private static void lastCall() {
        sentence("What it is: An object is used for at most 512 calls");
        DoodleAlbums x = fresh();
        for (int call = 1; call <= 509; call++) x.round();
        due("count(5), the 510th call", x.count(5), 509);
        due("undo(), the 511th call", x.undo(), 5);
        due("count(5), the 512th call", x.count(5), 508);
    }
}
