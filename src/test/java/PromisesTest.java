// Each promise of the document by itself: ordinary inputs, the edges that it names, and wrong inputs.
public final class PromisesTest {
    private static final int NO_SUCH = -1, BAD_VALUE = -2, BAD_TEXT = -3, TOO_MANY = -4, NOT_POSSIBLE = -5, NONE = -6;
    private static final int ALL = 4095;

    private static int promise = 0;
    private static int wrong = 0;

    public static void main(String[] args) {
        constants();
        promise = 1; newObject();
        promise = 2; teach();
        promise = 3; sit();
        promise = 4; leave();
        promise = 5; begin();
        promise = 6; tell();
        promise = 7; roundPages(); roundGuesses(); roundSeats(); roundEnds(); roundPoints(); roundTold();
        promise = 8; clear();
        promise = 9; of();
        promise = 10; page();
        promise = 11; seat();
        promise = 12; word();
        promise = 13; count();
        promise = 14; guess();
        promise = 15; foretold();
        promise = 16; bestWord(); bestWordPlayed();
        promise = 17; pointsThen();
        promise = 18; put();
        promise = 19; wipe();
        promise = 20; fault();
        promise = 21; carryOut(); carryOutErrors();
        promise = 22; undo(); undoEach(); undoHistory();
        promise = 23; save();
        promise = 24; restore();
        System.out.println(wrong == 0 ? "all promises hold" : wrong + " answers are not as due");
        if (wrong != 0) System.exit(1);
    }

    private static void due(String call, long got, long want) {
        if (got != want) {
            wrong++;
            System.out.println("promise " + promise + ": " + call + " answered " + got + ", due is " + want);
        }
    }

    // ---- what the tests begin with

    /** Words 0 to 11 have one feature each, 12 has none, 13 all, 14 and 15 the two lowest ones. */
    private static DoodleAlbums plain(int... seats) {
        DoodleAlbums x = new DoodleAlbums();
        for (int word = 0; word < 12; word++) x.teach(word, 1 << word);
        x.teach(12, 0);
        x.teach(13, ALL);
        x.teach(14, 3);
        x.teach(15, 3);
        for (int seat : seats) x.sit(seat, ALL);
        return x;
    }

    private static void rounds(DoodleAlbums x, int times) {
        for (int round = 0; round < times; round++) x.round();
    }

    private static long number(String text) {
        long number = 0;
        for (char sign : text.toCharArray()) number = number << 8 | sign;
        return number;
    }

    private static int write(DoodleAlbums x, String text) {
        int length = x.count(7);
        for (int from = 0; from < text.length(); from += 8) {
            length = x.put(number(text.substring(from, Math.min(from + 8, text.length()))));
        }
        return length;
    }

    private static int faultOf(String text) {
        DoodleAlbums x = new DoodleAlbums();
        write(x, text);
        return x.fault();
    }

    /** How many orders of a text are carried out at a table where nobody sits. */
    private static int carriedOut(String text) {
        DoodleAlbums x = new DoodleAlbums();
        write(x, text);
        return x.carryOut();
    }

    private static void pageDue(DoodleAlbums x, int album, int page, int seat, int mark, int told) {
        String name = "page(" + album + ", " + page + ", ";
        due(name + "0)", x.page(album, page, 0), seat);
        due(name + "1)", x.page(album, page, 1), mark);
        due(name + "2)", x.page(album, page, 2), told);
    }

    private static void pointsDue(DoodleAlbums x, int... points) {
        for (int seat = 0; seat < points.length; seat++) due("seat(" + seat + ", 2)", x.seat(seat, 2), points[seat]);
    }

    // ---- the promises

    private static void constants() {
        due("NO_SUCH", DoodleAlbums.NO_SUCH, NO_SUCH);
        due("BAD_VALUE", DoodleAlbums.BAD_VALUE, BAD_VALUE);
        due("BAD_TEXT", DoodleAlbums.BAD_TEXT, BAD_TEXT);
        due("TOO_MANY", DoodleAlbums.TOO_MANY, TOO_MANY);
        due("NOT_POSSIBLE", DoodleAlbums.NOT_POSSIBLE, NOT_POSSIBLE);
        due("NONE", DoodleAlbums.NONE, NONE);
    }

    private static void newObject() {
        DoodleAlbums x = new DoodleAlbums();
        int[] features = {5, 155, 379, 677, 1049, 1495, 2015, 2609, 3277, 4019, 739, 1629, 2593, 3631, 647, 1833};
        for (int word = 0; word < 16; word++) due("word(" + word + ")", x.word(word), features[word]);
        for (int seat = 0; seat < 8; seat++) {
            due("seat 0", x.seat(seat, 0), 0);
            due("seat 1", x.seat(seat, 1), ALL);
            due("seat 2", x.seat(seat, 2), 0);
            due("seat 3", x.seat(seat, 3), NONE);
            due("seat 4", x.seat(seat, 4), 0);
        }
        for (int what = 0; what < 9; what++) due("count(" + what + ")", x.count(what), 0);
        due("of(0, 0)", x.of(0, 0), NO_SUCH);
        due("undo()", x.undo(), NOT_POSSIBLE);
        due("restore(0)", x.restore(0), NOT_POSSIBLE);
        due("fault()", x.fault(), 0);
        new DoodleAlbums().sit(0, 0);
        due("another object's player", x.count(0), 0);
    }

    private static void teach() {
        DoodleAlbums x = new DoodleAlbums();
        due("teach(5, 0)", x.teach(5, 0), 1495);
        due("teach(5, 4095)", x.teach(5, ALL), 0);
        due("teach(5, 4095)", x.teach(5, ALL), ALL);
        due("teach(0, 1)", x.teach(0, 1), 5);
        due("teach(15, 2)", x.teach(15, 2), 1833);
        due("word(4)", x.word(4), 1049);
        due("changes", x.count(8), 5);
        due("teach(-1, 0)", x.teach(-1, 0), NO_SUCH);
        due("teach(16, 0)", x.teach(16, 0), NO_SUCH);
        due("teach(16, -1)", x.teach(16, -1), NO_SUCH);
        due("teach(1, -1)", x.teach(1, -1), BAD_VALUE);
        due("teach(1, 4096)", x.teach(1, 4096), BAD_VALUE);
        due("teach(1, NONE)", x.teach(1, NONE), BAD_VALUE);
        due("word(1)", x.word(1), 155);
        due("changes", x.count(8), 5);

        DoodleAlbums y = plain(0, 1, 2);
        y.begin(0, 3);
        y.round();
        y.teach(3, ALL);
        pageDue(y, 0, 1, 1, 8, 0);
        pageDue(y, 0, 0, 0, 3, 0);
    }

    private static void sit() {
        DoodleAlbums x = new DoodleAlbums();
        due("sit(3, 7)", x.sit(3, 7), 1);
        due("sit(7, NONE)", x.sit(7, NONE), 2);
        due("sit(0, 0)", x.sit(0, 0), 3);
        due("seat(0, 1)", x.seat(0, 1), 0);
        due("seat(7, 1)", x.seat(7, 1), ALL);
        due("sit(3, 4095) again", x.sit(3, ALL), 3);
        due("seat(3, 1)", x.seat(3, 1), ALL);
        due("sit(3, 9) again", x.sit(3, 9), 3);
        due("sit(3, NONE) again", x.sit(3, NONE), 3);
        due("seat(3, 1)", x.seat(3, 1), 9);
        due("count(0)", x.count(0), 0b10001001);
        due("sit(-1, 0)", x.sit(-1, 0), NO_SUCH);
        due("sit(8, 4096)", x.sit(8, 4096), NO_SUCH);
        due("sit(1, 4096)", x.sit(1, 4096), BAD_VALUE);
        due("sit(1, -1)", x.sit(1, -1), BAD_VALUE);
        due("sit(1, -5)", x.sit(1, -5), BAD_VALUE);
        due("sit(1, -7)", x.sit(1, -7), BAD_VALUE);
        due("count(0)", x.count(0), 0b10001001);
        due("changes", x.count(8), 6);
        for (int seat = 0; seat < 8; seat++) x.sit(seat, NONE);
        due("sit(4, 1)", x.sit(4, 1), 8);
    }

    private static void leave() {
        DoodleAlbums x = new DoodleAlbums();
        x.sit(2, 77);
        x.sit(7, 5);
        due("leave(3)", x.leave(3), NOT_POSSIBLE);
        due("leave(-1)", x.leave(-1), NO_SUCH);
        due("leave(8)", x.leave(8), NO_SUCH);
        due("changes", x.count(8), 2);
        due("leave(2)", x.leave(2), 1);
        due("leave(2) again", x.leave(2), NOT_POSSIBLE);
        due("seat(2, 0)", x.seat(2, 0), 0);
        due("seat(2, 1)", x.seat(2, 1), 77);
        due("leave(7)", x.leave(7), 0);
        due("changes", x.count(8), 4);
        due("sit(2, NONE)", x.sit(2, NONE), 1);
        due("seat(2, 1)", x.seat(2, 1), 77);

        DoodleAlbums y = plain(0, 1, 2);
        y.begin(0, 3);
        rounds(y, 3);
        y.leave(0);
        pointsDue(y, 2, 1, 1);
    }

    private static void begin() {
        DoodleAlbums x = plain(0, 7);
        due("begin(0, 15)", x.begin(0, 15), 0);
        due("begin(0, 0), one goes round", x.begin(0, 0), NOT_POSSIBLE);
        due("begin(7, 0)", x.begin(7, 0), 1);
        due("begin(3, 0), nobody sits there", x.begin(3, 0), NOT_POSSIBLE);
        due("begin(-1, 0)", x.begin(-1, 0), NO_SUCH);
        due("begin(8, 0)", x.begin(8, 0), NO_SUCH);
        due("begin(0, -1)", x.begin(0, -1), NO_SUCH);
        due("begin(0, 16)", x.begin(0, 16), NO_SUCH);
        due("count(1)", x.count(1), 2);
        pageDue(x, 0, 0, 0, 15, 0);
        due("of(0, 1)", x.of(0, 1), 1);
        due("of(0, 3)", x.of(0, 3), 0);
        due("of(0, 6)", x.of(0, 6), NONE);
        due("of(1, 0)", x.of(1, 0), 7);
        rounds(x, 2);
        due("begin(0, 0) behind one that is home", x.begin(0, 0), 2);

        DoodleAlbums y = plain(4);
        for (int album = 0; album < 12; album++) {
            due("begin(4, 3)", y.begin(4, 3), album);
            y.round();
        }
        due("changes", y.count(8), 6);
        due("begin(4, 3), the 13th", y.begin(4, 3), TOO_MANY);
        due("begin(3, 3), the 13th", y.begin(3, 3), TOO_MANY);
        due("begin(4, 16), the 13th", y.begin(4, 16), NO_SUCH);
        due("count(1)", y.count(1), 12);

        DoodleAlbums z = plain(5, 6);
        z.begin(5, 1);
        z.leave(5);
        z.sit(5, NONE);
        due("begin(5, 1), come back", z.begin(5, 1), NOT_POSSIBLE);

        DoodleAlbums used = plain(0, 1, 2);
        used.begin(0, 1);
        used.tell(0, 5);
        rounds(used, 2);
        used.tell(0, 5);
        used.round();
        used.clear();
        due("count(1), cleared", used.count(1), 0);
        due("begin(0, 2) where one was", used.begin(0, 2), 0);
        due("of(0, 6)", used.of(0, 6), NONE);
        due("of(0, 1)", used.of(0, 1), 1);
        used.round();
        pageDue(used, 0, 1, 1, 4, 0);
    }

    private static void tell() {
        DoodleAlbums x = plain(0, 1, 2);
        x.begin(0, 3);
        due("tell(0, 4095)", x.tell(0, ALL), 0);
        due("of(0, 6)", x.of(0, 6), ALL);
        due("tell(0, 0)", x.tell(0, 0), 1);
        due("of(0, 6)", x.of(0, 6), 0);
        due("tell(0, 4096)", x.tell(0, 4096), BAD_VALUE);
        due("tell(0, -1)", x.tell(0, -1), BAD_VALUE);
        due("tell(0, NONE)", x.tell(0, NONE), BAD_VALUE);
        due("tell(-1, 0)", x.tell(-1, 0), NO_SUCH);
        due("tell(1, 4096)", x.tell(1, 4096), NO_SUCH);
        due("of(0, 6)", x.of(0, 6), 0);
        x.round();
        due("of(0, 6)", x.of(0, 6), NONE);
        due("tell(0, 16)", x.tell(0, 16), BAD_VALUE);
        due("tell(0, 15)", x.tell(0, 15), 0);
        due("tell(0, 0)", x.tell(0, 0), 1);
        x.round();
        pageDue(x, 0, 2, 2, 0, 1);
        due("tell(0, 4095)", x.tell(0, ALL), 0);
        x.round();
        due("of(0, 3)", x.of(0, 3), 1);
        due("tell(0, 0), home", x.tell(0, 0), NOT_POSSIBLE);
        due("tell(0, 4096), home", x.tell(0, 4096), BAD_VALUE);
        due("of(0, 6), stays told", x.of(0, 6), ALL);

        DoodleAlbums y = plain(0, 1);
        y.begin(0, 3);
        y.leave(0);
        rounds(y, 2);
        due("of(0, 3)", y.of(0, 3), 2);
        due("tell(0, 15), stranded behind a drawing", y.tell(0, 15), NOT_POSSIBLE);
        due("tell(0, 16), stranded behind a drawing", y.tell(0, 16), BAD_VALUE);
        due("of(0, 6)", y.of(0, 6), NONE);
    }

    private static void roundPages() {
        DoodleAlbums x = plain(0, 3, 6);
        x.sit(3, 1);
        due("round() without albums", x.round(), 0);
        x.begin(0, 14);
        due("round()", x.round(), 1);
        pageDue(x, 0, 1, 3, 1, 0);
        due("of(0, 2)", x.of(0, 2), 3);
        due("round()", x.round(), 1);
        pageDue(x, 0, 2, 6, 0, 0);
        due("of(0, 2)", x.of(0, 2), 6);
        due("round()", x.round(), 0);
        due("of(0, 1)", x.of(0, 1), 3);
        due("of(0, 2), home", x.of(0, 2), 6);
        due("of(0, 3)", x.of(0, 3), 1);
        due("round() behind the end", x.round(), 0);
        due("of(0, 1)", x.of(0, 1), 3);
        due("count(5)", x.count(5), 5);
        pointsDue(x, 0, 0, 0, 0, 0, 0, 0, 0);
    }

    private static void roundGuesses() {
        DoodleAlbums x = plain(0, 1, 2);
        x.begin(0, 15);
        rounds(x, 2);
        pageDue(x, 0, 1, 1, 3, 0);
        pageDue(x, 0, 2, 2, 14, 0);

        DoodleAlbums y = plain(0, 1, 2);
        y.begin(0, 3);
        y.tell(0, 5);
        rounds(y, 2);
        pageDue(y, 0, 1, 1, 5, 1);
        pageDue(y, 0, 2, 2, 0, 0);

        DoodleAlbums z = plain(0, 1, 2);
        z.begin(0, 3);
        z.round();
        z.teach(3, 0);
        z.teach(9, 8);
        z.round();
        pageDue(z, 0, 2, 2, 9, 0);
    }

    private static void roundSeats() {
        DoodleAlbums x = plain(0, 6, 1, 4);
        x.begin(6, 2);
        x.begin(1, 2);
        rounds(x, 3);
        int[] first = {6, 0, 1, 4};
        int[] second = {1, 4, 6, 0};
        for (int page = 0; page < 4; page++) {
            due("page(0, " + page + ", 0)", x.page(0, page, 0), first[page]);
            due("page(1, " + page + ", 0)", x.page(1, page, 0), second[page]);
        }

        DoodleAlbums y = plain(2, 3, 4);
        y.begin(2, 1);
        y.round();
        y.leave(2);
        y.leave(3);
        y.sit(1, ALL);
        y.round();
        y.sit(3, ALL);
        y.sit(2, ALL);
        y.round();
        y.round();
        int[] seats = {2, 3, 4, 1};
        due("of(0, 1)", y.of(0, 1), 4);
        for (int page = 0; page < 4; page++) due("page(0, " + page + ", 0)", y.page(0, page, 0), seats[page]);
        due("of(0, 3)", y.of(0, 3), 1);

        DoodleAlbums full = plain(0, 1, 2, 3, 4, 5, 6, 7);
        full.begin(5, 1);
        for (int round = 0; round < 7; round++) due("round() of eight", full.round(), 1);
        due("the eighth round()", full.round(), 0);
        due("of(0, 1)", full.of(0, 1), 8);
        due("of(0, 7)", full.of(0, 7), 255);
        pageDue(full, 0, 7, 4, 2, 0);
    }

    private static void roundEnds() {
        DoodleAlbums x = plain(0, 1);
        x.begin(0, 1);
        x.begin(1, 2);
        x.leave(1);
        due("round()", x.round(), 1);
        due("of(0, 3), nobody else sits, the owner does", x.of(0, 3), 1);
        due("of(1, 3)", x.of(1, 3), 0);
        due("round()", x.round(), 0);
        due("of(1, 3), the owner left", x.of(1, 3), 2);
        x.sit(1, ALL);
        x.round();
        due("of(1, 3), stranded for good", x.of(1, 3), 2);
        due("of(0, 3), home for good", x.of(0, 3), 1);

        DoodleAlbums y = plain(0);
        y.begin(0, 1);
        y.leave(0);
        y.round();
        due("of(0, 3), nobody sits", y.of(0, 3), 2);
    }

    private static void roundPoints() {
        DoodleAlbums x = plain(0, 3, 6);
        x.begin(0, 5);
        x.round();
        pointsDue(x, 0, 0, 0, 0, 0, 0, 0, 0);
        x.round();
        pointsDue(x, 0, 0, 0, 1, 0, 0, 1, 0);
        x.round();
        pointsDue(x, 2, 0, 0, 1, 0, 0, 1, 0);
        x.round();
        pointsDue(x, 2, 0, 0, 1, 0, 0, 1, 0);

        DoodleAlbums two = plain(0, 1);
        two.begin(0, 5);
        rounds(two, 2);
        due("of(0, 3), two pages", two.of(0, 3), 1);
        pointsDue(two, 0, 0);

        DoodleAlbums four = plain(0, 1, 2, 3);
        four.begin(0, 5);
        rounds(four, 4);
        due("of(0, 3), four pages", four.of(0, 3), 1);
        pointsDue(four, 2, 1, 1, 0);

        DoodleAlbums stranded = plain(0, 1, 2);
        stranded.begin(0, 5);
        rounds(stranded, 2);
        stranded.leave(0);
        stranded.round();
        due("of(0, 3)", stranded.of(0, 3), 2);
        pointsDue(stranded, 0, 1, 1);

        // the word is lost ahead of page 2, found again behind it: the word is not the first one
        DoodleAlbums lost = plain(0, 1, 2, 3, 4);
        lost.begin(0, 5);
        lost.tell(0, 1);
        rounds(lost, 5);
        pageDue(lost, 0, 2, 2, 0, 0);
        pageDue(lost, 0, 4, 4, 0, 0);
        due("of(0, 3)", lost.of(0, 3), 1);
        pointsDue(lost, 0, 0, 0, 1, 1);

        // the last word is the first one again, but not the one ahead of its drawing
        DoodleAlbums back = plain(0, 1, 2, 3, 4);
        back.begin(0, 5);
        back.tell(0, 1);
        rounds(back, 3);
        back.tell(0, 5);
        rounds(back, 2);
        pointsDue(back, 2, 0, 0, 0, 0);
        due("of(0, 5)", back.of(0, 5), 2);
    }

    private static void roundTold() {
        DoodleAlbums x = plain(0, 1, 2, 3);
        x.begin(0, 5);
        x.tell(0, 2048);
        x.round();
        pageDue(x, 0, 1, 1, 2048, 1);
        x.tell(0, 5);
        x.round();
        pageDue(x, 0, 2, 2, 5, 1);
        pointsDue(x, 0, 1, 1, 0);
        x.round();
        pageDue(x, 0, 3, 3, 32, 0);
        x.tell(0, 7);
        x.round();
        due("of(0, 6), stays told", x.of(0, 6), 7);
        due("of(0, 1)", x.of(0, 1), 4);
        pointsDue(x, 2, 1, 1, 0);

        DoodleAlbums zero = plain(0, 1);
        zero.begin(0, 5);
        zero.tell(0, 0);
        zero.round();
        pageDue(zero, 0, 1, 1, 0, 1);
    }

    private static void clear() {
        DoodleAlbums x = plain(0, 1, 2);
        due("clear() without albums", x.clear(), 0);
        x.begin(1, 1);
        x.leave(1);
        rounds(x, 2);
        x.begin(2, 7);
        x.round();
        x.leave(0);
        x.round();
        due("count(4)", x.count(4), 1);
        due("count(3)", x.count(3), 1);
        x.sit(0, ALL);
        x.sit(1, ALL);
        x.begin(1, 3);
        x.tell(2, 99);
        x.round();
        x.begin(0, 4);
        x.tell(3, 5);
        due("count(1)", x.count(1), 4);
        due("clear()", x.clear(), 2);
        due("count(1)", x.count(1), 2);
        due("count(2)", x.count(2), 2);
        due("of(0, 0)", x.of(0, 0), 1);
        due("of(0, 6)", x.of(0, 6), NONE);
        due("of(1, 0)", x.of(1, 0), 0);
        due("of(1, 6)", x.of(1, 6), 5);
        due("of(2, 0)", x.of(2, 0), NO_SUCH);
        pageDue(x, 0, 0, 1, 3, 0);
        pageDue(x, 0, 1, 2, 99, 1);
        due("seat(0, 3)", x.seat(0, 3), 1);
        due("changes", x.count(8), 6);
        due("clear() again", x.clear(), 0);
        due("begin(2, 0)", x.begin(2, 0), 2);
    }

    private static void of() {
        DoodleAlbums x = plain(0, 1, 2, 3, 4);
        x.begin(3, 14);
        x.tell(0, 4);
        int[] fresh = {3, 1, 3, 0, 14, 0, 4, 8, 0};
        for (int what = 0; what < 9; what++) due("of(0, " + what + ")", x.of(0, what), fresh[what]);
        rounds(x, 2);
        int[] guessed = {3, 3, 0, 0, 2, 1, NONE, 0b11001, 3};
        for (int what = 0; what < 9; what++) due("of(0, " + what + ")", x.of(0, what), guessed[what]);
        x.teach(2, 2);
        due("of(0, 8), taught", x.of(0, 8), 1);
        x.round();
        due("of(0, 4) behind a drawing", x.of(0, 4), 2);
        due("of(0, 5) behind a drawing", x.of(0, 5), 1);
        x.tell(0, 14);
        x.round();
        int[] full = {3, 5, 2, 0, 14, 2, NONE, 0b11111, 0};
        for (int what = 0; what < 9; what++) due("of(0, " + what + ")", x.of(0, what), full[what]);
        x.round();
        due("of(0, 3)", x.of(0, 3), 1);
        DoodleAlbums kept = plain(0, 1, 2);
        kept.begin(0, 5);
        rounds(kept, 2);
        due("of(0, 5), the word was kept", kept.of(0, 5), 0);
        due("of(0, -1)", x.of(0, -1), BAD_VALUE);
        due("of(0, 9)", x.of(0, 9), BAD_VALUE);
        due("of(-1, 9)", x.of(-1, 9), NO_SUCH);
        due("of(1, 0)", x.of(1, 0), NO_SUCH);
        due("of(12, 0)", x.of(12, 0), NO_SUCH);
    }

    private static void page() {
        DoodleAlbums x = plain(0, 1, 2);
        x.begin(1, 13);
        x.sit(2, 0b1010);
        x.round();
        x.tell(0, 6);
        x.round();
        pageDue(x, 0, 0, 1, 13, 0);
        pageDue(x, 0, 1, 2, 0b1010, 0);
        pageDue(x, 0, 2, 0, 6, 1);
        due("page(0, 3, 0)", x.page(0, 3, 0), NO_SUCH);
        due("page(0, -1, 0)", x.page(0, -1, 0), NO_SUCH);
        due("page(1, 0, 0)", x.page(1, 0, 0), NO_SUCH);
        due("page(-1, 0, 0)", x.page(-1, 0, 0), NO_SUCH);
        due("page(0, 3, 3)", x.page(0, 3, 3), NO_SUCH);
        due("page(0, 8, 0)", x.page(0, 8, 0), NO_SUCH);
        due("page(0, 0, 3)", x.page(0, 0, 3), BAD_VALUE);
        due("page(0, 0, -1)", x.page(0, 0, -1), BAD_VALUE);
    }

    private static void seat() {
        DoodleAlbums x = plain(0, 1, 2);
        x.sit(1, 9);
        x.begin(1, 3);
        x.begin(2, 3);
        int[] before = {1, 9, 0, 0, 1};
        for (int what = 0; what < 5; what++) due("seat(1, " + what + ")", x.seat(1, what), before[what]);
        rounds(x, 2);
        due("seat(1, 4)", x.seat(1, 4), 2);
        due("seat(2, 3)", x.seat(2, 3), 1);
        due("seat(0, 3)", x.seat(0, 3), NONE);
        due("seat(0, 4)", x.seat(0, 4), 2);
        rounds(x, 1);
        // seat 1 guesses in the album of seat 2, and its own comes home
        int[] after = {1, 9, 3, NONE, 2};
        for (int what = 0; what < 5; what++) due("seat(1, " + what + ")", x.seat(1, what), after[what]);
        x.clear();
        due("seat(1, 4), cleared", x.seat(1, 4), 0);
        due("seat(1, 2), cleared", x.seat(1, 2), 3);
        due("seat(-1, 0)", x.seat(-1, 0), NO_SUCH);
        due("seat(8, 5)", x.seat(8, 5), NO_SUCH);
        due("seat(7, 5)", x.seat(7, 5), BAD_VALUE);
        due("seat(7, -1)", x.seat(7, -1), BAD_VALUE);
    }

    private static void word() {
        DoodleAlbums x = new DoodleAlbums();
        due("word(0)", x.word(0), 5);
        due("word(15)", x.word(15), 1833);
        x.teach(15, 0);
        due("word(15)", x.word(15), 0);
        due("word(-1)", x.word(-1), NO_SUCH);
        due("word(16)", x.word(16), NO_SUCH);
    }

    private static void count() {
        DoodleAlbums x = plain(0, 1, 2);
        x.begin(0, 5);
        x.begin(1, 5);
        rounds(x, 3);
        x.begin(2, 5);
        x.leave(2);
        rounds(x, 3);
        x.begin(0, 1);
        write(x, "r;r");
        int[] want = {0b11, 4, 1, 2, 1, 6, 10, 3, 6};
        for (int what = 0; what < 9; what++) due("count(" + what + ")", x.count(what), want[what]);
        due("count(-1)", x.count(-1), BAD_VALUE);
        due("count(9)", x.count(9), BAD_VALUE);
    }

    private static void guess() {
        DoodleAlbums x = plain();
        due("guess(0)", x.guess(0), 12);
        due("guess(4095)", x.guess(ALL), 13);
        due("guess(3), two alike", x.guess(3), 14);
        due("guess(5), the lowest of several", x.guess(5), 0);
        due("guess(2048)", x.guess(2048), 11);
        due("guess(2047)", x.guess(2047), 13);
        due("guess(7)", x.guess(7), 14);
        due("guess(-1)", x.guess(-1), BAD_VALUE);
        due("guess(4096)", x.guess(4096), BAD_VALUE);
        due("guess(NONE)", x.guess(NONE), BAD_VALUE);
        due("changes", x.count(8), 6);
    }

    private static void foretoldDue(DoodleAlbums x, int album, int... want) {
        for (int what = 0; what < 4; what++) {
            due("foretold(" + album + ", " + what + ")", x.foretold(album, what), want[what]);
        }
    }

    private static void foretold() {
        DoodleAlbums x = plain(0, 1, 2, 3);
        x.sit(1, 1);
        x.begin(0, 14);
        foretoldDue(x, 0, 0, 4, 4, 1);
        x.tell(0, 4);
        foretoldDue(x, 0, 2, 4, 4, 1);
        due("of(0, 6), nothing changes", x.of(0, 6), 4);
        due("of(0, 1), nothing changes", x.of(0, 1), 1);
        due("count(5), nothing changes", x.count(5), 0);
        due("count(6), nothing changes", x.count(6), 0);
        x.leave(0);
        foretoldDue(x, 0, 2, 4, 4, 2);
        x.round();
        foretoldDue(x, 0, 2, 4, 3, 2);
        x.leave(2);
        x.leave(3);
        foretoldDue(x, 0, 14, 2, 1, 2);
        x.round();
        foretoldDue(x, 0, 14, 2, 0, 2);
        x.sit(0, ALL);
        foretoldDue(x, 0, 14, 2, 0, 2);
        due("foretold(1, 0)", x.foretold(1, 0), NO_SUCH);
        due("foretold(-1, 4)", x.foretold(-1, 4), NO_SUCH);
        due("foretold(0, 4)", x.foretold(0, 4), BAD_VALUE);
        due("foretold(0, -1)", x.foretold(0, -1), BAD_VALUE);

        DoodleAlbums full = plain(0, 1, 2, 3, 4, 5, 6, 7);
        full.begin(7, 5);
        foretoldDue(full, 0, 5, 8, 8, 1);
    }

    private static void bestWord() {
        DoodleAlbums x = plain(0, 1, 2);
        due("bestWord(0, 0), all find home", x.bestWord(0, 0), 0);
        due("bestWord(0, 1)", x.bestWord(0, 1), 0);
        // what seat 1 draws of any word has no feature, and is guessed as word 3
        for (int word = 0; word < 16; word++) x.teach(word, 0b111110);
        x.teach(3, 0);
        x.teach(9, 0b1);
        x.teach(8, 0b1);
        x.sit(1, 0);
        due("bestWord(0, 0), a fixed guess", x.bestWord(0, 0), 3);
        due("bestWord(0, 1)", x.bestWord(0, 1), 0);
        // the guess may not be the word itself: no word without features, seat 1 draws none, word 8 is guessed
        x.teach(3, 0b110);
        due("guess(0)", x.guess(0), 8);
        due("bestWord(0, 0)", x.bestWord(0, 0), 8);
        due("bestWord(2, 1), seat 1 guesses", x.bestWord(2, 1), 0);
        due("bestWord(-1, 2)", x.bestWord(-1, 2), NO_SUCH);
        due("bestWord(8, 0)", x.bestWord(8, 0), NO_SUCH);
        due("bestWord(3, 2)", x.bestWord(3, 2), BAD_VALUE);
        due("bestWord(0, -1)", x.bestWord(0, -1), BAD_VALUE);
        due("bestWord(3, 0)", x.bestWord(3, 0), NOT_POSSIBLE);
        due("count(1), nothing changes", x.count(1), 0);
        due("changes", x.count(8), 6);

        DoodleAlbums alike = plain(0, 1, 2);
        for (int word = 0; word < 16; word++) alike.teach(word, 0b11);
        due("bestWord(0, 0), all alike", alike.bestWord(0, 0), 0);

        // with 12 albums, and one of the seat that goes round, it is told all the same
        DoodleAlbums many = plain(4);
        for (int album = 0; album < 11; album++) {
            many.begin(4, 3);
            many.round();
        }
        many.begin(4, 2);
        due("count(1)", many.count(1), 12);
        due("bestWord(4, 0), 12 albums", many.bestWord(4, 0), 0);
        due("count(1), nothing changes", many.count(1), 12);
    }

    private static void bestWordPlayed() {
        for (int drawn = 0; drawn < 4096; drawn += 195) {
            DoodleAlbums x = new DoodleAlbums();
            for (int seat = 1; seat < 6; seat++) x.sit(seat, seat % 2 == 0 ? drawn : 4095 - drawn);
            int best = -1;
            int fewest = 13;
            for (int word = 0; word < 16; word++) {
                x.begin(2, word);
                rounds(x, 5);
                if (x.of(0, 8) < fewest) {
                    best = word;
                    fewest = x.of(0, 8);
                }
                x.clear();
            }
            due("bestWord(2, 0), played with " + drawn, x.bestWord(2, 0), best);
            due("bestWord(2, 1), played with " + drawn, x.bestWord(2, 1), fewest);
        }
    }

    private static void pointsThen() {
        DoodleAlbums x = plain(0, 1, 2);
        x.begin(0, 5);
        due("pointsThen(0)", x.pointsThen(0), 2);
        due("pointsThen(1)", x.pointsThen(1), 1);
        due("pointsThen(2)", x.pointsThen(2), 1);
        due("pointsThen(7)", x.pointsThen(7), 0);
        x.begin(1, 6);
        due("pointsThen(0)", x.pointsThen(0), 3);
        due("pointsThen(1)", x.pointsThen(1), 3);
        due("pointsThen(2)", x.pointsThen(2), 2);
        pointsDue(x, 0, 0, 0);
        x.tell(0, 1);
        due("pointsThen(0), told", x.pointsThen(0), 1);
        due("of(0, 6), nothing changes", x.of(0, 6), 1);
        x.round();
        due("pointsThen(0), a round later", x.pointsThen(0), 1);
        x.leave(1);
        due("pointsThen(1), stranded", x.pointsThen(1), 0);
        rounds(x, 3);
        for (int seat = 0; seat < 8; seat++) due("pointsThen at the end", x.pointsThen(seat), x.seat(seat, 2));
        due("pointsThen(-1)", x.pointsThen(-1), NO_SUCH);
        due("pointsThen(8)", x.pointsThen(8), NO_SUCH);
    }

    private static void put() {
        DoodleAlbums x = new DoodleAlbums();
        due("put of one", x.put('c'), 1);
        due("put of eight", x.put(number(";r;r;r;r")), 9);
        due("fault()", x.fault(), NONE);
        due("put(0)", x.put(0), BAD_VALUE);
        due("put of 32", x.put(32), BAD_VALUE);
        due("put of 127", x.put(127), BAD_VALUE);
        due("put of 255", x.put(255), BAD_VALUE);
        due("put of 33", x.put(33), 10);
        due("put of 126", x.put(126), 11);
        due("put with 0 below", x.put((long) 'c' << 8), BAD_VALUE);
        due("put with 0 between", x.put((long) 'c' << 16 | 'c'), BAD_VALUE);
        due("put with the highest bit alone", x.put(1L << 63 | 'c'), BAD_VALUE);
        due("put above 127", x.put(128 + 'c'), BAD_VALUE);
        due("put with a bad one ahead", x.put(32L << 8 | 'c'), BAD_VALUE);
        due("put with a high bad one", x.put(128L << 56 | number("ccccccc")), BAD_VALUE);
        due("put(-1)", x.put(-1), BAD_VALUE);
        due("put(Long.MIN_VALUE)", x.put(Long.MIN_VALUE), BAD_VALUE);
        due("count(7)", x.count(7), 11);
        due("changes", x.count(8), 0);
        x.wipe();
        for (int length = 8; length <= 72; length += 8) due("put", x.put(number("cccccccc")), length);
        due("put of seven", x.put(number("ccccccc")), 79);
        due("put of two above 80", x.put(number("cc")), TOO_MANY);
        due("put of none above 80", x.put(0), BAD_VALUE);
        due("put of a bad one above 80", x.put(number("c\u007f")), BAD_VALUE);
        due("put up to 80", x.put('c'), 80);
        due("put above 80", x.put('c'), TOO_MANY);
        due("count(7)", x.count(7), 80);

        DoodleAlbums order = new DoodleAlbums();
        order.put(number("+3=1"));
        order.put(number("72;-"));
        order.put(number("3"));
        due("carryOut()", order.carryOut(), 2);
        due("seat(3, 1)", order.seat(3, 1), 172);
    }

    private static void wipe() {
        DoodleAlbums x = new DoodleAlbums();
        due("wipe() of nothing", x.wipe(), 0);
        write(x, "+0;b0=15");
        due("wipe()", x.wipe(), 8);
        due("count(7)", x.count(7), 0);
        due("fault()", x.fault(), 0);
        due("changes", x.count(8), 0);
        due("wipe() again", x.wipe(), 0);
        write(x, "c");
        due("fault()", x.fault(), NONE);
    }

    private static void fault() {
        String[] good = {"+0", "+7", "+3=0", "+3=9999", "-0", "-7", "b0=0", "b7=15", "b0=9999", "r", "r1", "r9", "c",
            "t0=0", "t9999=9999", "t12=345", "+0;+1=7;b0=3;r;r2;t0=4095;-1;c", "c;c", "r;c", "+1;r9"};
        for (String text : good) due("fault of " + text, faultOf(text), NONE);
        String[] early = {"", "+", "-", "b", "b0", "b0=", "t", "t1", "t12", "t12=", "+0=", "c;", "r;", "+0;", "c;b3="};
        for (String text : early) due("fault of " + text, faultOf(text), text.length());
        String[] atLast = {"x", ";", "0", "=", "C", "+8", "+9", "+=", "+;", "-8", "-x", "-0=", "-00", "+00", "b8", "b0;",
            "b00", "b0=x", "b0=;", "b0=00", "b0=01", "b0=10000", "b0=99990", "b0=5=", "b0=5c", "r0", "r10", "r1=", "r=",
            "rr", "cc", "c1", "c=", "c;;", "t;", "tx", "t=", "t00", "t01", "t10000", "t1;", "t1=;", "t1=00", "t1=12345",
            "t1=1=", "+0=00", "+0=12345", "+0=1=", "+0-", "+0=1x", "c;x", "!", "~", "b0=1~"};
        for (String text : atLast) due("fault of " + text, faultOf(text), text.length() - 1);
        due("the first fault", faultOf("+0;b8=x"), 4);
        due("the first fault", faultOf("xyz"), 0);
        due("the first fault", faultOf("c;r0;x"), 3);
        DoodleAlbums x = new DoodleAlbums();
        for (int length = 0; length < 80; length += 8) x.put(number(";c;c;c;c"));
        due("fault of 80 characters", x.fault(), 0);
        x.wipe();
        for (int length = 0; length < 80; length += 8) x.put(number("c;c;c;c;"));
        due("fault at the end of 80 characters", x.fault(), 80);
        due("changes", x.count(8), 0);
    }

    private static void carryOut() {
        DoodleAlbums x = plain();
        write(x, "+0;+3=1;+6=4095;b0=14;r2;t0=77;r;c");
        int changes = x.count(8);
        due("changes are six", changes, 6);
        due("carryOut()", x.carryOut(), 8);
        due("count(7)", x.count(7), 0);
        due("count(0)", x.count(0), 0b1001001);
        due("seat(3, 1)", x.seat(3, 1), 1);
        due("count(5)", x.count(5), 3);
        due("count(1), cleared", x.count(1), 0);
        due("undo()", x.undo(), 5);
        due("count(0), undone at once", x.count(0), 0);
        due("count(7), not undone", x.count(7), 0);

        DoodleAlbums y = plain();
        write(y, "+0;+3=1;+6;b0=14;r;t0=7;r");
        due("carryOut()", y.carryOut(), 7);
        pageDue(y, 0, 1, 3, 1, 0);
        pageDue(y, 0, 2, 6, 7, 1);
        write(y, "+3;-6");
        due("carryOut()", y.carryOut(), 2);
        due("seat(3, 1), left out", y.seat(3, 1), 1);
        due("count(0)", y.count(0), 0b1001);
        write(y, "r9");
        due("carryOut()", y.carryOut(), 1);
        due("count(5)", y.count(5), 11);
        due("of(0, 3)", y.of(0, 3), 1);
    }

    private static void carryOutErrors() {
        DoodleAlbums x = new DoodleAlbums();
        due("carryOut() of nothing", x.carryOut(), BAD_TEXT);
        write(x, "+1;+8");
        due("carryOut() with a fault", x.carryOut(), BAD_TEXT);
        due("count(7), it stays", x.count(7), 5);
        due("count(0)", x.count(0), 0);
        due("changes", x.count(8), 0);
        x.wipe();
        write(x, "+1;-2;+3");
        due("carryOut(), stopped", x.carryOut(), 1);
        due("count(7), emptied", x.count(7), 0);
        due("count(0)", x.count(0), 0b10);
        due("changes, one", x.count(8), 1);
        write(x, "-2;+5");
        due("carryOut(), none", x.carryOut(), 0);
        due("changes, one more", x.count(8), 2);
        due("count(7)", x.count(7), 0);
        due("count(0)", x.count(0), 0b10);

        due("features out of range", carriedOut("+0=4096;c"), 0);
        due("features at the edge", carriedOut("+0=4095;c"), 2);
        due("no such word", carriedOut("+0;b0=16"), 1);
        due("nobody sits there", carriedOut("+0;b1=1"), 1);
        due("no such album", carriedOut("+0;b0=1;t1=1"), 2);
        due("a page out of range", carriedOut("+0;b0=1;t0=4096"), 2);
        due("a home album", carriedOut("+0;b0=1;r;t0=1;c"), 3);
        due("one of this owner goes round", carriedOut("+0;b0=1;b0=1;c"), 2);
        due("clear of nothing", carriedOut("c;r;r9"), 3);
        due("79 characters", carriedOut("+0;b0=1;r;b0=1;r;b0=1;r;b0=1;r;b0=1;r;b0=1;r;b0=1;r;b0=1;r;b0=1;r;b0=1;r;b0=1;r"), 23);
    }

    private static void undo() {
        DoodleAlbums x = plain(0, 1, 2);
        x.begin(0, 5);
        x.tell(0, 64);
        x.round();
        x.round();
        x.teach(6, 0);
        x.sit(1, 2);
        write(x, "c");
        x.save(1);
        due("count(8)", x.count(8), 6);
        due("undo() of sit", x.undo(), 5);
        due("seat(1, 1)", x.seat(1, 1), ALL);
        due("undo() of teach", x.undo(), 4);
        due("word(6)", x.word(6), 64);
        due("undo() of round", x.undo(), 3);
        due("of(0, 1)", x.of(0, 1), 2);
        due("count(5)", x.count(5), 1);
        due("undo() of round", x.undo(), 2);
        due("of(0, 1)", x.of(0, 1), 1);
        due("of(0, 6)", x.of(0, 6), 64);
        due("undo() of tell", x.undo(), 1);
        due("of(0, 6)", x.of(0, 6), NONE);
        due("undo() of begin", x.undo(), 0);
        due("count(1)", x.count(1), 0);
        due("undo() of nothing", x.undo(), NOT_POSSIBLE);
        due("count(0)", x.count(0), 0b111);
        due("count(7), the pad stays", x.count(7), 1);
        due("restore(1), the slot stays", x.restore(1), 1);
        due("of(0, 1)", x.of(0, 1), 3);

        DoodleAlbums points = plain(0, 1, 2);
        points.begin(0, 5);
        rounds(points, 2);
        points.round();
        pointsDue(points, 2, 1, 1);
        points.undo();
        pointsDue(points, 0, 1, 1);
        due("of(0, 3)", points.of(0, 3), 0);
        points.round();
        points.clear();
        points.undo();
        due("count(1), clear undone", points.count(1), 1);
        points.leave(2);
        points.undo();
        due("count(0), leave undone", points.count(0), 0b111);
    }

    /** Each change by itself, with nothing recorded that could be mistaken for the state before it. */
    private static void undoEach() {
        DoodleAlbums x = new DoodleAlbums();
        x.sit(2, 5);
        x.sit(4, 6);
        due("undo() of sit", x.undo(), 1);
        due("count(0)", x.count(0), 0b100);
        x.leave(2);
        due("undo() of leave", x.undo(), 1);
        due("count(0)", x.count(0), 0b100);
        write(x, "+7");
        x.carryOut();
        due("undo() of carryOut", x.undo(), 1);
        due("count(0)", x.count(0), 0b100);
        x.clear();
        due("undo() of clear", x.undo(), 1);
        due("count(0)", x.count(0), 0b100);
        x.begin(2, 5);
        due("undo() of begin", x.undo(), 1);
        due("count(1)", x.count(1), 0);

        DoodleAlbums left = new DoodleAlbums();
        left.sit(2, 5);
        left.leave(2);
        due("undo() of leave", left.undo(), 1);
        due("count(0)", left.count(0), 0b100);
        due("undo() of sit", left.undo(), 0);
        due("count(0)", left.count(0), 0);

        DoodleAlbums text = new DoodleAlbums();
        text.sit(2, 5);
        write(text, "+7");
        text.carryOut();
        due("undo() of carryOut", text.undo(), 1);
        due("count(0)", text.count(0), 0b100);
    }

    private static void undoHistory() {
        DoodleAlbums x = new DoodleAlbums();
        for (int features = 1; features <= 20; features++) {
            x.teach(0, features);
            due("count(8)", x.count(8), Math.min(features, 6));
        }
        for (int left = 5; left >= 3; left--) due("undo()", x.undo(), left);
        due("word(0)", x.word(0), 17);
        x.teach(0, 99);
        due("count(8)", x.count(8), 4);
        for (int left = 3; left >= 0; left--) due("undo()", x.undo(), left);
        due("word(0), the oldest", x.word(0), 14);
        due("undo()", x.undo(), NOT_POSSIBLE);

        DoodleAlbums same = new DoodleAlbums();
        same.clear();
        same.teach(0, 5);
        same.leave(0);
        same.begin(0, 0);
        same.tell(0, 0);
        same.restore(0);
        same.carryOut();
        same.save(0);
        same.put('c');
        due("count(8), nothing different", same.count(8), 2);
        same.restore(0);
        same.carryOut();
        same.round();
        due("count(8)", same.count(8), 5);
    }

    private static void save() {
        DoodleAlbums x = plain(0, 1);
        due("save(0)", x.save(0), 0);
        x.begin(1, 3);
        due("save(1)", x.save(1), 1);
        x.round();
        due("save(1), over it", x.save(1), 1);
        due("save(-1)", x.save(-1), BAD_VALUE);
        due("save(2)", x.save(2), BAD_VALUE);
        due("count(8)", x.count(8), 6);
        x.round();
        due("restore(1)", x.restore(1), 1);
        due("of(0, 1), saved last", x.of(0, 1), 2);
        due("restore(0)", x.restore(0), 0);
        due("save(1)", x.save(1), 0);
        x.undo();
        due("restore(1)", x.restore(1), 0);
    }

    private static void restore() {
        DoodleAlbums x = plain(0, 1, 2);
        due("restore(0), nothing saved", x.restore(0), NOT_POSSIBLE);
        due("restore(-1)", x.restore(-1), BAD_VALUE);
        due("restore(2)", x.restore(2), BAD_VALUE);
        x.begin(0, 5);
        x.round();
        x.tell(0, 5);
        x.save(0);
        due("restore(1), nothing saved", x.restore(1), NOT_POSSIBLE);
        rounds(x, 2);
        x.clear();
        x.teach(5, 0);
        x.sit(1, 7);
        x.leave(2);
        write(x, "r");
        due("restore(0)", x.restore(0), 1);
        due("word(5)", x.word(5), 32);
        due("seat(1, 1)", x.seat(1, 1), ALL);
        due("count(0)", x.count(0), 0b111);
        due("count(5)", x.count(5), 1);
        due("count(6)", x.count(6), 0);
        due("count(7), the pad stays", x.count(7), 1);
        due("count(8)", x.count(8), 6);
        due("of(0, 6)", x.of(0, 6), 5);
        pageDue(x, 0, 1, 1, 32, 0);
        x.round();
        pageDue(x, 0, 2, 2, 5, 1);
        due("restore(0), it is kept", x.restore(0), 1);
        due("of(0, 1)", x.of(0, 1), 2);
        due("undo() of restore", x.undo(), 5);
        due("of(0, 1)", x.of(0, 1), 3);
        due("undo() of round", x.undo(), 4);
        due("undo() of restore", x.undo(), 3);
        due("count(1)", x.count(1), 0);
        due("word(5)", x.word(5), 0);
    }
}
