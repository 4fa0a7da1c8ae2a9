/**
 * A game in which drawings and guesses go round a table in albums.
 *
 * <p>Every method answers with a number: what the document promises, or one of the error codes, and
 * then nothing has changed. Everything that is kept is made in the constructors and used again.
 */
public final class DoodleAlbums {
    public static final int NO_SUCH = -1, BAD_VALUE = -2, BAD_TEXT = -3, TOO_MANY = -4, NOT_POSSIBLE = -5, NONE = -6;

    private static final int WORDS = 16;
    private static final int FEATURES = 12;
    private static final int FEATURE_SETS = 1 << FEATURES;
    private static final int SEATS = 8;
    private static final int MOST_ALBUMS = 12;
    private static final int MOST_SIGNS = 80;
    private static final int MOST_DIGITS = 4;
    private static final int MOST_ROUNDS = 9;
    private static final int MOST_STATES = 6;
    private static final int SLOTS = 2;

    private static final int GOES_ROUND = 0;
    private static final int HOME = 1;
    private static final int STRANDED = 2;

    private final Table table = new Table();
    private final Forecast forecast = new Forecast();
    private final History history = new History();
    private final Slot[] slots = new Slot[SLOTS];
    private final Pad pad = new Pad();

    public DoodleAlbums() {
        for (int slot = 0; slot < slots.length; slot++) {
            slots[slot] = new Slot();
        }
    }

    // ---- changes

    public int teach(int word, int features) {
        history.prepare(table);
        return history.recordUnlessError(table.changeFeatures(word, features));
    }

    public int sit(int seat, int features) {
        history.prepare(table);
        return history.recordUnlessError(table.sitDown(seat, features));
    }

    public int leave(int seat) {
        history.prepare(table);
        return history.recordUnlessError(table.standUp(seat));
    }

    public int begin(int seat, int word) {
        history.prepare(table);
        return history.recordUnlessError(table.beginAlbum(seat, word));
    }

    public int tell(int album, int page) {
        history.prepare(table);
        return history.recordUnlessError(table.tellPage(album, page));
    }

    public int round() {
        history.prepare(table);
        return history.recordUnlessError(table.makeRound());
    }

    public int clear() {
        history.prepare(table);
        return history.recordUnlessError(table.clearEnded());
    }

    // ---- what there is

    public int of(int album, int what) {
        Album found = table.albumAt(album);
        if (found == null) {
            return NO_SUCH;
        }
        switch (what) {
            case 0: return found.owner;
            case 1: return found.pages;
            case 2: return found.liesAt();
            case 3: return found.state;
            case 4: return found.lastWord();
            case 5: return found.wordChanges();
            case 6: return found.toldNext;
            case 7: return found.seatSet();
            case 8: return table.difference(found.firstWord(), found.lastWord());
            default: return BAD_VALUE;
        }
    }

    public int page(int album, int page, int what) {
        Album found = table.albumAt(album);
        if (found == null || !isBelow(page, found.pages)) {
            return NO_SUCH;
        }
        switch (what) {
            case 0: return found.seatOf(page);
            case 1: return found.markOf(page);
            case 2: return found.wasTold(page) ? 1 : 0;
            default: return BAD_VALUE;
        }
    }

    public int seat(int seat, int what) {
        if (!isBelow(seat, SEATS)) {
            return NO_SUCH;
        }
        switch (what) {
            case 0: return table.isTaken(seat) ? 1 : 0;
            case 1: return valueAt(table.drawable, seat);
            case 2: return valueAt(table.points, seat);
            case 3: return table.albumGoingRoundOf(seat);
            case 4: return table.pagesBy(seat);
            default: return BAD_VALUE;
        }
    }

    public int word(int word) {
        return isBelow(word, WORDS) ? valueAt(table.features, word) : NO_SUCH;
    }

    public int count(int what) {
        switch (what) {
            case 0: return table.players;
            case 1: return table.albumCount;
            case 2: return table.albumsThatAre(GOES_ROUND);
            case 3: return table.albumsThatAre(HOME);
            case 4: return table.albumsThatAre(STRANDED);
            case 5: return table.rounds;
            case 6: return table.allPoints();
            case 7: return pad.size;
            case 8: return history.size;
            default: return BAD_VALUE;
        }
    }

    // ---- what if; nothing changes

    public int guess(int drawing) {
        return isBelow(drawing, FEATURE_SETS) ? table.mostLike(drawing) : BAD_VALUE;
    }

    public int foretold(int album, int what) {
        Album found = table.albumAt(album);
        if (found == null) {
            return NO_SUCH;
        }
        if (!isBelow(what, 4)) {
            return BAD_VALUE;
        }
        forecast.follow(table, found);
        switch (what) {
            case 0: return forecast.album.lastWord();
            case 1: return forecast.album.pages;
            case 2: return forecast.rounds;
            default: return forecast.album.state;
        }
    }

    public int bestWord(int seat, int what) {
        if (!isBelow(seat, SEATS)) {
            return NO_SUCH;
        }
        if (what != 0 && what != 1) {
            return BAD_VALUE;
        }
        if (!table.isTaken(seat)) {
            return NOT_POSSIBLE;
        }
        int best = 0;
        int fewest = FEATURES + 1;
        for (int word = 0; word < WORDS; word++) {
            int difference = forecast.differenceAtHome(table, seat, word);
            if (difference < fewest) {
                best = word;
                fewest = difference;
            }
        }
        return what == 0 ? best : fewest;
    }

    public int pointsThen(int seat) {
        if (!isBelow(seat, SEATS)) {
            return NO_SUCH;
        }
        forecast.followAll(table);
        return valueAt(forecast.points, seat);
    }

    // ---- texts

    public int put(long characters) {
        return pad.append(characters);
    }

    public int wipe() {
        return pad.empty();
    }

    public int fault() {
        return pad.findFault();
    }

    public int carryOut() {
        if (pad.findFault() != NONE) {
            return BAD_TEXT;
        }
        history.prepare(table);
        pad.startReading();
        int done = 0;
        while (done < MOST_SIGNS && pad.readNext() && carryOutOrder() >= 0) {
            done++;
        }
        pad.empty();
        return history.recordUnlessError(done);
    }

    // ---- undo, saving

    public int undo() {
        return history.takeBack(table);
    }

    public int save(int slot) {
        Slot found = slotAt(slot);
        if (found == null) {
            return BAD_VALUE;
        }
        found.state.copyFrom(table);
        found.filled = true;
        return table.albumCount;
    }

    public int restore(int slot) {
        Slot found = slotAt(slot);
        if (found == null) {
            return BAD_VALUE;
        }
        if (!found.filled) {
            return NOT_POSSIBLE;
        }
        history.prepare(table);
        table.copyFrom(found.state);
        return history.recordUnlessError(table.albumCount);
    }

    // ---- helpers

    /** Carries out the order that the pad read last, without a record of its own. */
    private int carryOutOrder() {
        switch (pad.kind) {
            case '+': return table.sitDown(pad.first, pad.second);
            case '-': return table.standUp(pad.first);
            case 'b': return table.beginAlbum(pad.first, pad.second);
            case 't': return table.tellPage(pad.first, pad.second);
            case 'r':
                for (int round = 0; round < pad.first && round < MOST_ROUNDS; round++) {
                    table.makeRound();
                }
                return 0;
            default: return table.clearEnded();
        }
    }

    private Slot slotAt(int slot) {
        return slot >= 0 && slot < slots.length ? slots[slot] : null;
    }

    private static boolean isBelow(int value, int bound) {
        return value >= 0 && value < bound;
    }

    private static int valueAt(int[] row, int index) {
        return index >= 0 && index < row.length ? row[index] : 0;
    }

    private static void setAt(int[] row, int index, int value) {
        if (index >= 0 && index < row.length) {
            row[index] = value;
        }
    }

    private static void addAt(int[] row, int index, int more) {
        if (index >= 0 && index < row.length) {
            row[index] += more;
        }
    }

    private static void copyRow(int[] from, int[] to) {
        System.arraycopy(from, 0, to, 0, Math.min(from.length, to.length));
    }

    /** An album. A seat has at most one page in it, so that it never has more pages than there are seats. */
    private static final class Album {
        final int[] seats = new int[SEATS];
        final int[] marks = new int[SEATS];
        int owner;
        int pages;
        int state;
        int toldNext = NONE;
        int toldPages;

        void start(int seat, int word) {
            owner = seat;
            pages = 0;
            state = GOES_ROUND;
            toldNext = NONE;
            toldPages = 0;
            addPage(seat, word);
        }

        void addPage(int seat, int mark) {
            if (pages < SEATS) {
                setAt(seats, pages, seat);
                setAt(marks, pages, mark);
                pages++;
            }
        }

        void addToldPage(int seat) {
            toldPages |= 1 << pages;
            addPage(seat, toldNext);
            toldNext = NONE;
        }

        void copyFrom(Album other) {
            copyRow(other.seats, seats);
            copyRow(other.marks, marks);
            owner = other.owner;
            pages = other.pages;
            state = other.state;
            toldNext = other.toldNext;
            toldPages = other.toldPages;
        }

        boolean goesRound() {
            return state == GOES_ROUND;
        }

        int seatOf(int page) {
            return valueAt(seats, page);
        }

        /** The word or the drawing on a page. */
        int markOf(int page) {
            return valueAt(marks, page);
        }

        boolean wasTold(int page) {
            return (toldPages & (1 << page)) != 0;
        }

        int liesAt() {
            return valueAt(seats, pages - 1);
        }

        boolean endsWithWord() {
            return (pages & 1) == 1;
        }

        int firstWord() {
            return valueAt(marks, 0);
        }

        int lastWord() {
            return valueAt(marks, endsWithWord() ? pages - 1 : pages - 2);
        }

        /** Whether the last page is the word from which the drawing ahead of it was made. */
        boolean hasFoundWordAgain() {
            return pages >= 3 && endsWithWord() && markOf(pages - 1) == markOf(pages - 3);
        }

        int wordChanges() {
            int changes = 0;
            for (int page = 2; page < pages; page += 2) {
                if (markOf(page) != markOf(page - 2)) {
                    changes++;
                }
            }
            return changes;
        }

        int seatSet() {
            int set = 0;
            for (int page = 0; page < pages; page++) {
                set |= 1 << valueAt(seats, page);
            }
            return set;
        }
    }

    /** All that undo and the slots bring back: words, seats, albums, points and rounds. */
    private static final class Table {
        final int[] features = new int[WORDS];
        final int[] drawable = new int[SEATS];
        final int[] points = new int[SEATS];
        final Album[] albums = new Album[MOST_ALBUMS];
        int players;
        int albumCount;
        int rounds;

        Table() {
            for (int word = 0; word < features.length; word++) {
                features[word] = (word * word * 37 + word * 113 + 5) % FEATURE_SETS;
            }
            for (int seat = 0; seat < drawable.length; seat++) {
                drawable[seat] = FEATURE_SETS - 1;
            }
            for (int number = 0; number < albums.length; number++) {
                albums[number] = new Album();
            }
        }

        void copyFrom(Table other) {
            copyRow(other.features, features);
            copyRow(other.drawable, drawable);
            copyRow(other.points, points);
            players = other.players;
            rounds = other.rounds;
            albumCount = other.albumCount;
            for (int number = 0; number < albumCount; number++) {
                Album from = other.placeAt(number);
                Album to = placeAt(number);
                if (from != null && to != null) {
                    to.copyFrom(from);
                }
            }
        }

        private Album placeAt(int number) {
            return number >= 0 && number < albums.length ? albums[number] : null;
        }

        /** The album of this number, or null if there is none. */
        Album albumAt(int number) {
            return number < albumCount ? placeAt(number) : null;
        }

        boolean isTaken(int seat) {
            return (players & (1 << seat)) != 0;
        }

        int changeFeatures(int word, int set) {
            if (!isBelow(word, WORDS)) {
                return NO_SUCH;
            }
            if (!isBelow(set, FEATURE_SETS)) {
                return BAD_VALUE;
            }
            int previous = valueAt(features, word);
            setAt(features, word, set);
            return previous;
        }

        int sitDown(int seat, int set) {
            if (!isBelow(seat, SEATS)) {
                return NO_SUCH;
            }
            if (set != NONE && !isBelow(set, FEATURE_SETS)) {
                return BAD_VALUE;
            }
            if (set != NONE) {
                setAt(drawable, seat, set);
            }
            players |= 1 << seat;
            return Integer.bitCount(players);
        }

        int standUp(int seat) {
            if (!isBelow(seat, SEATS)) {
                return NO_SUCH;
            }
            if (!isTaken(seat)) {
                return NOT_POSSIBLE;
            }
            players &= ~(1 << seat);
            return Integer.bitCount(players);
        }

        int beginAlbum(int seat, int word) {
            if (!isBelow(seat, SEATS) || !isBelow(word, WORDS)) {
                return NO_SUCH;
            }
            Album next = placeAt(albumCount);
            if (next == null) {
                return TOO_MANY;
            }
            if (!isTaken(seat) || albumGoingRoundOf(seat) != NONE) {
                return NOT_POSSIBLE;
            }
            next.start(seat, word);
            albumCount++;
            return albumCount - 1;
        }

        int tellPage(int number, int mark) {
            Album album = albumAt(number);
            if (album == null) {
                return NO_SUCH;
            }
            if (!isBelow(mark, album.endsWithWord() ? FEATURE_SETS : WORDS)) {
                return BAD_VALUE;
            }
            if (!album.goesRound()) {
                return NOT_POSSIBLE;
            }
            int toldBefore = album.toldNext == NONE ? 0 : 1;
            album.toldNext = mark;
            return toldBefore;
        }

        int makeRound() {
            for (int number = 0; number < albumCount; number++) {
                Album album = albumAt(number);
                if (album != null && album.goesRound()) {
                    passOn(album, points);
                }
            }
            rounds++;
            return albumsThatAre(GOES_ROUND);
        }

        int clearEnded() {
            int kept = 0;
            for (int number = 0; number < albumCount; number++) {
                Album album = placeAt(number);
                Album place = placeAt(kept);
                if (album != null && place != null && album.goesRound()) {
                    place.copyFrom(album);
                    kept++;
                }
            }
            int cleared = albumCount - kept;
            albumCount = kept;
            return cleared;
        }

        /** Takes an album through one round. The caller gives the row of points, so that a forecast can count its own. */
        void passOn(Album album, int[] pointRow) {
            int seat = nextSeat(album);
            if (seat == NONE) {
                end(album, pointRow);
                return;
            }
            if (album.toldNext != NONE) {
                album.addToldPage(seat);
            } else {
                album.addPage(seat, pageBy(seat, album));
            }
            if (album.hasFoundWordAgain()) {
                addAt(pointRow, album.seatOf(album.pages - 2), 1);
                addAt(pointRow, seat, 1);
            }
        }

        private int nextSeat(Album album) {
            int possible = players & ~album.seatSet();
            int seat = album.liesAt();
            for (int step = 0; step < SEATS; step++) {
                seat = seat + 1 < SEATS ? seat + 1 : 0;
                if ((possible & (1 << seat)) != 0) {
                    return seat;
                }
            }
            return NONE;
        }

        private void end(Album album, int[] pointRow) {
            if (!isTaken(album.owner)) {
                album.state = STRANDED;
                return;
            }
            album.state = HOME;
            if (album.pages >= 3 && album.lastWord() == album.firstWord()) {
                addAt(pointRow, album.owner, 2);
            }
        }

        /** What a player draws, or guesses, behind the last page of an album. */
        private int pageBy(int seat, Album album) {
            int last = album.markOf(album.pages - 1);
            return album.endsWithWord() ? valueAt(features, last) & valueAt(drawable, seat) : mostLike(last);
        }

        int mostLike(int drawing) {
            int best = 0;
            int fewest = FEATURES + 1;
            for (int word = 0; word < features.length; word++) {
                int difference = Integer.bitCount(features[word] ^ drawing);
                if (difference < fewest) {
                    best = word;
                    fewest = difference;
                }
            }
            return best;
        }

        /** In how many features two words differ. */
        int difference(int word, int other) {
            return Integer.bitCount(valueAt(features, word) ^ valueAt(features, other));
        }

        int albumGoingRoundOf(int seat) {
            for (int number = 0; number < albumCount; number++) {
                Album album = albumAt(number);
                if (album != null && album.owner == seat && album.goesRound()) {
                    return number;
                }
            }
            return NONE;
        }

        int albumsThatAre(int state) {
            int found = 0;
            for (int number = 0; number < albumCount; number++) {
                Album album = albumAt(number);
                if (album != null && album.state == state) {
                    found++;
                }
            }
            return found;
        }

        int pagesBy(int seat) {
            int found = 0;
            for (int number = 0; number < albumCount; number++) {
                Album album = albumAt(number);
                // a seat has at most one page in an album
                if (album != null && (album.seatSet() & (1 << seat)) != 0) {
                    found++;
                }
            }
            return found;
        }

        int allPoints() {
            int sum = 0;
            for (int seat = 0; seat < points.length; seat++) {
                sum += points[seat];
            }
            return sum;
        }
    }

    /** Plays rounds with an album and points of its own, so that nothing of the table changes. */
    private static final class Forecast {
        final Album album = new Album();
        final int[] points = new int[SEATS];
        int rounds;

        void follow(Table table, Album start) {
            album.copyFrom(start);
            playToEnd(table);
        }

        /** Albums do nothing to one another but add points, so that each can be followed by itself. */
        void followAll(Table table) {
            copyRow(table.points, points);
            for (int number = 0; number < table.albumCount; number++) {
                Album start = table.albumAt(number);
                if (start != null) {
                    album.copyFrom(start);
                    playToEnd(table);
                }
            }
        }

        /** In how many features the last word and the first one will differ, if an album is begun now. */
        int differenceAtHome(Table table, int seat, int word) {
            album.start(seat, word);
            playToEnd(table);
            return table.difference(album.firstWord(), album.lastWord());
        }

        private void playToEnd(Table table) {
            rounds = 0;
            // each round puts a page by another seat in, and one more round ends the album
            while (rounds <= SEATS && album.goesRound()) {
                table.passOn(album, points);
                rounds++;
            }
        }
    }

    /** The states before the latest changes: a ring with one place more, for the change that is under way. */
    private static final class History {
        final Table[] states = new Table[MOST_STATES + 1];
        int oldest;
        int size;

        History() {
            for (int place = 0; place < states.length; place++) {
                states[place] = new Table();
            }
        }

        private Table stateAt(int age) {
            int place = oldest + age;
            if (place >= states.length) {
                place -= states.length;
            }
            return place >= 0 && place < states.length ? states[place] : null;
        }

        /** Keeps the state ahead of a change, which counts only when it is recorded. */
        void prepare(Table table) {
            Table free = stateAt(size);
            if (free != null) {
                free.copyFrom(table);
            }
        }

        int recordUnlessError(int answer) {
            if (answer >= 0) {
                if (size < MOST_STATES) {
                    size++;
                } else {
                    oldest = oldest + 1 < states.length ? oldest + 1 : 0;
                }
            }
            return answer;
        }

        int takeBack(Table table) {
            Table latest = size > 0 ? stateAt(size - 1) : null;
            if (latest == null) {
                return NOT_POSSIBLE;
            }
            table.copyFrom(latest);
            size--;
            return size;
        }
    }

    private static final class Slot {
        final Table state = new Table();
        boolean filled;
    }

    /** The text, and how far it is read: where reading fails, the position is the fault. */
    private static final class Pad {
        final int[] signs = new int[MOST_SIGNS];
        int size;
        int position;
        int kind;
        int first;
        int second;

        int append(long characters) {
            int added = signsIn(characters);
            if (added == 0) {
                return BAD_VALUE;
            }
            if (size + added > MOST_SIGNS) {
                return TOO_MANY;
            }
            long rest = characters;
            for (int back = 1; back <= added; back++) {
                setAt(signs, size + added - back, (int) (rest & 255));
                rest >>>= 8;
            }
            size += added;
            return size;
        }

        /** How many signs a number holds; 0 if it holds none, or is not well formed. */
        private static int signsIn(long characters) {
            long rest = characters;
            int number = 0;
            while (number < 8 && rest != 0) {
                int code = (int) (rest & 255);
                if (code < 33 || code > 126) {
                    return 0;
                }
                number++;
                rest >>>= 8;
            }
            return number;
        }

        int empty() {
            int before = size;
            size = 0;
            return before;
        }

        int findFault() {
            startReading();
            for (int order = 0; order < MOST_SIGNS && readNext(); order++) {
                if (position >= size) {
                    return NONE;
                }
            }
            return position;
        }

        void startReading() {
            position = 0;
        }

        /** Reads the next order; answers whether there is one without a fault. */
        boolean readNext() {
            return (position == 0 || take(';')) && readOrder();
        }

        private boolean readOrder() {
            kind = signHere();
            second = NONE;
            switch (kind) {
                case '+':
                    position++;
                    return readSeat() && (!take('=') || readNumber());
                case '-':
                    position++;
                    return readSeat();
                case 'b':
                    position++;
                    return readSeat() && take('=') && readNumber();
                case 'r':
                    position++;
                    readRounds();
                    return true;
                case 't':
                    position++;
                    if (!readNumber()) {
                        return false;
                    }
                    first = second;
                    return take('=') && readNumber();
                case 'c':
                    position++;
                    return true;
                default:
                    return false;
            }
        }

        private boolean readSeat() {
            int digit = digitHere();
            if (!isBelow(digit, SEATS)) {
                return false;
            }
            first = digit;
            position++;
            return true;
        }

        private void readRounds() {
            int digit = digitHere();
            first = 1;
            if (digit > 0) {
                first = digit;
                position++;
            }
        }

        /** Leaves a digit behind a leading zero, or behind four digits: it cannot stand there, and is the fault. */
        private boolean readNumber() {
            int digit = digitHere();
            if (digit == NONE) {
                return false;
            }
            second = digit;
            position++;
            for (int digits = 1; digits < MOST_DIGITS && second != 0 && digitHere() != NONE; digits++) {
                second = second * 10 + digitHere();
                position++;
            }
            return true;
        }

        private boolean take(int sign) {
            if (signHere() != sign) {
                return false;
            }
            position++;
            return true;
        }

        private int digitHere() {
            int sign = signHere();
            return sign >= '0' && sign <= '9' ? sign - '0' : NONE;
        }

        /** 0 behind the end, which no sign of the pad is. */
        private int signHere() {
            return position >= 0 && position < size && position < signs.length ? signs[position] : 0;
        }
    }
}
