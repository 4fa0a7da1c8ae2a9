import java.util.ArrayList;
import java.util.Arrays;
import java.util.HashMap;
import java.util.List;
import java.util.Map;
import java.util.Random;
import java.util.TreeSet;
import java.util.regex.Pattern;

// Long runs of calls, drawn from fixed seeds, on the program and on a second, slow writing of the document.
public final class ModelTest {
    private static final int NO_SUCH = -1, BAD_VALUE = -2, BAD_TEXT = -3, TOO_MANY = -4, NOT_POSSIBLE = -5, NONE = -6;
    private static final int RUNS = 1500, CALLS = 512;

    public static void main(String[] args) {
        int wrong = 0;
        Map<String, Integer> seen = new HashMap<>();
        for (int run = 0; run < RUNS && wrong < 5; run++) {
            if (!new Run(run, seen).holds()) wrong++;
        }
        wrong += missing(seen);
        if (args.length > 0) seen.keySet().stream().sorted().forEach(key -> System.out.println(key + " " + seen.get(key)));
        System.out.println(wrong == 0 ? RUNS + " runs answer as the model does" : wrong + " faults");
        if (wrong != 0) System.exit(1);
    }

    /** The runs are worth something only if they reach each kind of answer. */
    private static int missing(Map<String, Integer> seen) {
        int missing = 0;
        String[] wanted = {
            "teach ok", "teach -1", "teach -2", "sit ok", "sit -1", "sit -2", "leave ok", "leave -1", "leave -5",
            "begin ok", "begin -1", "begin -4", "begin -5", "tell ok", "tell -1", "tell -2", "tell -5", "round ok",
            "clear ok", "of ok", "of -1", "of -2", "of -6", "page ok", "page -1", "page -2", "seat ok", "seat -1",
            "seat -2", "seat -6", "word ok", "word -1", "count ok", "count -2", "guess ok", "guess -2", "foretold ok",
            "foretold -1", "foretold -2", "bestWord ok", "bestWord -1", "bestWord -2", "bestWord -5", "pointsThen ok",
            "pointsThen -1", "put ok", "put -2", "put -4", "wipe ok", "fault ok", "fault -6", "carryOut ok",
            "carryOut -3", "undo ok", "undo -5", "save ok", "save -2", "restore ok", "restore -2", "restore -5"};
        for (String key : wanted) {
            if (!seen.containsKey(key)) {
                missing++;
                System.out.println("no run answered " + key);
            }
        }
        return missing;
    }

    // ---- the runs

    private static final class Run {
        final int number;
        final Map<String, Integer> seen;
        final Random random;
        final DoodleAlbums program = new DoodleAlbums();
        final Model model = new Model();
        final List<String> calls = new ArrayList<>();
        final boolean fewLeave;
        String pending = "";

        Run(int number, Map<String, Integer> seen) {
            this.number = number;
            this.seen = seen;
            random = new Random(number);
            fewLeave = random.nextInt(3) > 0;
        }

        boolean holds() {
            for (int call = 0; call < CALLS; call++) {
                if (!step()) {
                    System.out.println("run " + number + ": " + String.join("; ", calls));
                    return false;
                }
            }
            return true;
        }

        boolean step() {
            int kind = random.nextInt(fewLeave ? 100 : 103);
            if (kind < 5) return teach();
            if (kind < 14) return sit();
            if (kind < 16 || kind >= 100) return leave();
            if (kind < 27) return begin();
            if (kind < 33) return tell();
            if (kind < 46) return round();
            if (kind < 48) return clear();
            if (kind < 60) return look();
            if (kind < 72) return whatIf();
            if (kind < 91) return text();
            return history();
        }

        boolean same(String call, int got, int want) {
            calls.add(call + " = " + want);
            String name = call.substring(0, call.indexOf('('));
            seen.merge(name + " " + (want >= 0 ? "ok" : want), 1, Integer::sum);
            if (got != want) System.out.println(call + " answered " + got + ", due is " + want);
            return got == want;
        }

        int below(int bound) {
            int kind = random.nextInt(60);
            if (kind == 0) return -1;
            if (kind == 1) return bound;
            if (kind == 2) return bound - 1;
            if (kind == 3) {
                int[] strange = {NONE, -5, -7, Integer.MIN_VALUE, Integer.MAX_VALUE, bound + 1, 1 << 16, -bound};
                return strange[random.nextInt(strange.length)];
            }
            return random.nextInt(bound);
        }

        int features() {
            int kind = random.nextInt(6);
            if (kind == 0) return 4095;
            if (kind == 1) return 1 << random.nextInt(12);
            if (kind == 2) return random.nextInt(4096) & random.nextInt(4096);
            return below(4096);
        }

        int album() {
            int albums = model.now.books.size();
            return albums > 0 && random.nextInt(20) > 0 ? random.nextInt(albums) : below(12);
        }

        boolean teach() {
            int word = below(16), set = features();
            return same("teach(" + word + ", " + set + ")", program.teach(word, set), model.teach(word, set));
        }

        boolean sit() {
            int seat = below(8), set = random.nextInt(3) == 0 ? NONE : features();
            return same("sit(" + seat + ", " + set + ")", program.sit(seat, set), model.sit(seat, set));
        }

        boolean leave() {
            int seat = below(8);
            return same("leave(" + seat + ")", program.leave(seat), model.leave(seat));
        }

        boolean begin() {
            int seat = below(8), word = below(16);
            return same("begin(" + seat + ", " + word + ")", program.begin(seat, word), model.begin(seat, word));
        }

        boolean tell() {
            int album = album(), page = random.nextBoolean() ? below(16) : features();
            return same("tell(" + album + ", " + page + ")", program.tell(album, page), model.tell(album, page));
        }

        boolean round() {
            return same("round()", program.round(), model.round());
        }

        boolean clear() {
            return same("clear()", program.clear(), model.clear());
        }

        boolean look() {
            int kind = random.nextInt(12);
            if (kind < 4) {
                int album = album(), what = below(9);
                return same("of(" + album + ", " + what + ")", program.of(album, what), model.of(album, what));
            }
            if (kind < 7) {
                int album = album(), page = below(random.nextInt(8) + 1), what = below(3);
                return same("page(" + album + ", " + page + ", " + what + ")", program.page(album, page, what),
                    model.page(album, page, what));
            }
            if (kind < 9) {
                int seat = below(8), what = below(5);
                return same("seat(" + seat + ", " + what + ")", program.seat(seat, what), model.seat(seat, what));
            }
            if (kind < 10) {
                int word = below(16);
                return same("word(" + word + ")", program.word(word), model.word(word));
            }
            int what = below(9);
            return same("count(" + what + ")", program.count(what), model.count(what));
        }

        boolean whatIf() {
            int kind = random.nextInt(10);
            if (kind < 2) {
                int drawing = features();
                return same("guess(" + drawing + ")", program.guess(drawing), model.guess(drawing));
            }
            if (kind < 5) {
                int album = album(), what = below(4);
                return same("foretold(" + album + ", " + what + ")", program.foretold(album, what),
                    model.foretold(album, what));
            }
            int seat = below(8), what = below(2);
            if (kind < 8) {
                return same("bestWord(" + seat + ", " + what + ")", program.bestWord(seat, what),
                    model.bestWord(seat, what));
            }
            return same("pointsThen(" + seat + ")", program.pointsThen(seat), model.pointsThen(seat));
        }

        boolean text() {
            int kind = random.nextInt(20);
            boolean broken = pending.isEmpty() && model.fault() != NONE && !model.pad.isEmpty();
            if (kind == 0 || kind < 7 && broken) {
                pending = "";
                return same("wipe()", program.wipe(), model.wipe());
            }
            if (kind < 4) return same("fault()", program.fault(), model.fault());
            if (kind < 6 || kind < 12 && pending.isEmpty() && !broken && !model.pad.isEmpty()) {
                return same("carryOut()", program.carryOut(), model.carryOut());
            }
            return put();
        }

        boolean put() {
            long characters;
            if (random.nextInt(25) == 0) {
                long[] strange = {0, -1, 32, 127, 33, 126, 0x4100, 0x410041, Long.MIN_VALUE, Long.MAX_VALUE,
                    random.nextLong(), 0x6300000000000063L, 0x6363636363636380L};
                characters = strange[random.nextInt(strange.length)];
            } else {
                if (pending.isEmpty()) pending = (model.pad.isEmpty() ? "" : ";") + orders();
                int length = Math.min(pending.length(), 1 + random.nextInt(8));
                characters = 0;
                for (int index = 0; index < length; index++) characters = characters << 8 | pending.charAt(index);
                pending = pending.substring(length);
            }
            return same("put(" + characters + ")", program.put(characters), model.put(characters));
        }

        String orders() {
            StringBuilder orders = new StringBuilder(order());
            while (random.nextInt(3) > 0) orders.append(';').append(order());
            if (random.nextInt(12) == 0) {
                String signs = "+-brtc=;0123456789x!~";
                orders.insert(random.nextInt(orders.length() + 1), signs.charAt(random.nextInt(signs.length())));
            }
            if (random.nextInt(12) == 0) orders.deleteCharAt(random.nextInt(orders.length()));
            return orders.toString();
        }

        String order() {
            int seat = random.nextInt(8);
            int small = random.nextInt(random.nextInt(5) == 0 ? 20 : 16);
            int big = random.nextInt(random.nextInt(5) == 0 ? 10000 : 4096);
            switch (random.nextInt(9)) {
                case 0: return "+" + seat;
                case 1: return "+" + seat + "=" + big;
                case 2: return "-" + seat;
                case 3: case 4: return "b" + seat + "=" + small;
                case 5: return "r";
                case 6: return "r" + (1 + random.nextInt(9));
                case 7: return "t" + random.nextInt(random.nextInt(4) + 1) + "=" + (random.nextBoolean() ? small : big);
                default: return "c";
            }
        }

        boolean history() {
            int kind = random.nextInt(10);
            if (kind < 5) return same("undo()", program.undo(), model.undo());
            int slot = random.nextInt(12) == 0 ? below(2) : random.nextInt(2);
            if (kind < 7) return same("save(" + slot + ")", program.save(slot), model.save(slot));
            return same("restore(" + slot + ")", program.restore(slot), model.restore(slot));
        }
    }

    // ---- the model

    private static final class Page {
        final int seat, mark;
        final boolean told;

        Page(int seat, int mark, boolean told) {
            this.seat = seat;
            this.mark = mark;
            this.told = told;
        }
    }

    private static final class Book {
        int owner, how;
        Integer told;
        List<Page> pages = new ArrayList<>();

        Book copy() {
            Book copy = new Book();
            copy.owner = owner;
            copy.how = how;
            copy.told = told;
            copy.pages = new ArrayList<>(pages);
            return copy;
        }

        List<Integer> words() {
            List<Integer> words = new ArrayList<>();
            for (int page = 0; page < pages.size(); page++) if (page % 2 == 0) words.add(pages.get(page).mark);
            return words;
        }

        int lastWord() {
            return words().get(words().size() - 1);
        }

        boolean has(int seat) {
            return pages.stream().anyMatch(page -> page.seat == seat);
        }

        Page last() {
            return pages.get(pages.size() - 1);
        }
    }

    private static final class State {
        int[] words = new int[16], draws = new int[8], points = new int[8];
        TreeSet<Integer> players = new TreeSet<>();
        List<Book> books = new ArrayList<>();
        int rounds;

        State copy() {
            State copy = new State();
            copy.words = words.clone();
            copy.draws = draws.clone();
            copy.points = points.clone();
            copy.players = new TreeSet<>(players);
            for (Book book : books) copy.books.add(book.copy());
            copy.rounds = rounds;
            return copy;
        }

        int apart(int set, int other) {
            int apart = 0;
            for (int feature = 0; feature < 12; feature++) {
                if ((set >> feature & 1) != (other >> feature & 1)) apart++;
            }
            return apart;
        }

        int guess(int drawing) {
            for (int apart = 0; apart <= 12; apart++) {
                for (int word = 0; word < 16; word++) if (apart(words[word], drawing) == apart) return word;
            }
            throw new IllegalStateException();
        }

        int goingRound() {
            return (int) books.stream().filter(book -> book.how == 0).count();
        }

        void round() {
            for (Book book : books) if (book.how == 0) pass(book);
            rounds++;
        }

        void pass(Book book) {
            int from = book.last().seat;
            for (int ahead = 1; ahead <= 7; ahead++) {
                int seat = (from + ahead) % 8;
                if (players.contains(seat) && !book.has(seat)) {
                    addPage(book, seat);
                    return;
                }
            }
            book.how = players.contains(book.owner) ? 1 : 2;
            if (book.how == 1 && book.pages.size() >= 3 && book.lastWord() == book.pages.get(0).mark) {
                points[book.owner] += 2;
            }
        }

        void addPage(Book book, int seat) {
            boolean word = book.pages.size() % 2 == 0;
            int last = book.last().mark;
            int mark = book.told != null ? book.told : word ? guess(last) : words[last] & draws[seat];
            book.pages.add(new Page(seat, mark, book.told != null));
            book.told = null;
            int size = book.pages.size();
            if (word && book.pages.get(size - 3).mark == mark) {
                points[seat]++;
                points[book.pages.get(size - 2).seat]++;
            }
        }

        int openAlbumOf(int seat) {
            for (int album = 0; album < books.size(); album++) {
                if (books.get(album).owner == seat && books.get(album).how == 0) return album;
            }
            return NONE;
        }
    }

    private static final class Model {
        static final String NUMBER = "(0|[1-9][0-9]{0,3})";
        static final String ORDER = "(\\+[0-7](=" + NUMBER + ")?|-[0-7]|b[0-7]=" + NUMBER + "|r[1-9]?|t" + NUMBER + "="
            + NUMBER + "|c)";
        static final Pattern TEXT = Pattern.compile(ORDER + "(;" + ORDER + ")*");

        State now = new State();
        String pad = "";
        List<State> past = new ArrayList<>();
        State[] slots = new State[2];

        Model() {
            for (int word = 0; word < 16; word++) now.words[word] = (word * word * 37 + word * 113 + 5) % 4096;
            Arrays.fill(now.draws, 4095);
        }

        static boolean in(int value, int bound) {
            return value >= 0 && value < bound;
        }

        void record(State before) {
            past.add(before);
            if (past.size() > 6) past.remove(0);
        }

        int changed(State before, int answer) {
            if (answer >= 0) record(before);
            return answer;
        }

        int teach(int word, int set) {
            if (!in(word, 16)) return NO_SUCH;
            if (!in(set, 4096)) return BAD_VALUE;
            record(now.copy());
            int previous = now.words[word];
            now.words[word] = set;
            return previous;
        }

        int sit(int seat, int set) {
            State before = now.copy();
            return changed(before, doSit(seat, set));
        }

        int doSit(int seat, int set) {
            if (!in(seat, 8)) return NO_SUCH;
            if (set != NONE && !in(set, 4096)) return BAD_VALUE;
            if (set != NONE) now.draws[seat] = set;
            now.players.add(seat);
            return now.players.size();
        }

        int leave(int seat) {
            State before = now.copy();
            return changed(before, doLeave(seat));
        }

        int doLeave(int seat) {
            if (!in(seat, 8)) return NO_SUCH;
            return now.players.remove(seat) ? now.players.size() : NOT_POSSIBLE;
        }

        int begin(int seat, int word) {
            State before = now.copy();
            return changed(before, doBegin(seat, word));
        }

        int doBegin(int seat, int word) {
            if (!in(seat, 8) || !in(word, 16)) return NO_SUCH;
            if (now.books.size() == 12) return TOO_MANY;
            if (!now.players.contains(seat) || now.openAlbumOf(seat) != NONE) return NOT_POSSIBLE;
            now.books.add(fresh(seat, word));
            return now.books.size() - 1;
        }

        Book fresh(int seat, int word) {
            Book book = new Book();
            book.owner = seat;
            book.pages.add(new Page(seat, word, false));
            return book;
        }

        int tell(int album, int page) {
            State before = now.copy();
            return changed(before, doTell(album, page));
        }

        int doTell(int album, int page) {
            if (!in(album, now.books.size())) return NO_SUCH;
            Book book = now.books.get(album);
            if (!in(page, book.pages.size() % 2 == 0 ? 16 : 4096)) return BAD_VALUE;
            if (book.how != 0) return NOT_POSSIBLE;
            int before = book.told == null ? 0 : 1;
            book.told = page;
            return before;
        }

        int round() {
            record(now.copy());
            now.round();
            return now.goingRound();
        }

        int clear() {
            record(now.copy());
            return doClear();
        }

        int doClear() {
            int before = now.books.size();
            now.books.removeIf(book -> book.how != 0);
            return before - now.books.size();
        }

        int of(int album, int what) {
            if (!in(album, now.books.size())) return NO_SUCH;
            if (!in(what, 9)) return BAD_VALUE;
            Book book = now.books.get(album);
            List<Integer> words = book.words();
            int changes = 0;
            for (int word = 1; word < words.size(); word++) if (!words.get(word).equals(words.get(word - 1))) changes++;
            int seats = 0;
            for (int seat = 0; seat < 8; seat++) if (book.has(seat)) seats += 1 << seat;
            int[] answers = {book.owner, book.pages.size(), book.last().seat, book.how, book.lastWord(), changes,
                book.told == null ? NONE : book.told, seats,
                now.apart(now.words[book.lastWord()], now.words[words.get(0)])};
            return answers[what];
        }

        int page(int album, int page, int what) {
            if (!in(album, now.books.size()) || !in(page, now.books.get(album).pages.size())) return NO_SUCH;
            if (!in(what, 3)) return BAD_VALUE;
            Page found = now.books.get(album).pages.get(page);
            return new int[] {found.seat, found.mark, found.told ? 1 : 0}[what];
        }

        int seat(int seat, int what) {
            if (!in(seat, 8)) return NO_SUCH;
            if (!in(what, 5)) return BAD_VALUE;
            int pages = 0;
            for (Book book : now.books) for (Page page : book.pages) if (page.seat == seat) pages++;
            return new int[] {now.players.contains(seat) ? 1 : 0, now.draws[seat], now.points[seat],
                now.openAlbumOf(seat), pages}[what];
        }

        int word(int word) {
            return in(word, 16) ? now.words[word] : NO_SUCH;
        }

        int count(int what) {
            if (!in(what, 9)) return BAD_VALUE;
            int seats = 0;
            for (int seat : now.players) seats += 1 << seat;
            int[] how = new int[3];
            for (Book book : now.books) how[book.how]++;
            return new int[] {seats, now.books.size(), how[0], how[1], how[2], now.rounds,
                Arrays.stream(now.points).sum(), pad.length(), past.size()}[what];
        }

        int guess(int drawing) {
            return in(drawing, 4096) ? now.guess(drawing) : BAD_VALUE;
        }

        int foretold(int album, int what) {
            if (!in(album, now.books.size())) return NO_SUCH;
            if (!in(what, 4)) return BAD_VALUE;
            State then = now.copy();
            Book book = then.books.get(album);
            int rounds = 0;
            for (; book.how == 0; rounds++) then.round();
            return new int[] {book.lastWord(), book.pages.size(), rounds, book.how}[what];
        }

        int bestWord(int seat, int what) {
            if (!in(seat, 8)) return NO_SUCH;
            if (!in(what, 2)) return BAD_VALUE;
            if (!now.players.contains(seat)) return NOT_POSSIBLE;
            for (int apart = 0; apart <= 12; apart++) {
                for (int word = 0; word < 16; word++) {
                    State then = now.copy();
                    Book book = fresh(seat, word);
                    then.books.add(book);
                    while (book.how == 0) then.round();
                    if (then.apart(then.words[word], then.words[book.lastWord()]) == apart) return what == 0 ? word : apart;
                }
            }
            throw new IllegalStateException();
        }

        int pointsThen(int seat) {
            if (!in(seat, 8)) return NO_SUCH;
            State then = now.copy();
            while (then.goingRound() > 0) then.round();
            return then.points[seat];
        }

        int put(long characters) {
            StringBuilder text = new StringBuilder();
            for (int index = 7; index >= 0; index--) {
                int code = (int) (characters >>> 8 * index & 255);
                if (code == 0 && text.length() == 0) continue;
                if (code < 33 || code > 126) return BAD_VALUE;
                text.append((char) code);
            }
            if (text.length() == 0) return BAD_VALUE;
            if (pad.length() + text.length() > 80) return TOO_MANY;
            pad += text;
            return pad.length();
        }

        int wipe() {
            int length = pad.length();
            pad = "";
            return length;
        }

        int fault() {
            if (TEXT.matcher(pad).matches()) return NONE;
            int length = 0;
            while (length < pad.length() && canGoOn(pad.substring(0, length + 1))) length++;
            return length;
        }

        static boolean canGoOn(String text) {
            for (String end : new String[] {"", "0", "=0", "0=0", "c"}) {
                if (TEXT.matcher(text + end).matches()) return true;
            }
            return false;
        }

        int carryOut() {
            if (fault() != NONE) return BAD_TEXT;
            record(now.copy());
            int done = 0;
            for (String order : pad.split(";")) {
                if (carryOut(order) < 0) break;
                done++;
            }
            pad = "";
            return done;
        }

        int carryOut(String order) {
            String[] parts = order.substring(1).split("=");
            int first = parts[0].isEmpty() ? 1 : Integer.parseInt(parts[0]);
            int second = parts.length > 1 ? Integer.parseInt(parts[1]) : NONE;
            switch (order.charAt(0)) {
                case '+': return doSit(first, second);
                case '-': return doLeave(first);
                case 'b': return doBegin(first, second);
                case 't': return doTell(first, second);
                case 'c': return doClear();
                default:
                    for (int round = 0; round < first; round++) now.round();
                    return 0;
            }
        }

        int undo() {
            if (past.isEmpty()) return NOT_POSSIBLE;
            now = past.remove(past.size() - 1);
            return past.size();
        }

        int save(int slot) {
            if (!in(slot, 2)) return BAD_VALUE;
            slots[slot] = now.copy();
            return now.books.size();
        }

        int restore(int slot) {
            if (!in(slot, 2)) return BAD_VALUE;
            if (slots[slot] == null) return NOT_POSSIBLE;
            record(now);
            now = slots[slot].copy();
            return now.books.size();
        }
    }
}
