import java.util.ArrayList;
import java.util.List;
import java.util.Random;

// What the document says of a whole game, at each step of games that are played to their end. Each step is looked at on
// an object of its own with the same calls behind it, so that no object is used for more than 512 calls.
public final class PlayedTest {
    private static final int NONE = -6, SEATS = 8, GAMES = 400;
    /** An album takes at most 8 rounds to its end: 7 pages behind the first one, and the round that ends it. */
    private static final int MOST_ROUNDS = 8;

    private static int game = 0;
    private static int wrong = 0;
    private static int homeWithPoints = 0, stranded = 0, told = 0, longest = 0;

    public static void main(String[] args) {
        for (game = 0; game < GAMES && wrong < 20; game++) {
            for (int step = 0; step < MOST_ROUNDS; step++) {
                rounds(step);
                pages(step);
                points(step);
                foretold(step);
                pointsThen(step);
            }
            ended();
            savedAndRestored();
            undone();
        }
        boolean reached = homeWithPoints > 0 && stranded > 0 && told > 0 && longest == SEATS;
        if (!reached) System.out.println("the games do not reach all that they have to");
        System.out.println(wrong == 0 && reached ? GAMES + " games go as the document says" : wrong + " answers are not as due");
        if (wrong != 0 || !reached) System.exit(1);
    }

    private static void due(String what, int got, int want) {
        if (got != want) {
            wrong++;
            System.out.println("game " + game + ": " + what + ": " + got + ", due is " + want);
        }
    }

    // ---- the games

    /** The state of the game in which its last rounds begin: only rounds are made from there on. */
    private static DoodleAlbums start() {
        Random random = new Random(game);
        DoodleAlbums x = new DoodleAlbums();
        for (int word = random.nextInt(8); word > 0; word--) x.teach(random.nextInt(16), random.nextInt(4096));
        boolean full = random.nextInt(3) == 0;
        for (int seat = 0; seat < SEATS; seat++) {
            if (full || random.nextInt(4) > 0) x.sit(seat, drawable(random));
        }
        for (int turn = random.nextInt(4); turn >= 0; turn--) {
            for (int seat = 0; seat < SEATS; seat++) {
                if (random.nextBoolean()) x.begin(seat, random.nextInt(16));
            }
            if (random.nextBoolean()) x.round();
        }
        if (!full) {
            for (int times = random.nextInt(3); times > 0; times--) x.leave(random.nextInt(SEATS));
            if (random.nextBoolean()) x.sit(random.nextInt(SEATS), NONE);
        }
        for (int album = 0; album < x.count(1); album++) {
            if (random.nextInt(3) == 0) x.tell(album, random.nextInt(16));
        }
        return x;
    }

    private static int drawable(Random random) {
        return random.nextInt(3) == 0 ? random.nextInt(4096) : 4095;
    }

    private static DoodleAlbums behind(int rounds) {
        DoodleAlbums x = start();
        for (int round = 0; round < rounds; round++) x.round();
        return x;
    }

    private static List<Integer> view(DoodleAlbums x) {
        List<Integer> view = new ArrayList<>();
        for (int what = 0; what < 7; what++) view.add(x.count(what));
        for (int word = 0; word < 16; word++) view.add(x.word(word));
        for (int seat = 0; seat < SEATS; seat++) {
            for (int what = 0; what < 5; what++) view.add(x.seat(seat, what));
        }
        for (int album = 0; album < x.count(1); album++) {
            for (int what = 0; what < 9; what++) view.add(x.of(album, what));
        }
        return view;
    }

    // ---- what holds at each step

    /** Which albums go on, and to which seats. */
    private static void rounds(int step) {
        DoodleAlbums before = behind(step);
        DoodleAlbums x = behind(step);
        int left = x.round();
        due("the rounds", x.count(5), before.count(5) + 1);
        due("round()", left, x.count(2));
        due("all albums", x.count(2) + x.count(3) + x.count(4), before.count(1));
        for (int album = 0; album < x.count(1); album++) {
            int pages = before.of(album, 1);
            int next = nextSeat(before, album);
            boolean goesOn = before.of(album, 3) == 0 && next != NONE;
            due("the pages of " + album, x.of(album, 1), goesOn ? pages + 1 : pages);
            due("the seat of " + album, x.of(album, 2), goesOn ? next : before.of(album, 2));
            int ended = before.seat(before.of(album, 0), 0) == 1 ? 1 : 2;
            boolean ends = before.of(album, 3) == 0 && next == NONE;
            due("how " + album + " is", x.of(album, 3), ends ? ended : before.of(album, 3));
            due("the page told for " + album, x.of(album, 6), goesOn ? NONE : before.of(album, 6));
            longest = Math.max(longest, x.of(album, 1));
        }
    }

    private static int nextSeat(DoodleAlbums x, int album) {
        int seat = x.of(album, 2);
        for (int step = 1; step < SEATS; step++) {
            seat = seat == 7 ? 0 : seat + 1;
            if (x.seat(seat, 0) == 1 && (x.of(album, 7) & 1 << seat) == 0) return seat;
        }
        return NONE;
    }

    /** Behind a word comes a drawing, behind a drawing a word, and which one. */
    private static void pages(int step) {
        DoodleAlbums before = behind(step);
        DoodleAlbums x = behind(step + 1);
        int[] features = features(x);
        for (int album = 0; album < x.count(1); album++) {
            int last = x.of(album, 1) - 1;
            due("the first page of " + album, x.page(album, 0, 0), x.of(album, 0));
            if (before.of(album, 1) > last) continue;
            String name = "page " + last + " of " + album;
            int ahead = x.page(album, last - 1, 1);
            int expected = before.of(album, 6);
            due(name + " is told", x.page(album, last, 2), expected == NONE ? 0 : 1);
            if (expected != NONE) {
                told++;
            } else if (last % 2 == 0) {
                expected = mostLike(features, ahead);
                due("guess(" + ahead + ")", x.guess(ahead), expected);
            } else {
                expected = features[ahead] & x.seat(x.page(album, last, 0), 1);
            }
            due(name, x.page(album, last, 1), expected);
            for (int page = 0; page < last; page++) {
                for (int what = 0; what < 3; what++) {
                    due("page " + page + " of " + album + " stays", x.page(album, page, what), before.page(album, page, what));
                }
            }
        }
    }

    private static int[] features(DoodleAlbums x) {
        int[] features = new int[16];
        for (int word = 0; word < 16; word++) features[word] = x.word(word);
        return features;
    }

    private static int mostLike(int[] features, int drawing) {
        int best = 0;
        for (int word = 1; word < 16; word++) {
            if (Integer.bitCount(features[word] ^ drawing) < Integer.bitCount(features[best] ^ drawing)) best = word;
        }
        return best;
    }

    private static void points(int step) {
        DoodleAlbums before = behind(step);
        DoodleAlbums x = behind(step + 1);
        int[] points = new int[SEATS];
        int all = 0;
        for (int seat = 0; seat < SEATS; seat++) points[seat] = before.seat(seat, 2);
        for (int album = 0; album < x.count(1); album++) {
            int pages = x.of(album, 1);
            boolean wordCame = pages > before.of(album, 1) && pages % 2 == 1;
            if (wordCame && x.page(album, pages - 1, 1) == x.page(album, pages - 3, 1)) {
                points[x.page(album, pages - 2, 0)]++;
                points[x.page(album, pages - 1, 0)]++;
            }
            boolean cameHome = before.of(album, 3) == 0 && x.of(album, 3) == 1;
            if (cameHome && pages >= 3 && x.of(album, 4) == x.page(album, 0, 1)) {
                points[x.of(album, 0)] += 2;
                homeWithPoints++;
            }
            if (x.of(album, 3) == 2) stranded++;
        }
        for (int seat = 0; seat < SEATS; seat++) {
            due("points of " + seat, x.seat(seat, 2), points[seat]);
            all += points[seat];
        }
        due("all points", x.count(6), all);
    }

    // ---- what is foretold comes to pass

    private static void foretold(int step) {
        DoodleAlbums x = behind(step);
        DoodleAlbums end = behind(MOST_ROUNDS);
        for (int album = 0; album < x.count(1); album++) {
            String name = " of " + album + " foretold at step " + step;
            due("the last word" + name, x.foretold(album, 0), end.of(album, 4));
            due("the pages" + name, x.foretold(album, 1), end.of(album, 1));
            due("how it is" + name, x.foretold(album, 3), end.of(album, 3));
            due("the rounds" + name, x.foretold(album, 2), roundsLeft(step, album));
        }
    }

    private static int roundsLeft(int step, int album) {
        DoodleAlbums x = behind(step);
        int rounds = 0;
        while (rounds <= MOST_ROUNDS && x.of(album, 3) == 0) {
            x.round();
            rounds++;
        }
        return rounds;
    }

    private static void pointsThen(int step) {
        DoodleAlbums x = behind(step);
        DoodleAlbums end = behind(MOST_ROUNDS);
        for (int seat = 0; seat < SEATS; seat++) {
            due("points of " + seat + " foretold at step " + step, x.pointsThen(seat), end.seat(seat, 2));
        }
    }

    // ---- what holds of a whole game

    private static void ended() {
        DoodleAlbums x = behind(MOST_ROUNDS);
        due("albums that go round at the end", x.count(2), 0);
        due("albums that are cleared", x.clear(), start().count(1));
        due("albums then", x.count(1), 0);
        for (int seat = 0; seat < SEATS; seat++) {
            due("pages of " + seat + " then", x.seat(seat, 4), 0);
            due("points of " + seat + " then", x.seat(seat, 2), behind(MOST_ROUNDS).seat(seat, 2));
        }
    }

    private static void savedAndRestored() {
        List<Integer> first = view(start());
        List<Integer> last = view(behind(MOST_ROUNDS));
        DoodleAlbums x = start();
        x.save(1);
        for (int round = 0; round < MOST_ROUNDS; round++) x.round();
        x.clear();
        x.teach(3, 77);
        x.sit(5, 99);
        x.restore(1);
        due("all is as it was saved", view(x).equals(first) ? 1 : 0, 1);
        for (int round = 0; round < MOST_ROUNDS; round++) x.round();
        due("and goes on in the same way", view(x).equals(last) ? 1 : 0, 1);
    }

    private static void undone() {
        List<Integer> first = view(start());
        DoodleAlbums x = start();
        x.teach(3, 77);
        x.sit(5, 99);
        x.leave(5);
        x.round();
        x.clear();
        x.round();
        for (int left = 5; left >= 0; left--) due("undo()", x.undo(), left);
        due("all is as it was", view(x).equals(first) ? 1 : 0, 1);
    }
}
