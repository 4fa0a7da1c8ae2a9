import java.util.ArrayList;
import java.util.Arrays;
import java.util.List;
import java.util.Set;
import java.util.TreeSet;
import java.util.function.ToIntFunction;

// A call that returns an error changes nothing, nor does one that only asks: each is made at one of two objects with
// the same calls behind them, and then everything that can be seen of the two has to be the same: what there is now,
// behind each undo, behind restore, and behind the orders that the pad holds.
public final class RefusedCallsTest {
    private static final int NONE = -6, ALL = 4095;
    private static final int[] STRANGE = {Integer.MIN_VALUE, NONE, -1, 0, 1, 2, 5, 9, 12, 16, 4095, 4096, Integer.MAX_VALUE};

    /** Each error that a method names. */
    private static final String[] NAMED = {
        "teach -1", "teach -2", "sit -1", "sit -2", "leave -1", "leave -5", "begin -1", "begin -4", "begin -5",
        "tell -1", "tell -2", "tell -5", "of -1", "of -2", "page -1", "page -2", "seat -1", "seat -2", "word -1",
        "count -2", "guess -2", "foretold -1", "foretold -2", "bestWord -1", "bestWord -2", "bestWord -5",
        "pointsThen -1", "put -2", "put -4", "carryOut -3", "undo -5", "save -2", "restore -2", "restore -5"};

    private static final Set<String> CHANGES =
        Set.of("teach", "sit", "leave", "begin", "tell", "round", "clear", "carryOut", "restore");
    private static final Set<String> ASKING =
        Set.of("of", "page", "seat", "word", "count", "guess", "foretold", "bestWord", "pointsThen", "fault");

    private static final int STATES = 7;
    private static final Set<String> seen = new TreeSet<>();
    private static int wrong = 0;

    public static void main(String[] args) {
        checkCounts(0, 0, 0, 0);
        checkCounts(3, 12, 80, 6);
        checkCounts(4, 12, 80, 6);
        for (int state = 0; state < STATES; state++) checkState(state);
        for (String named : NAMED) {
            if (!seen.contains(named)) fault("no state answered " + named);
        }
        for (String each : seen) {
            if (!Arrays.asList(NAMED).contains(each)) fault("no method names " + each);
        }
        System.out.println(wrong == 0 ? "refused calls change nothing" : wrong + " faults");
        if (wrong != 0) System.exit(1);
    }

    private static void fault(String text) {
        wrong++;
        System.out.println(text);
    }

    // ---- the states

    private static DoodleAlbums state(int number) {
        DoodleAlbums x = new DoodleAlbums();
        switch (number) {
            case 0: return x;
            case 1: return halfway(x, "r;+8");
            case 2: return halfway(x, "r;-0;-0");
            case 3: return full(x, "c;".repeat(39) + "r9");
            case 4: return full(x, "c;".repeat(40));
            case 5: return atFullTable(x);
            default: return nearHome(x);
        }
    }

    /** One album home, one stranded, one that goes round with a page that is told; one slot is filled. */
    private static DoodleAlbums halfway(DoodleAlbums x, String text) {
        x.sit(0, ALL);
        x.begin(0, 3);
        x.round();
        x.begin(0, 4);
        x.leave(0);
        x.sit(1, 77);
        x.save(1);
        x.round();
        x.round();
        x.sit(0, 5);
        x.begin(1, 7);
        x.tell(2, 15);
        write(x, text);
        x.undo();
        x.undo();
        x.begin(1, 9);
        x.tell(2, 0);
        return x;
    }

    /** 12 albums, one of them stranded and two that go round, 6 changes, both slots filled, and 80 characters. */
    private static DoodleAlbums full(DoodleAlbums x, String text) {
        x.sit(2, 9);
        x.begin(2, 3);
        x.leave(2);
        x.round();
        x.sit(2, ALL);
        for (int album = 0; album < 9; album++) {
            x.begin(2, album);
            x.round();
        }
        x.save(0);
        x.sit(7, ALL);
        x.begin(2, 12);
        x.begin(7, 14);
        x.save(1);
        x.round();
        x.tell(10, 12);
        x.teach(15, 0);
        write(x, text);
        return x;
    }

    /** All players sit at the table, and albums go round with many pages. */
    private static DoodleAlbums atFullTable(DoodleAlbums x) {
        for (int seat = 0; seat < 8; seat++) x.sit(seat, ALL >> seat);
        for (int seat = 0; seat < 3; seat++) x.begin(seat, 5 + seat);
        for (int round = 0; round < 6; round++) x.round();
        x.tell(1, ALL);
        x.tell(2, 1);
        x.tell(2, 2);
        x.save(0);
        write(x, "r;c;+7=0");
        return x;
    }

    /** There are points, some pages were told, and the next round brings one album home and a word back. */
    private static DoodleAlbums nearHome(DoodleAlbums x) {
        for (int seat = 5; seat < 8; seat++) x.sit(seat, ALL);
        x.begin(5, 5);
        x.begin(7, 2);
        x.tell(0, 0);
        x.round();
        x.save(1);
        x.begin(6, 15);
        x.tell(0, 5);
        x.round();
        write(x, "r");
        return x;
    }

    private static void write(DoodleAlbums x, String text) {
        for (int from = 0; from < text.length(); from += 8) {
            long characters = 0;
            for (char sign : text.substring(from, Math.min(from + 8, text.length())).toCharArray()) {
                characters = characters << 8 | sign;
            }
            x.put(characters);
        }
    }

    /** The empty state and the full ones are worth something only if they are. */
    private static void checkCounts(int state, int albums, int signs, int changes) {
        DoodleAlbums x = state(state);
        if (x.count(1) != albums || x.count(7) != signs || x.count(8) != changes) {
            fault("state " + state + " has " + x.count(1) + " albums, " + x.count(7) + " signs, " + x.count(8) + " changes");
        }
    }

    // ---- the calls

    private static final class Call {
        final String name;
        final String text;
        final ToIntFunction<DoodleAlbums> call;

        Call(String name, String text, ToIntFunction<DoodleAlbums> call) {
            this.name = name;
            this.text = name + "(" + text + ")";
            this.call = call;
        }
    }

    private static List<Call> calls() {
        List<Call> calls = new ArrayList<>();
        for (int first : STRANGE) {
            String one = "" + first;
            calls.add(new Call("leave", one, x -> x.leave(first)));
            calls.add(new Call("word", one, x -> x.word(first)));
            calls.add(new Call("count", one, x -> x.count(first)));
            calls.add(new Call("guess", one, x -> x.guess(first)));
            calls.add(new Call("pointsThen", one, x -> x.pointsThen(first)));
            calls.add(new Call("save", one, x -> x.save(first)));
            calls.add(new Call("restore", one, x -> x.restore(first)));
            for (int second : STRANGE) {
                String two = first + ", " + second;
                calls.add(new Call("teach", two, x -> x.teach(first, second)));
                calls.add(new Call("sit", two, x -> x.sit(first, second)));
                calls.add(new Call("begin", two, x -> x.begin(first, second)));
                calls.add(new Call("tell", two, x -> x.tell(first, second)));
                calls.add(new Call("of", two, x -> x.of(first, second)));
                calls.add(new Call("seat", two, x -> x.seat(first, second)));
                calls.add(new Call("foretold", two, x -> x.foretold(first, second)));
                calls.add(new Call("bestWord", two, x -> x.bestWord(first, second)));
                calls.add(new Call("page", two + ", 3", x -> x.page(first, second, 3)));
                calls.add(new Call("page", two + ", 0", x -> x.page(first, second, 0)));
            }
        }
        calls.add(new Call("tell", "10, 16", x -> x.tell(10, 16)));
        calls.add(new Call("round", "", x -> x.round()));
        calls.add(new Call("clear", "", x -> x.clear()));
        calls.add(new Call("wipe", "", x -> x.wipe()));
        calls.add(new Call("fault", "", x -> x.fault()));
        calls.add(new Call("carryOut", "", x -> x.carryOut()));
        calls.add(new Call("undo", "", x -> x.undo()));
        for (long characters : new long[] {0, 'c', 'c' << 8, 32, 127, -1, Long.MIN_VALUE, Long.MAX_VALUE, 'c' << 16 | 'c'}) {
            calls.add(new Call("put", "" + characters, x -> x.put(characters)));
        }
        return calls;
    }

    // ---- what can be seen

    private static List<Integer> visible(DoodleAlbums x) {
        List<Integer> view = new ArrayList<>();
        for (int what = 0; what < 9; what++) view.add(x.count(what));
        for (int word = 0; word < 16; word++) view.add(x.word(word));
        for (int seat = 0; seat < 8; seat++) {
            for (int what = 0; what < 5; what++) view.add(x.seat(seat, what));
            view.add(x.pointsThen(seat));
        }
        for (int album = 0; album < x.count(1); album++) {
            for (int what = 0; what < 9; what++) view.add(x.of(album, what));
            for (int page = 0; page < x.of(album, 1); page++) {
                for (int what = 0; what < 3; what++) view.add(x.page(album, page, what));
            }
            view.add(x.foretold(album, 0));
        }
        view.add(x.fault());
        return view;
    }

    /** The ways in which what is hidden comes to light. Each is gone by itself, as it changes the object. */
    private static List<ToIntFunction<DoodleAlbums>> ways() {
        List<ToIntFunction<DoodleAlbums>> ways = new ArrayList<>();
        ways.add(x -> 0);
        for (int times = 1; times <= 7; times++) {
            int undone = times;
            ways.add(x -> {
                int answer = 0;
                for (int time = 0; time < undone; time++) answer = x.undo();
                return answer;
            });
        }
        ways.add(x -> x.restore(0));
        ways.add(x -> x.restore(1));
        ways.add(x -> x.carryOut());
        ways.add(x -> x.put('c'));
        return ways;
    }

    private static List<List<Integer>> everything(int state, ToIntFunction<DoodleAlbums> call) {
        List<List<Integer>> all = new ArrayList<>();
        for (ToIntFunction<DoodleAlbums> way : ways()) {
            DoodleAlbums x = state(state);
            if (call != null) call.applyAsInt(x);
            int answer = way.applyAsInt(x);
            List<Integer> view = visible(x);
            view.add(answer);
            all.add(view);
        }
        return all;
    }

    // ---- the check

    private static boolean isError(int answer) {
        return answer < 0 && answer != NONE;
    }

    private static void checkState(int state) {
        List<List<Integer>> before = everything(state, null);
        for (Call call : calls()) {
            int answer = call.call.applyAsInt(state(state));
            boolean error = isError(answer);
            if (error) seen.add(call.name + " " + answer);
            if (error || ASKING.contains(call.name)) {
                if (!everything(state, call.call).equals(before)) {
                    fault("state " + state + ": " + call.text + " answered " + answer + " and changed something");
                }
            } else if (CHANGES.contains(call.name)) {
                checkUndone(state, call);
            }
        }
    }

    /** A change and undo leave all as it was, but the pad and the number of changes that can be undone. */
    private static void checkUndone(int state, Call call) {
        DoodleAlbums before = state(state);
        DoodleAlbums x = state(state);
        call.call.applyAsInt(x);
        int left = x.undo();
        int due = Math.min(before.count(8), 5);
        if (left != due) fault("state " + state + ": undo() behind " + call.text + " answered " + left + ", due is " + due);
        if (!seenOf(x).equals(seenOf(before))) fault("state " + state + ": " + call.text + " is not undone");
    }

    private static List<Integer> seenOf(DoodleAlbums x) {
        x.wipe();
        List<Integer> view = visible(x);
        view.set(8, 0);
        return view;
    }
}
