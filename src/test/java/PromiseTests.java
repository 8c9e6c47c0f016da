/** One method for each promise: ordinary inputs, the edges that the document names, and wrong inputs. */
public final class PromiseTests {
    private static final int INVALID = OddUmbrellas.INVALID_ARGUMENT;
    private static final int NOT_POSSIBLE = OddUmbrellas.NOT_POSSIBLE;
    private static final int LIMIT = OddUmbrellas.LIMIT_REACHED;
    private static final int NOT_FOUND = OddUmbrellas.NOT_FOUND;
    private static final int[] WILD = {Integer.MIN_VALUE, -1000001, -2, -1, 10, 1000, Integer.MAX_VALUE};

    private static int wrong = 0;
    private static int asked = 0;
    private static String part = "";

    private static void due(String call, int got, int want) {
        asked++;
        if (got != want) {
            wrong++;
            System.out.println(part + ": " + call + " answered " + got + ", due is " + want);
        }
    }

    private static OddUmbrellas typed(OddUmbrellas x, String text) {
        x.clearText();
        for (int i = 0; i < text.length(); i++) {
            due("type " + text.charAt(i), x.type(text.charAt(i)), i + 1);
        }
        return x;
    }

    private static void dueFault(OddUmbrellas x, String text, int place, int reason, int cause) {
        typed(x, text);
        due("fault(0) of " + text, x.fault(0), place);
        due("fault(1) of " + text, x.fault(1), reason);
        due("fault(2) of " + text, x.fault(2), cause);
        due("play of " + text, x.play(), NOT_POSSIBLE);
    }

    private static void dueNoFault(OddUmbrellas x, String text) {
        typed(x, text);
        for (int what = 0; what <= 2; what++) {
            due("fault(" + what + ") of " + text, x.fault(what), NOT_FOUND);
        }
    }

    private static void finds(OddUmbrellas x, int many) {
        for (int i = 0; i < many; i++) {
            x.find(0, 0, 0, 0);
        }
    }

    public static void main(String[] args) {
        newObject();
        find();
        claim();
        tell();
        drop();
        weeks();
        weeksLimit();
        hand();
        set();
        umbrella();
        claimOf();
        points();
        having();
        book();
        why();
        whyFourth();
        ifTold();
        oddest();
        ifWeeks();
        mean();
        count();
        undo();
        undoOfAll();
        type();
        clearText();
        fault();
        faultOfCalls();
        play();
        constants();
        System.out.println(wrong == 0 ? "PromiseTests: all " + asked + " answers are as due" : "PromiseTests: " + wrong + " answers are not as due");
        if (wrong != 0) {
            System.exit(1);
        }
    }

    private static void newObject() {
        part = "1 new";
        OddUmbrellas x = new OddUmbrellas();
        for (int what = 0; what <= 14; what++) {
            due("count " + what, x.count(what), 0);
        }
        int[] settings = {1, 4, 2, 8, 1, 6, 5};
        for (int i = 0; i < 7; i++) {
            due("setting " + i, x.count(20 + i), settings[i]);
        }
        due("undo", x.undo(), NOT_POSSIBLE);
        due("oddest", x.oddest(), NOT_FOUND);
        due("fault", x.fault(0), NOT_FOUND);
        due("umbrella", x.umbrella(0, 0), INVALID);
        due("claimOf", x.claimOf(0, 4), INVALID);
        due("book", x.book(0, 0), NOT_FOUND);
        OddUmbrellas y = new OddUmbrellas();
        x.find(1, 2, 3, 4);
        x.set(0, 3);
        due("another object", y.count(1), 0);
        due("another object's setting", y.count(20), 1);
    }

    private static void find() {
        part = "2 find";
        OddUmbrellas x = new OddUmbrellas();
        for (int w : WILD) {
            due("first " + w, x.find(w, 0, 0, 0), INVALID);
            due("second " + w, x.find(0, w, 0, 0), INVALID);
            due("third " + w, x.find(0, 0, w, 0), INVALID);
            due("fourth " + w, x.find(0, 0, 0, w), INVALID);
        }
        due("states", x.count(13), 0);
        due("find", x.find(0, 9, 1, 8), 0);
        due("find", x.find(9, 0, 8, 1), 1);
        int[] values = {0, 9, 1, 8, 0};
        for (int what = 0; what < 5; what++) {
            due("umbrella(0, " + what + ")", x.umbrella(0, what), values[what]);
        }
        for (int i = 2; i < 12; i++) {
            due("find", x.find(1, 1, 1, 1), i);
        }
        due("the 13th", x.find(1, 1, 1, 1), LIMIT);
        due("wrong ahead of limit", x.find(1, 1, 1, 10), INVALID);
        due("found", x.count(5), 12);
        due("there", x.count(1), 12);
        due("states", x.count(13), 4);
        due("weeks", x.weeks(6), 12);
        due("numbers from 0 again", x.find(1, 1, 1, 1), 0);
        due("found", x.count(5), 13);
    }

    private static void claim() {
        part = "3 claim";
        OddUmbrellas x = new OddUmbrellas();
        for (int w : WILD) {
            if (w != -1) {
                due("first " + w, x.claim(w, 0, 0, 0), INVALID);
                due("second " + w, x.claim(0, w, 0, 0), INVALID);
                due("third " + w, x.claim(0, 0, w, 0), INVALID);
                due("fourth " + w, x.claim(-1, -1, -1, w), INVALID);
            }
        }
        due("none told", x.claim(-1, -1, -1, -1), NOT_POSSIBLE);
        due("came", x.count(6), 0);
        due("states", x.count(13), 0);
        due("claim", x.claim(-1, 9, 0, -1), 0);
        due("told", x.claimOf(0, 0), NOT_FOUND);
        due("told", x.claimOf(0, 1), 9);
        due("told", x.claimOf(0, 2), 0);
        due("told", x.claimOf(0, 3), NOT_FOUND);
        due("age", x.claimOf(0, 4), 0);
        due("doubts", x.claimOf(0, 7), 0);
        due("only the first", x.claim(3, -1, -1, -1), 1);
        due("only the second", x.claim(-1, 3, -1, -1), 2);
        due("only the third", x.claim(-1, -1, 3, -1), 3);
        due("only the fourth", x.claim(-1, -1, -1, 3), 4);
        for (int i = 5; i < 12; i++) {
            due("claim", x.claim(1, 2, 3, 4), i);
        }
        due("the 13th", x.claim(1, 2, 3, 4), LIMIT);
        due("not possible ahead of limit", x.claim(-1, -1, -1, -1), NOT_POSSIBLE);
        due("wrong ahead of all", x.claim(-1, -1, -1, -2), INVALID);
        due("came", x.count(6), 12);
        due("there", x.count(2), 12);
    }

    private static void tell() {
        part = "4 tell";
        OddUmbrellas x = new OddUmbrellas();
        due("no claim", x.tell(0, 0, 0), INVALID);
        x.claim(5, -1, -1, -1);
        for (int w : WILD) {
            due("claim " + w, x.tell(w, 0, 0), INVALID);
            due("detail " + w, x.tell(0, w, 0), INVALID);
            due("value " + w, x.tell(0, 0, w), INVALID);
        }
        due("no claim 1", x.tell(1, 0, 0), INVALID);
        due("no detail 4", x.tell(0, 4, 0), INVALID);
        due("states", x.count(13), 1);
        due("not told before", x.tell(0, 1, 0), 0);
        due("the same", x.tell(0, 0, 5), 0);
        due("another", x.tell(0, 0, 6), 1);
        due("back", x.tell(0, 0, 5), 2);
        due("the same", x.tell(0, 0, 5), 2);
        due("another of 0", x.tell(0, 1, 9), 3);
        due("doubts", x.claimOf(0, 7), 3);
        due("told", x.claimOf(0, 1), 9);
        due("fresh claim", x.claim(-1, -1, -1, 9), 1);
        due("its doubts", x.claimOf(1, 7), 0);
        due("told of it", x.tell(1, 3, 0), 1);
        due("of the other one", x.claimOf(0, 7), 3);
    }

    private static void drop() {
        part = "5 drop";
        OddUmbrellas x = new OddUmbrellas();
        due("none", x.drop(0), INVALID);
        x.claim(1, -1, -1, -1);
        x.claim(2, -1, -1, -1);
        x.tell(1, 0, 7);
        x.claim(3, -1, -1, -1);
        for (int w : WILD) {
            due("drop " + w, x.drop(w), INVALID);
        }
        due("drop 3", x.drop(3), INVALID);
        due("drop 0", x.drop(0), 2);
        due("number 0 now", x.claimOf(0, 0), 7);
        due("its doubts", x.claimOf(0, 7), 1);
        due("number 1 now", x.claimOf(1, 0), 3);
        due("doubts", x.claimOf(1, 7), 0);
        due("drop the last", x.drop(1), 1);
        due("drop", x.drop(0), 0);
        due("drop", x.drop(0), INVALID);
        due("dropped", x.count(11), 3);
        due("lapsed", x.count(9), 0);
        due("entries", x.count(12), 0);
        due("came", x.count(6), 3);
    }

    private static void weeks() {
        part = "6 weeks";
        OddUmbrellas x = new OddUmbrellas();
        for (int w : WILD) {
            due("weeks " + w, x.weeks(w), w == 10 ? 0 : INVALID);
        }
        due("weeks(0)", x.weeks(0), INVALID);
        due("weeks(21)", x.weeks(21), INVALID);
        due("gone by", x.count(0), 10);
        x.find(1, 1, 1, 1);
        x.claim(1, -1, -1, -1);
        due("three weeks", x.weeks(3), 0);
        x.find(2, 2, 2, 2);
        x.claim(2, -1, -1, -1);
        due("age", x.umbrella(0, 4), 3);
        due("age", x.umbrella(1, 4), 0);
        due("age", x.claimOf(0, 4), 3);
        due("two more", x.weeks(2), 0);
        due("one more", x.weeks(1), 1);
        due("sold", x.count(8), 1);
        due("lapsed", x.count(9), 1);
        due("coins", x.count(10), 5);
        due("left", x.umbrella(0, 0), 2);
        due("left", x.umbrella(0, 4), 3);
        due("left", x.claimOf(0, 0), 2);
        due("left", x.claimOf(0, 4), 3);
        x.set(5, 2);
        due("not sold by the setting", x.count(1), 1);
        x.set(6, 20);
        due("too old by then", x.weeks(1), 1);
        due("age in the book", x.book(1, 2), 4);
        due("coins in the book", x.book(1, 3), 20);
        due("coins", x.count(10), 25);
        due("of no umbrellas", x.weeks(20), 0);
        due("gone by", x.count(0), 37);
        finds(x, 3);
        x.set(5, 20);
        due("19 weeks", x.weeks(19), 0);
        due("the 20th", x.weeks(1), 3);
        x.set(5, 1);
        finds(x, 2);
        due("at once", x.weeks(1), 2);
    }

    private static void weeksLimit() {
        part = "6 weeks, limit";
        OddUmbrellas x = new OddUmbrellas();
        for (int i = 0; i < 49; i++) {
            due("weeks(20)", x.weeks(20), 0);
        }
        x.find(1, 1, 1, 1);
        due("1000 weeks", x.weeks(20), LIMIT);
        due("wrong ahead of limit", x.weeks(21), INVALID);
        due("nothing changed", x.umbrella(0, 4), 0);
        due("nothing changed", x.count(0), 980);
        due("nothing is limited in what would be", x.ifWeeks(20, 0), 1);
        due("999 weeks", x.weeks(19), 1);
        due("gone by", x.count(0), 999);
        due("one more", x.weeks(1), LIMIT);
        x.find(1, 1, 1, 1);
        due("what would be", x.ifWeeks(6, 0), 1);
        dueFault(x, "hand;week 1;", 5, 2, LIMIT);
    }

    private static void hand() {
        part = "7 hand";
        OddUmbrellas x = new OddUmbrellas();
        due("nothing", x.hand(), 0);
        due("a change all the same", x.count(13), 1);
        x.set(4, 3);
        x.set(3, 12);
        x.find(0, 0, 0, 0);
        x.weeks(2);
        x.find(0, 1, 1, 1);
        x.find(5, 5, 5, 5);
        x.weeks(1);
        x.claim(5, 5, 5, 5);
        x.claim(0, -1, -1, -1);
        x.claim(-1, 0, 0, 0);
        // The claim 1 has 11 points with either umbrella until the umbrella 0 is gone.
        due("matched", x.count(3), 2);
        due("handed out as matched at the beginning", x.hand(), 2);
        due("umbrellas", x.count(1), 1);
        due("claims", x.count(2), 1);
        due("which", x.umbrella(0, 1), 1);
        due("which", x.claimOf(0, 0), 0);
        due("handed out", x.count(7), 2);
        due("sold", x.count(8), 0);
        due("dropped", x.count(11), 0);
        due("coins", x.count(10), 12);
        due("by the numbers of the umbrellas: the latest", x.book(0, 3), 3);
        due("and the one before", x.book(1, 3), 9);
        due("kind", x.book(0, 1), 0);
        due("weeks", x.book(0, 0), 3);
        due("age", x.book(1, 2), 3);
        due("now matched", x.count(3), 1);
        due("hand", x.hand(), 1);
        due("hand", x.hand(), 0);
        due("handed out", x.count(7), 3);
    }

    private static void set() {
        part = "8 set";
        int[] least = {0, 0, 0, 1, 0, 1, 1};
        int[] greatest = {3, 20, 20, 48, 9, 20, 20};
        int[] first = {1, 4, 2, 8, 1, 6, 5};
        OddUmbrellas x = new OddUmbrellas();
        for (int what = 0; what < 7; what++) {
            due("below " + what, x.set(what, least[what] - 1), INVALID);
            due("above " + what, x.set(what, greatest[what] + 1), INVALID);
            due("lowest", x.set(what, Integer.MIN_VALUE), INVALID);
            due("highest", x.set(what, Integer.MAX_VALUE), INVALID);
            due("as it was", x.count(20 + what), first[what]);
            due("least " + what, x.set(what, least[what]), first[what]);
            due("greatest " + what, x.set(what, greatest[what]), least[what]);
            due("the same again", x.set(what, greatest[what]), greatest[what]);
            due("as set", x.count(20 + what), greatest[what]);
        }
        due("what -1", x.set(-1, 1), INVALID);
        due("what 7", x.set(7, 1), INVALID);
        due("what lowest", x.set(Integer.MIN_VALUE, 1), INVALID);
        due("what highest", x.set(Integer.MAX_VALUE, 1), INVALID);
    }

    private static OddUmbrellas small() {
        OddUmbrellas x = new OddUmbrellas();
        x.find(1, 2, 3, 4);
        x.find(1, 2, 3, 5);
        x.find(0, 9, 3, 4);
        x.claim(1, 2, -1, 4);
        x.claim(1, -1, -1, -1);
        x.claim(0, 9, -1, -1);
        return x;
    }

    private static void umbrella() {
        part = "9 umbrella";
        OddUmbrellas x = small();
        for (int w : WILD) {
            due("umbrella " + w, x.umbrella(w, 0), INVALID);
            due("what " + w, x.umbrella(0, w), INVALID);
        }
        due("what 9", x.umbrella(0, 9), INVALID);
        due("umbrella 3", x.umbrella(3, 0), INVALID);
        int[][] answers = {{1, 2, 3, 4, 2, 0, 33, 2, 43}, {1, 2, 3, 5, 2, 1, 11, 2, 44}, {0, 9, 3, 4, 2, 2, 24, 1, 45}};
        x.weeks(2);
        for (int u = 0; u < 3; u++) {
            for (int what = 0; what < 9; what++) {
                due("umbrella(" + u + ", " + what + ")", x.umbrella(u, what), answers[u][what]);
            }
        }
        x.drop(1);
        due("not matched", x.umbrella(1, 5), NOT_FOUND);
        due("not matched", x.umbrella(1, 6), NOT_FOUND);
        due("suits the claim 0", x.umbrella(1, 7), 1);
        due("the later claim is 1 less", x.umbrella(2, 5), 1);
    }

    private static void claimOf() {
        part = "10 claimOf";
        OddUmbrellas x = small();
        for (int w : WILD) {
            due("claim " + w, x.claimOf(w, 0), INVALID);
            due("what " + w, x.claimOf(0, w), INVALID);
        }
        due("what 8", x.claimOf(0, 8), INVALID);
        due("claim 3", x.claimOf(3, 0), INVALID);
        x.weeks(1);
        x.tell(2, 1, 8);
        x.tell(2, 1, 9);
        // Four points off leave the claim 2 with 20 points.
        int[][] answers = {{1, 2, NOT_FOUND, 4, 1, 0, 2, 0}, {1, NOT_FOUND, NOT_FOUND, NOT_FOUND, 1, 1, 2, 0},
            {0, 9, NOT_FOUND, NOT_FOUND, 1, 2, 1, 2}};
        for (int c = 0; c < 3; c++) {
            for (int what = 0; what < 8; what++) {
                due("claimOf(" + c + ", " + what + ")", x.claimOf(c, what), answers[c][what]);
            }
        }
        due("another claim", x.claim(7, -1, -1, -1), 3);
        due("not matched", x.claimOf(3, 5), NOT_FOUND);
        due("suits none", x.claimOf(3, 6), 0);
    }

    private static void points() {
        part = "11 points";
        OddUmbrellas x = small();
        for (int w : WILD) {
            due("umbrella " + w, x.points(w, 0), INVALID);
            due("claim " + w, x.points(0, w), INVALID);
        }
        due("umbrella 3", x.points(3, 0), INVALID);
        due("claim 3", x.points(0, 3), INVALID);
        int[][] answers = {{33, 11, -8}, {18, 11, -8}, {3, -4, 24}};
        for (int u = 0; u < 3; u++) {
            for (int c = 0; c < 3; c++) {
                due("points(" + u + ", " + c + ")", x.points(u, c), 1000 + answers[u][c]);
            }
        }
        x.set(1, 20);
        due("dear misses", x.points(2, 0), 1000 + 11 - 40);
        x.set(2, 20);
        for (int i = 1; i <= 60; i++) {
            x.tell(1, 0, i % 2 == 0 ? 1 : 2);
        }
        due("many doubts", x.points(0, 1), 1000 + 11 - 1200);
        x.set(2, 0);
        due("free doubts", x.points(0, 1), 1011);
        x.find(1, 1, 1, 1);
        due("less odd then", x.points(0, 1), 1010);
        x.find(5, 5, 5, 5);
        due("not of this value", x.points(0, 1), 1010);
        OddUmbrellas y = new OddUmbrellas();
        y.find(3, 3, 3, 3);
        y.claim(3, 3, 3, 3);
        due("the most", y.points(0, 0), 1048);
    }

    private static void having() {
        part = "12 having";
        OddUmbrellas x = small();
        for (int w : WILD) {
            due("detail " + w, x.having(w, 0), INVALID);
            due("value " + w, x.having(0, w), INVALID);
        }
        due("detail 4", x.having(4, 0), INVALID);
        due("having", x.having(0, 1), 2);
        due("having", x.having(0, 0), 1);
        due("having", x.having(0, 2), 0);
        due("having", x.having(1, 9), 1);
        due("having", x.having(2, 3), 3);
        due("having", x.having(3, 4), 2);
        due("having", x.having(3, 9), 0);
        x.hand();
        due("gone", x.having(2, 3), 0);
    }

    private static void book() {
        part = "13 book";
        OddUmbrellas x = new OddUmbrellas();
        due("empty", x.book(0, 0), NOT_FOUND);
        due("wrong ahead of not found", x.book(0, 4), INVALID);
        due("wrong ahead of not found", x.book(5, -1), INVALID);
        due("ago -1", x.book(-1, 0), INVALID);
        due("ago lowest", x.book(Integer.MIN_VALUE, 0), INVALID);
        due("ago highest", x.book(Integer.MAX_VALUE, 0), NOT_FOUND);
        due("what highest", x.book(0, Integer.MAX_VALUE), INVALID);
        x.claim(1, 1, 1, 1);
        x.claim(1, -1, -1, -1);
        x.weeks(1);
        x.find(1, 1, 1, 1);
        x.find(2, 2, 2, 2);
        x.weeks(2);
        x.hand();
        x.weeks(4);
        // Handed out after 3 weeks, the claim 1 lapsed in the 6th, the umbrella 2, 2, 2, 2 was sold in the 7th.
        int[][] entries = {{7, 1, 6, 5}, {6, 2, 6, 0}, {3, 0, 2, 2}};
        due("entries", x.count(12), 3);
        for (int ago = 0; ago < 3; ago++) {
            for (int what = 0; what < 4; what++) {
                due("book(" + ago + ", " + what + ")", x.book(ago, what), entries[ago][what]);
            }
        }
        due("ago 3", x.book(3, 0), NOT_FOUND);
        x.find(0, 0, 0, 0);
        x.claim(0, -1, -1, -1);
        x.find(9, 9, 9, 9);
        x.claim(9, -1, -1, -1);
        x.set(5, 1);
        x.weeks(1);
        int[] kinds = {2, 2, 1, 1, 1, 2, 0};
        for (int ago = 0; ago < 7; ago++) {
            due("umbrellas ahead of claims, " + ago, x.book(ago, 1), kinds[ago]);
        }
        finds(x, 4);
        x.weeks(1);
        due("the latest 10", x.count(12), 10);
        due("the oldest that is kept", x.book(9, 0), 6);
        due("no more", x.book(10, 0), NOT_FOUND);
        finds(x, 12);
        x.set(6, 7);
        x.weeks(1);
        due("the latest 10", x.count(12), 10);
        due("the oldest that is kept", x.book(9, 0), 10);
        due("coins", x.book(9, 3), 7);
    }

    private static void why() {
        part = "14 why";
        OddUmbrellas x = small();
        for (int w : WILD) {
            due("umbrella " + w, x.why(w, 0), INVALID);
            due("claim " + w, x.why(0, w), INVALID);
        }
        int[][] answers = {{0, 3, 1}, {4, 0, 1}, {1, 2, 0}};
        for (int u = 0; u < 3; u++) {
            for (int c = 0; c < 3; c++) {
                due("why(" + u + ", " + c + ")", x.why(u, c), answers[u][c]);
            }
        }
        due("umbrella 3", x.why(3, 0), INVALID);
        due("claim 3", x.why(0, 3), INVALID);
        x.set(0, 0);
        due("one miss is too many", x.why(1, 0), 1);
        x.set(0, 3);
        due("misses are free, points are few", x.why(2, 0), 2);
        x.set(3, 3);
        due("points just suffice", x.why(2, 0), 3);
        x.set(3, 4);
        due("a point is lacking", x.why(2, 0), 2);
        x.set(3, 48);
        due("none is matched any more", x.why(0, 0), 2);
    }

    private static void whyFourth() {
        part = "14 why, its fourth reason";
        OddUmbrellas x = new OddUmbrellas();
        x.find(1, 1, 1, 1);
        x.find(2, 2, 2, 2);
        x.claim(1, -1, -1, -1);
        x.claim(1, 1, -1, -1);
        // The umbrella 0 has the claim 1, which is ahead; the umbrella 1 has none.
        due("behind by its umbrella", x.why(0, 0), 3);
        x.set(0, 3);
        x.set(1, 0);
        x.claim(1, 1, 2, 2);
        x.set(3, 1);
        // Pair 1, 2 has 24 points, as pair 0, 2 and pair 0, 1; the lower umbrella, then the lower claim is ahead.
        due("matched", x.why(0, 1), 0);
        due("behind by its umbrella, with as many points", x.why(0, 2), 3);
        due("matched", x.why(1, 2), 0);
        x.tell(1, 2, 2);
        // Now pair 0, 1 still has 24 points, pair 1, 1 has 12, pair 0, 0 12 points.
        due("both are matched elsewhere: the umbrella comes first", x.why(1, 1), 3);
        x.claim(-1, 2, 2, 2);
        // Pair 1, 3 has 36 points: the claim 2 has none then.
        due("the claim is matched, the umbrella too, ahead", x.why(1, 1), 3);
        x.find(1, 1, 9, 9);
        // The values 1 are less odd now, with 11 points: the umbrella 2 has 22 points with the claims 1 and 2.
        due("the umbrella is matched behind, the claim ahead", x.why(2, 1), 4);
    }

    private static void ifTold() {
        part = "15 ifTold";
        OddUmbrellas x = small();
        for (int w : WILD) {
            due("claim " + w, x.ifTold(w, 0, 0), INVALID);
            due("detail " + w, x.ifTold(0, w, 0), INVALID);
            due("value " + w, x.ifTold(0, 0, w), INVALID);
        }
        due("claim 3", x.ifTold(3, 0, 0), INVALID);
        due("detail 4", x.ifTold(0, 4, 0), INVALID);
        due("the same stays", x.ifTold(0, 0, 1), 0);
        due("told better", x.ifTold(1, 3, 5), 1);
        due("none: 11 less 4", x.ifTold(1, 3, 4), NOT_FOUND);
        due("another one, with a doubt", x.ifTold(1, 0, 0), NOT_FOUND);
        x.drop(2);
        due("then the umbrella is free: 12 less 2", x.ifTold(1, 0, 0), 2);
        x.set(2, 5);
        due("the doubt takes 5 now", x.ifTold(1, 0, 0), NOT_FOUND);
        due("nothing is told by that", x.claimOf(1, 0), 1);
        due("nor doubted", x.claimOf(1, 7), 0);
        due("states stay", x.count(13), 4);
    }

    private static void oddest() {
        part = "16 oddest";
        OddUmbrellas x = new OddUmbrellas();
        due("none", x.oddest(), NOT_FOUND);
        x.find(1, 1, 1, 1);
        due("one", x.oddest(), 0);
        x.find(1, 1, 1, 1);
        due("the lowest of equal ones", x.oddest(), 0);
        x.find(1, 1, 2, 2);
        due("the third", x.oddest(), 2);
        x.find(3, 1, 1, 2);
        due("equal again", x.oddest(), 2);
        x.find(3, 4, 5, 6);
        due("the last", x.oddest(), 4);
        x.weeks(6);
        due("none is left", x.oddest(), NOT_FOUND);
        finds(x, 12);
        due("all alike", x.oddest(), 0);
    }

    private static void ifWeeks() {
        part = "17 ifWeeks";
        OddUmbrellas x = new OddUmbrellas();
        for (int w : WILD) {
            due("many " + w, x.ifWeeks(w, 0), w == 10 ? 0 : INVALID);
            due("what " + w, x.ifWeeks(1, w), INVALID);
        }
        due("many 0", x.ifWeeks(0, 0), INVALID);
        due("many 21", x.ifWeeks(21, 0), INVALID);
        due("what 3", x.ifWeeks(1, 3), INVALID);
        x.find(1, 1, 1, 1);
        x.claim(2, -1, -1, -1);
        x.weeks(2);
        x.find(2, 2, 2, 2);
        x.find(3, 3, 3, 3);
        x.claim(3, -1, -1, -1);
        x.claim(1, -1, -1, -1);
        int[][] answers = {{0, 0, 3}, {0, 0, 3}, {0, 0, 3}, {1, 1, 1}, {1, 1, 1}, {3, 3, 0}, {3, 3, 0}};
        for (int many = 1; many <= 7; many++) {
            for (int what = 0; what < 3; what++) {
                due("ifWeeks(" + many + ", " + what + ")", x.ifWeeks(many, what), answers[many - 1][what]);
            }
        }
        due("20", x.ifWeeks(20, 0), 3);
        due("nothing went by", x.count(0), 2);
        due("nothing is sold", x.count(1), 3);
        due("nothing in the book", x.count(12), 0);
        x.weeks(20);
        due("those that went by do not count", x.ifWeeks(20, 0), 0);
        due("those that lapsed do not count", x.ifWeeks(20, 1), 0);
    }

    private static void mean() {
        part = "18 mean";
        OddUmbrellas x = new OddUmbrellas();
        due("none", x.mean(), NOT_FOUND);
        x = small();
        due("three", x.mean(), Float.floatToIntBits(68f / 3f));
        x.drop(0);
        // Then the umbrella 0 has the claim 1, with 11 points.
        due("two", x.mean(), Float.floatToIntBits(35f / 2f));
        x.drop(1);
        due("one", x.mean(), Float.floatToIntBits(11f));
        x.drop(0);
        due("none", x.mean(), NOT_FOUND);
        OddUmbrellas y = new OddUmbrellas();
        y.find(3, 3, 3, 3);
        y.claim(3, 3, 3, 3);
        due("the most", y.mean(), Float.floatToIntBits(48f));
        OddUmbrellas z = new OddUmbrellas();
        finds(z, 12);
        z.set(3, 1);
        z.claim(0, -1, -1, -1);
        due("the least", z.mean(), Float.floatToIntBits(1f));
        int sum = 1;
        for (int i = 1; i < 12; i++) {
            z.claim(0, i % 2 == 0 ? 0 : -1, i % 3 == 0 ? 0 : -1, i % 5 == 0 ? 0 : -1);
            sum += 1 + (i % 2 == 0 ? 1 : 0) + (i % 3 == 0 ? 1 : 0) + (i % 5 == 0 ? 1 : 0);
            due("of " + (i + 1), z.mean(), Float.floatToIntBits((float) sum / (float) (i + 1)));
        }
    }

    private static void count() {
        part = "19 count";
        OddUmbrellas x = small();
        int[] wrongOnes = {Integer.MIN_VALUE, -1, 15, 16, 17, 18, 19, 27, 28, Integer.MAX_VALUE};
        for (int w : wrongOnes) {
            due("count " + w, x.count(w), INVALID);
        }
        x.claim(9, -1, -1, -1);
        x.weeks(2);
        due("pairs", x.count(3), 3);
        due("pairs, asked", x.count(4), 3);
        x.hand();
        x.find(7, 7, 7, 7);
        x.claim(8, 8, 8, 8);
        x.drop(1);
        x.set(4, 9);
        x.weeks(4);
        x.claim(8, 8, 8, 8);
        typed(x, "hello");
        // Weeks, umbrellas, claims, pairs twice, found, came, handed, sold, lapsed, coins, dropped, entries, states, signs.
        int[] answers = {6, 1, 1, 0, 0, 4, 6, 3, 0, 1, 6, 1, 4, 4, 5};
        for (int what = 0; what < answers.length; what++) {
            due("count " + what, x.count(what), answers[what]);
        }
        for (int what = 0; what < 7; what++) {
            x.set(what, what == 0 ? 2 : what + 2);
            due("setting " + what, x.count(20 + what), what == 0 ? 2 : what + 2);
        }
    }

    private static void undo() {
        part = "20 undo";
        OddUmbrellas x = new OddUmbrellas();
        due("empty", x.undo(), NOT_POSSIBLE);
        for (int i = 0; i < 6; i++) {
            x.find(i, i, i, i);
            due("states", x.count(13), i < 4 ? i + 1 : 4);
        }
        for (int i = 3; i >= 0; i--) {
            due("undo", x.undo(), i);
            due("umbrellas", x.count(1), i + 2);
            due("found", x.count(5), i + 2);
        }
        due("undo", x.undo(), NOT_POSSIBLE);
        due("umbrellas", x.count(1), 2);
        due("find", x.find(8, 8, 8, 8), 2);
        due("an error", x.find(8, 8, 8, 10), INVALID);
        due("an error", x.claim(-1, -1, -1, -1), NOT_POSSIBLE);
        due("no state of an error", x.count(13), 1);
        due("what is asked", x.ifWeeks(20, 2), 0);
        due("undo", x.undo(), 0);
        due("value", x.umbrella(1, 0), 1);
        due("umbrella 2", x.umbrella(2, 0), INVALID);
    }

    private static void undoOfAll() {
        part = "20 undo of all changes";
        OddUmbrellas x = small();
        x.weeks(3);
        x.tell(1, 0, 2);
        typed(x, "week 20;");
        due("undo tell", x.undo(), 3);
        due("value", x.claimOf(1, 0), 1);
        due("doubts", x.claimOf(1, 7), 0);
        due("undo weeks", x.undo(), 2);
        due("weeks", x.count(0), 0);
        due("age", x.umbrella(0, 4), 0);
        x.hand();
        due("undo hand", x.undo(), 2);
        due("handed", x.count(7), 0);
        due("coins", x.count(10), 0);
        due("entries", x.count(12), 0);
        due("pairs", x.count(3), 3);
        x.drop(0);
        due("undo drop", x.undo(), 2);
        due("claims", x.count(2), 3);
        due("dropped", x.count(11), 0);
        x.set(0, 0);
        due("undo set", x.undo(), 2);
        due("setting", x.count(20), 1);
        x.weeks(20);
        due("undo weeks", x.undo(), 2);
        due("sold", x.count(8), 0);
        due("lapsed", x.count(9), 0);
        due("entries", x.count(12), 0);
        due("play", x.play(), 1);
        due("sold", x.count(8), 3);
        due("undo play", x.undo(), 2);
        due("sold", x.count(8), 0);
        due("the text stays", x.count(14), 8);
        x.clearText();
        due("undo claim", x.undo(), 1);
        due("the text is not brought back", x.count(14), 0);
        due("claims", x.count(2), 2);
        due("came", x.count(6), 2);
    }

    private static void type() {
        part = "21 type";
        OddUmbrellas x = new OddUmbrellas();
        due("31", x.type(31), INVALID);
        due("127", x.type(127), INVALID);
        due("lowest", x.type(Integer.MIN_VALUE), INVALID);
        due("highest", x.type(Integer.MAX_VALUE), INVALID);
        due("65536 more than a letter", x.type(65536 + 'h'), INVALID);
        due("32", x.type(32), 1);
        due("126", x.type(126), 2);
        for (int i = 3; i <= 60; i++) {
            due("type", x.type('x'), i);
        }
        due("the 61st", x.type('x'), LIMIT);
        due("wrong ahead of limit", x.type(31), INVALID);
        due("length", x.count(14), 60);
        due("no change", x.count(13), 0);
    }

    private static void clearText() {
        part = "22 clearText";
        OddUmbrellas x = new OddUmbrellas();
        due("empty", x.clearText(), 0);
        typed(x, "hand");
        due("four", x.clearText(), 4);
        due("length", x.count(14), 0);
        due("empty", x.clearText(), 0);
        due("no fault", x.fault(0), NOT_FOUND);
        due("no change", x.count(13), 0);
        typed(x, ";");
        due("nothing of the old text", x.fault(2), 0);
    }

    private static void fault() {
        part = "23 fault";
        OddUmbrellas x = new OddUmbrellas();
        for (int w : WILD) {
            due("what " + w, x.fault(w), INVALID);
        }
        due("what 3", x.fault(3), INVALID);
        String[] goods = {"", "hand;", "find 1,2,3,4;", "find 01,02,03,09;", "claim -,-,-,0;", "claim 1,-,09,-;",
            "claim 9,9,9,9;tell 0,3,8;", "claim 9,9,9,9;tell 00,03,08;", "week 20;", "week 1;week 01;", "hand;hand;hand;hand;hand;"};
        for (String good : goods) {
            dueNoFault(new OddUmbrellas(), good);
        }
        String[] orders = {"find 1,2,3,4;", "find 01,12,99,04;", "claim -,1,12,-;", "tell 12,3,4;", "week 10;", "hand;"};
        for (String order : orders) {
            for (int end = 1; end < order.length(); end++) {
                String early = order.substring(0, end);
                dueFault(new OddUmbrellas(), early, 0, 1, end);
                dueFault(new OddUmbrellas(), "hand;" + early, 5, 1, end);
                dueFault(new OddUmbrellas(), early + "!", 0, 1, end);
                dueFault(new OddUmbrellas(), "week 1;" + early + "~;hand;", 7, 1, end);
            }
        }
        dueFault(new OddUmbrellas(), " ", 0, 1, 0);
        dueFault(new OddUmbrellas(), ";", 0, 1, 0);
        dueFault(new OddUmbrellas(), "hand;;", 5, 1, 0);
        dueFault(new OddUmbrellas(), "hand; hand;", 5, 1, 0);
        dueFault(new OddUmbrellas(), "Find 1,2,3,4;", 0, 1, 0);
        dueFault(new OddUmbrellas(), "drop 0;", 0, 1, 0);
        dueFault(new OddUmbrellas(), "set 0,1;", 0, 1, 0);
        dueFault(new OddUmbrellas(), "weeks 1;", 0, 1, 4);
        dueFault(new OddUmbrellas(), "week  1;", 0, 1, 5);
        dueFault(new OddUmbrellas(), "week 100;", 0, 1, 7);
        dueFault(new OddUmbrellas(), "week -1;", 0, 1, 5);
        dueFault(new OddUmbrellas(), "week -;", 0, 1, 5);
        dueFault(new OddUmbrellas(), "week ;", 0, 1, 5);
        dueFault(new OddUmbrellas(), "week 1,2;", 0, 1, 6);
        dueFault(new OddUmbrellas(), "hand ;", 0, 1, 4);
        dueFault(new OddUmbrellas(), "hands;", 0, 1, 4);
        dueFault(new OddUmbrellas(), "find 1,2,3;", 0, 1, 10);
        dueFault(new OddUmbrellas(), "find 1,2,3,4,5;", 0, 1, 12);
        dueFault(new OddUmbrellas(), "find -,2,3,4;", 0, 1, 5);
        dueFault(new OddUmbrellas(), "find 1, 2,3,4;", 0, 1, 7);
        dueFault(new OddUmbrellas(), "find 1,,3,4;", 0, 1, 7);
        dueFault(new OddUmbrellas(), "claim --,1,1,1;", 0, 1, 7);
        dueFault(new OddUmbrellas(), "claim -1,1,1,1;", 0, 1, 7);
        dueFault(new OddUmbrellas(), "claim 1-,1,1,1;", 0, 1, 7);
        dueFault(new OddUmbrellas(), "claim 1,2,3;", 0, 1, 11);
        dueFault(new OddUmbrellas(), "claim ,1,1,1;", 0, 1, 6);
        dueFault(new OddUmbrellas(), "tell 0,0;", 0, 1, 8);
        dueFault(new OddUmbrellas(), "tell 0,0,-;", 0, 1, 9);
        dueFault(new OddUmbrellas(), "tell 0,0,0,0;", 0, 1, 10);
        dueFault(x, "find 1,1,1,1;find", 13, 1, 4);
        due("nothing changed", x.count(13), 0);
        due("nothing changed", x.count(1), 0);
    }

    private static void faultOfCalls() {
        part = "23 fault, of calls";
        OddUmbrellas x = new OddUmbrellas();
        dueFault(x, "find 1,2,3,10;", 0, 2, INVALID);
        dueFault(x, "hand;find 99,0,0,0;x", 5, 2, INVALID);
        dueFault(x, "claim -,-,-,-;", 0, 2, NOT_POSSIBLE);
        dueFault(x, "claim -,-,-,10;", 0, 2, INVALID);
        dueFault(x, "tell 0,0,0;", 0, 2, INVALID);
        dueFault(x, "claim 1,-,-,-;tell 1,0,0;", 14, 2, INVALID);
        dueFault(x, "claim 1,-,-,-;tell 0,4,0;", 14, 2, INVALID);
        dueFault(x, "claim 1,-,-,-;tell 0,0,10;", 14, 2, INVALID);
        dueFault(x, "week 0;", 0, 2, INVALID);
        dueFault(x, "week 21;", 0, 2, INVALID);
        dueFault(x, "claim 1,-,-,-;week 6;tell 0,0,0;", 21, 2, INVALID);
        dueFault(x, "find 1,1,1,1;claim 1,1,-,-;hand;tell 0,0,1;", 32, 2, INVALID);
        dueFault(x, "week 0;x", 0, 2, INVALID);
        dueFault(x, "x;week 0;", 0, 1, 0);
        finds(x, 11);
        dueNoFault(x, "find 1,1,1,1;");
        dueFault(x, "find 1,1,1,1;find 1,1,1,1;", 13, 2, LIMIT);
        dueNoFault(x, "find 1,1,1,1;week 6;find 1,1,1,1;");
        for (int i = 0; i < 12; i++) {
            x.claim(0, -1, -1, -1);
        }
        dueFault(x, "claim 0,-,-,-;", 0, 2, LIMIT);
        dueFault(x, "claim -,-,-,-;", 0, 2, NOT_POSSIBLE);
        due("the text stays", x.count(14), 14);
        due("the office stays", x.count(1), 11);
    }

    private static void play() {
        part = "24 play";
        OddUmbrellas x = new OddUmbrellas();
        due("no orders", x.play(), 0);
        due("a change all the same", x.count(13), 1);
        due("undo", x.undo(), 0);
        typed(x, "find 1,02,3,4;claim 1,-,3,-;tell 0,1,2;tell 0,0,9;week 2;");
        due("play", x.play(), 5);
        due("one change", x.count(13), 1);
        due("the text stays", x.count(14), 57);
        due("value", x.umbrella(0, 1), 2);
        due("told", x.claimOf(0, 0), 9);
        due("told", x.claimOf(0, 1), 2);
        due("told", x.claimOf(0, 3), NOT_FOUND);
        due("doubts", x.claimOf(0, 7), 1);
        due("age", x.umbrella(0, 4), 2);
        typed(x, "hand;");
        due("play", x.play(), 1);
        due("handed out", x.count(7), 1);
        due("coins", x.count(10), 2);
        due("play again", x.play(), 1);
        due("handed out", x.count(7), 1);
        typed(x, "find 1,1,1,1;hand");
        due("a fault", x.play(), NOT_POSSIBLE);
        due("nothing is done", x.count(1), 0);
        due("no state", x.count(13), 3);
        typed(x, "find 1,1,1,1;week 6;find 2,2,2,2;claim 2,2,-,-;hand;");
        due("play", x.play(), 5);
        due("sold", x.count(8), 1);
        due("handed out", x.count(7), 2);
        due("claims", x.count(2), 0);
        due("weeks", x.count(0), 8);
        due("undo is one step", x.undo(), 3);
        due("weeks", x.count(0), 2);
        due("sold", x.count(8), 0);
        due("found", x.count(5), 1);
    }

    private static void constants() {
        part = "constants";
        due("INVALID_ARGUMENT", INVALID, -1000001);
        due("NOT_POSSIBLE", NOT_POSSIBLE, -1000002);
        due("LIMIT_REACHED", LIMIT, -1000003);
        due("NOT_FOUND", NOT_FOUND, -1000004);
    }
}
