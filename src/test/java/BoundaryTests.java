import java.util.ArrayList;
import java.util.HashMap;
import java.util.List;
import java.util.Map;

/**
 * One method for each sentence of the document that names a boundary: the last value that is still allowed, the first
 * one that is not, and what a call that is refused leaves as it was.
 */
public final class BoundaryTests {
    private static final int INVALID = -1000001;
    private static final int NOT_POSSIBLE = -1000002;
    private static final int LIMIT = -1000003;
    private static final int NOT_FOUND = -1000004;
    private static final int MOST_CALLS = 512;

    private static final int[] LEAST = {0, 0, 0, 1, 0, 1, 1};
    private static final int[] GREATEST = {3, 20, 20, 48, 9, 20, 20};
    private static final int[] FIRST = {1, 4, 2, 8, 1, 6, 5};

    private static int wrong = 0;
    private static int answers = 0;
    private static int sentences = 0;
    private static String sentence = "";

    public static void main(String[] args) {
        constants();
        calls512();
        aNewObject();
        umbrellasAtOnce();
        claimsAtOnce();
        laterUmbrellas();
        laterClaims();
        valuesOfUmbrellas();
        valuesOfClaims();
        noneTold();
        agesAndDoubtsAtFirst();
        oddness();
        pointsForFits();
        pointsOffForMisses();
        pointsOffForDoubts();
        missesAllowed();
        pointsToSuit();
        aheadByPoints();
        aheadByNumbers();
        matchedTogether();
        handedAsAtTheBeginning();
        coinsForWeeks();
        soldWhenOld();
        lapsedWhenOld();
        umbrellasAheadOfClaims();
        weekByWeek();
        latestTen();
        settings();
        whatOfSet();
        textOfSixty();
        characters();
        formOfNumbers();
        formOfOrders();
        endsTooEarly();
        firstFault();
        causeOfCalls();
        faultOfNoText();
        textStays();
        statesOfHistory();
        everythingButTheText();
        whatIsAChange();
        undoOfNothing();
        playOfNothing();
        playOfAFault();
        invalidRatherThanNotPossible();
        notPossibleRatherThanLimit();
        invalidRatherThanLimit();
        invalidRatherThanNotFound();
        errorsChangeNothing();
        questionsChangeNothing();
        noSuchUmbrella();
        noSuchClaim();
        tellsADetail();
        dropsAClaim();
        weeksAtOnce();
        moreThan999Weeks();
        handsNone();
        whatOfUmbrella();
        notMatchedUmbrella();
        whatOfClaim();
        notToldOrMatchedClaim();
        thousandAndPoints();
        havingAValue();
        entriesOfTheBook();
        reasonsInTheirOrder();
        aheadOfThisOne();
        ifADetailWereTold();
        oddestOfSeveral();
        ifWeeksWent();
        ifWeeksBeyondTheLimit();
        meanOfPairs();
        whatOfCount();
        pairsTwice();
        whatOfFault();
        clearsTheText();
        System.out.println(wrong == 0
            ? "BoundaryTests: all " + answers + " answers to " + sentences + " sentences are as due"
            : "BoundaryTests: " + wrong + " answers are not as due");
        if (wrong != 0) {
            System.exit(1);
        }
    }

    // ---- what the tests are written with

    private static void sentence(String words) {
        sentence = words;
        sentences++;
    }

    private static void fail(String what) {
        wrong++;
        System.out.println("\"" + sentence + "\": " + what);
    }

    /** An object and the calls that brought it where it is, so that they can be made again on a twin. */
    private static final class Desk {
        private static final Map<String, String> SEEN = new HashMap<>();

        private final OddUmbrellas office = new OddUmbrellas();
        private final List<String> done = new ArrayList<>();
        private int calls = 0;

        /** A call is written as its name and its numbers, with a space ahead of each. */
        private int call(String call) {
            calls++;
            if (calls > MOST_CALLS) {
                fail("a test makes more than 512 calls on an object");
            }
            String[] words = call.split(" ");
            int[] n = new int[4];
            for (int i = 1; i < words.length; i++) {
                n[i - 1] = Integer.parseInt(words[i]);
            }
            switch (words[0]) {
                case "find": return office.find(n[0], n[1], n[2], n[3]);
                case "claim": return office.claim(n[0], n[1], n[2], n[3]);
                case "tell": return office.tell(n[0], n[1], n[2]);
                case "drop": return office.drop(n[0]);
                case "weeks": return office.weeks(n[0]);
                case "hand": return office.hand();
                case "set": return office.set(n[0], n[1]);
                case "umbrella": return office.umbrella(n[0], n[1]);
                case "claimOf": return office.claimOf(n[0], n[1]);
                case "points": return office.points(n[0], n[1]);
                case "having": return office.having(n[0], n[1]);
                case "book": return office.book(n[0], n[1]);
                case "why": return office.why(n[0], n[1]);
                case "ifTold": return office.ifTold(n[0], n[1], n[2]);
                case "oddest": return office.oddest();
                case "ifWeeks": return office.ifWeeks(n[0], n[1]);
                case "mean": return office.mean();
                case "count": return office.count(n[0]);
                case "undo": return office.undo();
                case "type": return office.type(n[0]);
                case "clearText": return office.clearText();
                case "fault": return office.fault(n[0]);
                case "play": return office.play();
                default: throw new IllegalArgumentException(call);
            }
        }

        /** Makes a call; it must answer this. */
        Desk due(String call, int want) {
            expect(call, call(call), want);
            done.add(call);
            return this;
        }

        /** Makes calls; they may answer what they like, but no errors. */
        Desk all(String... them) {
            for (String call : them) {
                if (call(call) < 0) {
                    fail(call + " is refused after " + done);
                }
                done.add(call);
            }
            return this;
        }

        Desk times(int many, String call) {
            for (int i = 0; i < many; i++) {
                all(call);
            }
            return this;
        }

        /** Types a text in the place of the one that is there. */
        Desk text(String text) {
            all("clearText");
            for (int i = 0; i < text.length(); i++) {
                due("type " + (int) text.charAt(i), i + 1);
            }
            return this;
        }

        /** Makes a call; it must answer this, and leave all that there is as it was, the history and the text too. */
        Desk leaves(String call, int want) {
            int states = call("count 13");
            expect(call, call(call), want);
            String[] undos = new String[0];
            for (int undone = 0; undone <= states; undone++) {
                same(call, undos);
                undos = joined("undo", undos);
            }
            same(call, "play");
            same(call, "type 59");
            return this;
        }

        /** Makes leaves() of a call with the numbers next to a range and far from it in the place of "#". */
        Desk refusesBeyond(String call, int least, int greatest) {
            int[] beyond = {least - 1, greatest + 1, Integer.MIN_VALUE, Integer.MAX_VALUE};
            for (int number : beyond) {
                leaves(call.replace("#", "" + number), INVALID);
            }
            return this;
        }

        /** Looks on a twin whether a change answers this, and whether all is as before when it is undone. */
        Desk undone(String call, int want) {
            expect(call, twin().call(call), want);
            compare(call + ", undo", seenAfter(), seenAfter(call, "undo"));
            return this;
        }

        private void same(String call, String... then) {
            compare(call, seenAfter(then), seenAfter(joined(call, then)));
        }

        private void expect(String call, int got, int want) {
            answers++;
            if (got != want) {
                fail(call + " answered " + got + ", due is " + want + ", after " + done);
            }
        }

        private void compare(String what, String before, String after) {
            answers++;
            if (!before.equals(after)) {
                fail(what + " changed something, after " + done + "\n  before: " + before + "\n  then:   " + after);
            }
        }

        Desk twin() {
            Desk twin = new Desk();
            for (String call : done) {
                twin.call(call);
                twin.done.add(call);
            }
            return twin;
        }

        /** What is seen when these calls are made on a twin. */
        private String seenAfter(String... more) {
            String key = done + " then " + String.join(", ", more);
            if (!SEEN.containsKey(key)) {
                Desk twin = twin();
                for (String call : more) {
                    twin.call(call);
                }
                SEEN.put(key, twin.seen());
            }
            return SEEN.get(key);
        }

        private String seen() {
            StringBuilder all = new StringBuilder();
            look(all, "count", 26);
            int umbrellas = call("count 1");
            for (int umbrella = 0; umbrella < umbrellas; umbrella++) {
                look(all, "umbrella " + umbrella, 8);
            }
            int claims = call("count 2");
            for (int claim = 0; claim < claims; claim++) {
                look(all, "claimOf " + claim, 7);
            }
            int entries = call("count 12");
            for (int ago = 0; ago < entries; ago++) {
                look(all, "book " + ago, 3);
            }
            look(all, "fault", 2);
            return all.toString();
        }

        private void look(StringBuilder all, String call, int last) {
            all.append(call);
            for (int what = 0; what <= last; what++) {
                all.append(' ').append(call(call + " " + what));
            }
            all.append("; ");
        }
    }

    private static String[] joined(String first, String... then) {
        String[] all = new String[then.length + 1];
        all[0] = first;
        System.arraycopy(then, 0, all, 1, then.length);
        return all;
    }

    /** An office with something of everything: umbrellas, claims, pairs, doubts, a book, a full history, a text. */
    private static Desk busy() {
        return new Desk().all("set 4 3", "find 7 7 7 7", "claim 7 7 -1 -1", "weeks 2", "hand", "find 8 8 8 8", "weeks 6",
            "claim 3 3 3 3", "weeks 6", "find 1 2 3 4", "find 1 2 3 5", "find 0 9 3 4", "claim 1 2 -1 4", "claim 1 -1 -1 -1",
            "claim 0 9 -1 -1", "claim 5 5 -1 -1", "drop 3", "tell 2 1 8", "tell 2 1 9", "weeks 1").text("week 1;hand;");
    }

    /** A full office: 12 umbrellas, 12 claims, 10 entries in the book. */
    private static Desk full() {
        Desk x = new Desk().all("set 5 1").times(11, "find 5 5 5 5").all("weeks 1", "set 5 6");
        for (int i = 0; i < 12; i++) {
            x.due("find " + i % 10 + " " + i / 10 + " 0 0", i).due("claim " + i % 10 + " " + i / 10 + " -1 -1", i);
        }
        return x;
    }

    private static void faultIs(String text, int place, int reason, int cause) {
        faultIs(new Desk(), text, place, reason, cause);
    }

    private static void faultIs(Desk x, String text, int place, int reason, int cause) {
        Desk y = x.twin().text(text);
        y.due("fault 0", place).due("fault 1", reason).due("fault 2", cause).due("play", NOT_POSSIBLE);
    }

    private static void noFault(String text, int orders) {
        noFault(new Desk(), text, orders);
    }

    private static void noFault(Desk x, String text, int orders) {
        Desk y = x.twin().text(text);
        y.due("fault 0", NOT_FOUND).due("fault 1", NOT_FOUND).due("fault 2", NOT_FOUND).due("play", orders);
    }

    private static void constants() {
        sentence("The constants: INVALID_ARGUMENT = -1000001 .. NOT_FOUND = -1000004");
        int[] got = {OddUmbrellas.INVALID_ARGUMENT, OddUmbrellas.NOT_POSSIBLE, OddUmbrellas.LIMIT_REACHED, OddUmbrellas.NOT_FOUND};
        int[] due = {INVALID, NOT_POSSIBLE, LIMIT, NOT_FOUND};
        for (int i = 0; i < got.length; i++) {
            answers++;
            if (got[i] != due[i]) {
                fail("constant " + i + " is " + got[i]);
            }
        }
    }

    private static void calls512() {
        sentence("An object is used for at most 512 calls after it has been made");
        Desk x = new Desk().all("find 1 1 1 1", "claim 1 -1 -1 -1", "set 2 20");
        for (int doubts = 1; doubts <= 508; doubts++) {
            x.due("tell 0 0 " + (doubts % 2 == 0 ? 1 : 2), doubts);
        }
        x.due("points 0 0", 1012 - 20 * 508);
        new Desk().times(511, "hand").due("count 13", 4);
        Desk y = new Desk();
        for (int i = 0; i < 256; i++) {
            y.due("find 1 1 1 1", 0).due("undo", 0);
        }
        // Four doubts a call: far more than a claim gets by tell() alone, and the points are far below 0.
        Desk z = new Desk().all("find 1 1 1 1", "claim 1 -1 -1 -1", "set 2 20").text("tell 0,0,2;tell 0,0,1;tell 0,0,2;tell 0,0,1;");
        z.times(460, "play").due("claimOf 0 7", 1840).due("points 0 0", 1012 - 36800).due("why 0 0", 2);
    }

    // ---- umbrellas, claims

    private static void aNewObject() {
        sentence("Begins with an empty office, before the first week went by");
        Desk x = new Desk();
        for (int what = 0; what <= 14; what++) {
            x.due("count " + what, 0);
        }
        for (int what = 0; what <= 6; what++) {
            x.due("count " + (20 + what), FIRST[what]);
        }
        x.leaves("umbrella 0 0", INVALID).leaves("claimOf 0 4", INVALID).leaves("points 0 0", INVALID);
        x.leaves("why 0 0", INVALID).leaves("tell 0 0 0", INVALID).leaves("drop 0", INVALID).leaves("ifTold 0 0 0", INVALID);
        x.leaves("book 0 0", NOT_FOUND).leaves("oddest", NOT_FOUND).leaves("mean", NOT_FOUND).leaves("fault 0", NOT_FOUND);
        x.leaves("having 0 0", 0).leaves("ifWeeks 20 0", 0).leaves("ifWeeks 20 1", 0).leaves("ifWeeks 20 2", 0);
        x.leaves("undo", NOT_POSSIBLE).leaves("clearText", 0);
    }

    private static void umbrellasAtOnce() {
        sentence("There are at most 12 umbrellas in the office at once .. LIMIT_REACHED if there are 12");
        Desk x = new Desk();
        for (int i = 0; i < 12; i++) {
            x.due("find " + i % 10 + " 9 9 9", i);
        }
        x.leaves("find 0 0 0 0", LIMIT).due("count 1", 12).due("count 5", 12).due("umbrella 11 0", 1);
        x.all("claim 4 9 -1 -1").due("hand", 1).due("find 0 0 0 0", 11).leaves("find 0 0 0 0", LIMIT);
        x.due("count 5", 13).due("weeks 6", 12).due("find 1 1 1 1", 0).due("count 5", 14);
        x.due("undo", 3).due("undo", 2).leaves("find 1 1 1 1", LIMIT);
    }

    private static void claimsAtOnce() {
        sentence("There are at most 12 claims at once .. LIMIT_REACHED if there are 12");
        Desk x = new Desk();
        for (int i = 0; i < 12; i++) {
            x.due("claim " + i % 10 + " -1 -1 -1", i);
        }
        x.leaves("claim 0 0 0 0", LIMIT).due("count 2", 12).due("count 6", 12).due("claimOf 11 0", 1);
        x.due("drop 5", 11).due("claim 0 0 0 0", 11).leaves("claim 0 0 0 0", LIMIT);
        x.all("find 0 0 0 0").due("hand", 1).due("claim 9 9 9 9", 11).leaves("claim 9 9 9 9", LIMIT);
        x.due("weeks 6", 0).due("count 9", 12).due("claim 1 -1 -1 -1", 0).due("count 6", 15);
        x.due("undo", 3).due("undo", 2).leaves("claim 1 -1 -1 -1", LIMIT);
    }

    private static void laterUmbrellas() {
        sentence("when one is gone, the numbers of the later ones become 1 less (umbrellas)");
        Desk x = new Desk();
        for (int i = 0; i < 5; i++) {
            x.due("find " + i + " " + i + " " + i + " " + i, i);
        }
        String[] handed = {"2", "0", "4"};
        int[][] left = {{0, 1, 3, 4}, {1, 3, 4}, {1, 3}};
        for (int i = 0; i < handed.length; i++) {
            x.all("claim " + handed[i] + " -1 -1 -1").due("hand", 1);
            for (int umbrella = 0; umbrella < left[i].length; umbrella++) {
                x.due("umbrella " + umbrella + " 0", left[i][umbrella]).due("umbrella " + umbrella + " 3", left[i][umbrella]);
            }
            x.leaves("umbrella " + left[i].length + " 0", INVALID);
        }
        x.due("find 7 7 7 7", 2).all("weeks 5", "find 8 8 8 8", "claim 7 -1 -1 -1").due("hand", 1);
        x.due("umbrella 2 0", 8).due("umbrella 2 4", 0).due("umbrella 1 4", 5);
        x.due("weeks 1", 2).due("umbrella 0 0", 8).due("umbrella 0 4", 1).leaves("umbrella 1 0", INVALID);
        x.all("claim 8 8 -1 -1").due("hand", 1).leaves("umbrella 0 0", INVALID);
        Desk y = new Desk().all("find 1 1 1 1", "find 2 2 2 2", "find 3 3 3 3", "find 4 4 4 4", "find 5 5 5 5");
        y.all("claim 5 -1 -1 -1", "claim 1 -1 -1 -1", "claim 3 -1 -1 -1").due("hand", 3);
        y.due("umbrella 0 0", 2).due("umbrella 1 0", 4).leaves("umbrella 2 0", INVALID);
    }

    private static void laterClaims() {
        sentence("when one is gone, the numbers of the later ones become 1 less (claims)");
        Desk x = new Desk();
        for (int i = 0; i < 6; i++) {
            x.due("claim " + i + " -1 -1 -1", i);
        }
        x.all("tell 4 1 1", "tell 4 1 2");
        x.due("drop 0", 5).due("claimOf 0 0", 1).due("claimOf 3 0", 4).due("claimOf 3 7", 1).leaves("claimOf 5 0", INVALID);
        x.due("drop 2", 4).due("claimOf 1 0", 2).due("claimOf 2 0", 4).due("claimOf 2 7", 1).due("claimOf 3 0", 5);
        x.due("drop 3", 3).due("claimOf 2 0", 4).leaves("claimOf 3 0", INVALID);
        x.all("find 1 1 1 1").due("hand", 1).due("claimOf 0 0", 2).due("claimOf 1 0", 4).leaves("claimOf 2 0", INVALID);
        x.all("weeks 5", "claim 9 -1 -1 -1").due("weeks 1", 0).due("claimOf 0 0", 9).due("claimOf 0 7", 0);
        x.due("claimOf 0 4", 1).leaves("claimOf 1 0", INVALID).due("drop 0", 0).leaves("claimOf 0 0", INVALID);
        x.due("claim 3 -1 -1 -1", 0);
    }

    private static void valuesOfUmbrellas() {
        sentence("first, second, third, fourth: 0 to 9 .. INVALID_ARGUMENT if an argument is out of range (find)");
        String[] calls = {"find # 1 1 1", "find 1 # 1 1", "find 1 1 # 1", "find 1 1 1 #"};
        Desk x = new Desk();
        for (int detail = 0; detail < 4; detail++) {
            x.refusesBeyond(calls[detail], 0, 9);
            x.due(calls[detail].replace("#", "0"), 2 * detail).due("umbrella " + 2 * detail + " " + detail, 0);
            x.due(calls[detail].replace("#", "9"), 2 * detail + 1).due("umbrella " + (2 * detail + 1) + " " + detail, 9);
        }
        x.due("count 5", 8);
    }

    private static void valuesOfClaims() {
        sentence("first, second, third, fourth: -1 to 9 .. INVALID_ARGUMENT if an argument is out of range (claim)");
        String[] calls = {"claim # 1 1 1", "claim 1 # 1 1", "claim 1 1 # 1", "claim 1 1 1 #"};
        Desk x = new Desk();
        for (int detail = 0; detail < 4; detail++) {
            x.refusesBeyond(calls[detail], -1, 9);
            int number = 3 * detail;
            x.due(calls[detail].replace("#", "-1"), number).due("claimOf " + number + " " + detail, NOT_FOUND);
            x.due(calls[detail].replace("#", "0"), number + 1).due("claimOf " + (number + 1) + " " + detail, 0);
            x.due(calls[detail].replace("#", "9"), number + 2).due("claimOf " + (number + 2) + " " + detail, 9);
        }
        x.due("count 6", 12);
    }

    private static void noneTold() {
        sentence("NOT_POSSIBLE if it tells none");
        Desk x = new Desk().leaves("claim -1 -1 -1 -1", NOT_POSSIBLE);
        x.due("claim 0 -1 -1 -1", 0).due("claim -1 0 -1 -1", 1).due("claim -1 -1 0 -1", 2).due("claim -1 -1 -1 0", 3);
        x.leaves("claim -1 -1 -1 -1", NOT_POSSIBLE).due("count 6", 4);
        busy().leaves("claim -1 -1 -1 -1", NOT_POSSIBLE);
    }

    private static void agesAndDoubtsAtFirst() {
        sentence("an age in weeks, 0 at first .. an age, too, and doubts (0 at first)");
        Desk x = new Desk().all("find 1 1 1 1", "claim 1 1 1 1", "tell 0 0 2", "weeks 5").due("umbrella 0 4", 5);
        x.due("claimOf 0 4", 5).due("claimOf 0 7", 1).all("weeks 1", "find 2 2 2 2", "claim 2 2 2 2");
        x.due("umbrella 0 4", 0).due("claimOf 0 4", 0).due("claimOf 0 7", 0);
        x.all("weeks 1", "tell 0 0 3", "drop 0", "claim 2 -1 -1 -1").due("claimOf 0 4", 0).due("claimOf 0 7", 0);
        // The 12th one that comes in the place of another has nothing of it.
        Desk y = full().all("weeks 1", "set 0 0", "tell 11 2 0", "tell 11 2 1", "tell 11 2 0").due("claimOf 11 7", 2).due("drop 0", 11);
        y.due("claim 3 -1 -1 -1", 11).due("claimOf 11 4", 0).due("claimOf 11 7", 0).due("claimOf 10 4", 1).due("claimOf 10 7", 2);
        Desk z = full().all("weeks 1", "set 3 20").due("hand", 2).due("find 1 1 1 1", 10).due("find 2 2 2 2", 11);
        z.due("umbrella 9 4", 1).due("umbrella 10 4", 0).due("umbrella 11 4", 0).due("claim 1 1 1 1", 10).due("claimOf 10 4", 0);
    }

    private static void oddness() {
        sentence("The oddness is 13, less how many umbrellas in the office have this value");
        Desk x = new Desk();
        for (int i = 1; i <= 12; i++) {
            x.all("find 0 0 0 " + (i == 12 ? 1 : 0)).due("umbrella 0 8", i == 12 ? 3 + 2 : 4 * (13 - i));
        }
        x.due("umbrella 11 8", 3 + 12).leaves("find 0 0 0 0", LIMIT).due("umbrella 0 8", 5);
        x.all("claim -1 -1 -1 1").due("points 11 0", 1012).due("hand", 1).due("umbrella 0 8", 8);
        x.all("find 0 0 0 0").due("umbrella 11 8", 4).due("umbrella 0 8", 4);
        x.all("claim 0 0 0 0").due("points 0 0", 1004).due("points 11 0", 1004);
    }

    private static void pointsForFits() {
        sentence("The points are, for each detail that the claim tells with the value of the umbrella, the oddness");
        Desk x = new Desk().all("find 0 9 0 9", "claim 0 -1 -1 -1", "claim 0 9 -1 -1", "claim 0 9 0 -1", "claim 0 9 0 9");
        x.due("points 0 0", 1012).due("points 0 1", 1024).due("points 0 2", 1036).due("points 0 3", 1048);
        x.all("find 0 8 0 8").due("points 0 3", 1046).due("points 1 3", 1000 + 22 - 8);
    }

    private static void pointsOffForMisses() {
        sentence("less setting 1 for each detail that it tells with another value (a miss)");
        Desk x = new Desk().all("find 0 0 0 0", "claim 0 -1 -1 -1", "claim 0 9 -1 -1", "claim 0 9 9 -1", "claim 0 9 9 9", "claim 9 9 9 9");
        int[] off = {0, 1, 4, 20};
        for (int each : off) {
            x.all("set 1 " + each);
            for (int claim = 0; claim < 5; claim++) {
                x.due("points 0 " + claim, 1000 + (claim < 4 ? 12 : 0) - claim * each);
            }
        }
    }

    private static void pointsOffForDoubts() {
        sentence("less setting 2 for each of its doubts");
        Desk x = new Desk().all("find 0 0 0 0", "claim 0 0 0 0").due("points 0 0", 1048);
        for (int doubts = 2; doubts <= 6; doubts += 2) {
            x.all("tell 0 3 1", "tell 0 3 0").due("claimOf 0 7", doubts);
            x.all("set 2 0").due("points 0 0", 1048).all("set 2 1").due("points 0 0", 1048 - doubts);
            x.all("set 2 20").due("points 0 0", 1048 - 20 * doubts);
        }
        x.all("claim 0 -1 -1 -1").due("points 0 1", 1012);
    }

    private static void missesAllowed() {
        sentence("An umbrella and a claim suit, if there are at most setting 0 misses");
        Desk x = new Desk().all("set 3 1", "set 1 0", "find 0 0 0 0");
        x.all("claim 0 -1 -1 -1", "claim 0 9 -1 -1", "claim 0 9 9 -1", "claim 0 9 9 9", "claim 9 9 9 9");
        for (int allowed = 0; allowed <= 3; allowed++) {
            x.all("set 0 " + allowed).due("umbrella 0 7", allowed + 1);
            for (int claim = 0; claim < 5; claim++) {
                x.due("claimOf " + claim + " 6", claim <= allowed ? 1 : 0);
                x.due("why 0 " + claim, claim == 0 ? 0 : claim <= allowed ? 3 : 1);
            }
        }
        x.leaves("set 0 4", INVALID).due("claimOf 4 6", 0);
    }

    private static void pointsToSuit() {
        sentence("and the points are at least setting 3");
        Desk x = new Desk().all("find 1 1 1 1", "claim 1 -1 -1 -1");
        x.all("set 3 12").due("umbrella 0 7", 1).due("why 0 0", 0).due("count 3", 1).due("count 4", 1);
        x.all("set 3 13").due("umbrella 0 7", 0).due("why 0 0", 2).due("count 3", 0).due("count 4", 0);
        Desk y = new Desk().all("set 3 48", "find 1 1 1 1", "claim 1 1 1 1").due("count 3", 1).due("umbrella 0 6", 48);
        y.all("find 1 2 2 2").due("points 0 0", 1047).due("count 3", 0).due("why 0 0", 2);
        y.all("set 3 47").due("count 3", 1).leaves("set 3 49", INVALID);
        Desk z = new Desk().all("set 3 1").times(12, "find 0 0 0 0").all("claim 0 -1 -1 -1").due("points 0 0", 1001);
        z.due("count 3", 1).due("claimOf 0 6", 12).leaves("set 3 0", INVALID);
        z.all("tell 0 1 1", "set 1 0", "set 1 1").due("points 0 0", 1000).due("count 3", 0).due("why 0 0", 2);
    }

    private static void aheadByPoints() {
        sentence("A pair that suits is ahead of another one, if it has more points");
        Desk x = new Desk().all("find 1 1 1 1", "find 1 2 2 2", "claim 1 -1 -1 -1", "claim -1 1 -1 -1").due("points 0 0", 1011);
        // One point more is enough: 12 against 11.
        x.due("points 0 1", 1012).due("umbrella 0 5", 1).due("umbrella 0 6", 12).due("umbrella 1 5", 0).due("umbrella 1 6", 11);
        x.due("why 0 0", 3).due("claimOf 1 5", 0).due("claimOf 0 5", 1);
    }

    private static void aheadByNumbers() {
        sentence("with as many, if its umbrella has the lower number, and with the same umbrella, if its claim has the lower number");
        Desk x = new Desk().all("find 1 1 1 1", "find 1 1 1 1", "claim 1 1 1 1").due("umbrella 0 5", 0).due("umbrella 1 5", NOT_FOUND);
        x.due("why 1 0", 4).all("claim 1 1 1 1").due("umbrella 0 5", 0).due("umbrella 1 5", 1).due("why 0 1", 3).due("why 1 0", 4);
        x.all("claim 1 1 1 1").due("claimOf 2 5", NOT_FOUND).due("why 0 2", 3).due("why 1 2", 3);
        // The lower umbrella goes ahead of the lower claim: the pair 0, 1 is ahead of the pair 1, 0.
        Desk y = new Desk().all("find 2 2 2 2", "find 1 1 1 1", "claim 1 2 -1 -1", "claim 2 -1 -1 -1", "set 1 0").due("points 0 0", 1012);
        y.due("points 0 1", 1012).due("points 1 0", 1012).due("umbrella 0 5", 0).due("umbrella 1 5", NOT_FOUND);
        y.due("why 1 0", 4).due("why 0 1", 3).due("claimOf 1 5", NOT_FOUND);
    }

    private static void matchedTogether() {
        sentence("of all pairs that suit the one that is ahead of all others is matched; then .. not matched yet, and so on");
        Desk x = full().due("count 3", 12).due("count 4", 12);
        for (int i = 0; i < 12; i++) {
            x.due("umbrella " + i + " 5", i).due("claimOf " + i + " 5", i).due("claimOf " + i + " 6", 1);
        }
        // The values 0 and 1 of the first detail are there twice, so that the first two pairs have 14 points.
        x.due("umbrella 0 6", 14).due("umbrella 2 6", 15).all("set 3 15").due("count 3", 10).due("umbrella 0 5", NOT_FOUND);
        x.due("claimOf 0 5", NOT_FOUND).due("umbrella 11 5", 11);
        Desk y = new Desk().times(12, "find 0 0 0 0").times(12, "claim 0 0 0 0").due("count 3", 0).all("set 3 4").due("count 3", 12);
        y.due("umbrella 11 5", 11).due("umbrella 11 7", 12).due("claimOf 0 6", 12).due("hand", 12).due("count 3", 0);
    }

    // ---- weeks, handing out

    private static void handedAsAtTheBeginning() {
        sentence("all matched pairs are, by the numbers of the umbrellas, as they are matched at the beginning");
        // 11 points while there are two of the value: only alone it would have the 12 that are needed.
        Desk x = new Desk().all("set 3 12", "find 5 1 1 1", "weeks 1", "find 5 2 2 2", "claim -1 2 -1 -1", "claim 5 -1 -1 -1");
        x.due("points 0 1", 1011).due("hand", 1).due("count 1", 1).due("umbrella 0 1", 1).due("count 3", 1).due("hand", 1);
        Desk y = new Desk().all("find 3 3 3 3", "weeks 1", "find 2 2 2 2", "weeks 1", "find 1 1 1 1", "weeks 1");
        y.all("claim 1 1 1 1", "claim 2 2 -1 -1", "claim 3 -1 -1 -1").due("hand", 3);
        y.due("book 2 2", 3).due("book 1 2", 2).due("book 0 2", 1).due("count 2", 0);
    }

    private static void coinsForWeeks() {
        sentence("the owner pays setting 4 coins for each week of the umbrella's age");
        int[][] coins = {{0, 0, 0}, {0, 1, 5}, {0, 9, 45}};
        int[] each = {0, 1, 9};
        int[] weeks = {0, 1, 5};
        for (int i = 0; i < each.length; i++) {
            for (int j = 0; j < weeks.length; j++) {
                Desk x = new Desk().all("set 4 " + each[i], "find 1 1 1 1", "claim 1 -1 -1 -1");
                x.times(weeks[j], "weeks 1").due("hand", 1).due("book 0 3", coins[i][j]).due("count 10", coins[i][j]);
                x.due("book 0 2", weeks[j]).due("book 0 0", weeks[j]).due("book 0 1", 0);
            }
        }
        Desk y = new Desk().all("set 5 20", "set 4 9", "find 1 1 1 1", "claim 1 -1 -1 -1", "weeks 19").due("hand", 1).due("book 0 3", 171);
        y.due("count 10", 171);
    }

    private static void soldWhenOld() {
        sentence("Then umbrellas with an age of at least setting 5 are sold, by their numbers, for setting 6 coins each");
        int[] settings = {1, 2, 6, 20};
        for (int old : settings) {
            Desk x = new Desk().all("set 5 " + old, "set 6 20", "find 1 1 1 1").times(old - 1, "weeks 1");
            x.due("count 1", 1).due("umbrella 0 4", old - 1).due("count 8", 0).due("count 10", 0).leaves("book 0 0", NOT_FOUND);
            x.due("weeks 1", 1).due("count 1", 0).due("count 8", 1).due("count 10", 20).leaves("umbrella 0 0", INVALID);
            x.due("book 0 0", old).due("book 0 1", 1).due("book 0 2", old).due("book 0 3", 20).due("count 7", 0);
        }
        // Lowered beyond the ages there are: nothing is sold before the next week.
        Desk y = new Desk().all("find 1 1 1 1", "weeks 2", "find 2 2 2 2", "weeks 1", "find 3 3 3 3", "set 5 2", "set 6 1").due("count 1", 3);
        y.due("weeks 1", 2).due("book 1 2", 4).due("book 0 2", 2).due("book 0 3", 1).due("umbrella 0 0", 3).due("umbrella 0 4", 1);
        y.due("count 10", 2);
    }

    private static void lapsedWhenOld() {
        sentence("then claims with an age of at least setting 5 lapse, by their numbers: they are gone");
        int[] settings = {1, 2, 6, 20};
        for (int old : settings) {
            Desk x = new Desk().all("set 5 " + old, "claim 1 -1 -1 -1").times(old - 1, "weeks 1");
            x.due("count 2", 1).due("claimOf 0 4", old - 1).due("count 9", 0).leaves("book 0 0", NOT_FOUND);
            x.due("weeks 1", 0).due("count 2", 0).due("count 9", 1).due("count 10", 0).leaves("claimOf 0 4", INVALID);
            x.due("book 0 0", old).due("book 0 1", 2).due("book 0 2", old).due("book 0 3", 0).due("count 11", 0);
        }
        Desk y = new Desk().all("claim 1 -1 -1 -1", "weeks 2", "claim 2 -1 -1 -1", "weeks 1", "claim 3 -1 -1 -1", "set 5 2").due("count 2", 3);
        y.due("weeks 1", 0).due("book 1 2", 4).due("book 0 2", 2).due("claimOf 0 0", 3).due("claimOf 0 4", 1).due("count 9", 2);
    }

    private static void umbrellasAheadOfClaims() {
        sentence("Then umbrellas .. are sold ..; then claims .. lapse");
        Desk x = new Desk().all("claim 1 -1 -1 -1", "claim 2 -1 -1 -1", "find 1 1 1 1", "find 2 2 2 2").due("weeks 6", 2).due("count 9", 2);
        x.due("book 3 1", 1).due("book 2 1", 1).due("book 1 1", 2).due("book 0 1", 2).due("count 12", 4);
    }

    private static void weekByWeek() {
        sentence("When a week goes by, all umbrellas and claims are 1 week older");
        Desk x = new Desk().all("find 1 1 1 1", "claim 2 -1 -1 -1", "weeks 1", "claim 1 -1 -1 -1", "find 2 2 2 2").due("weeks 4", 0);
        x.due("umbrella 0 4", 5).due("umbrella 1 4", 4).due("claimOf 0 4", 5).due("claimOf 1 4", 4).due("weeks 20", 2);
        // In each week its umbrella ahead of its claim; the entry has the week in which it was, not the last one.
        int[][] entries = {{7, 2, 6, 0}, {7, 1, 6, 5}, {6, 2, 6, 0}, {6, 1, 6, 5}};
        for (int ago = 0; ago < 4; ago++) {
            for (int what = 0; what < 4; what++) {
                x.due("book " + ago + " " + what, entries[ago][what]);
            }
        }
        x.due("count 0", 25).due("count 12", 4);
    }

    private static void latestTen() {
        sentence("the book, which has the latest 10");
        Desk x = new Desk().all("set 5 1");
        for (int i = 0; i < 10; i++) {
            x.due("count 12", i).leaves("book " + i + " 0", NOT_FOUND).all("find 1 1 1 1").due("weeks 1", 1);
        }
        x.due("count 12", 10).due("book 9 0", 1).due("book 0 0", 10).leaves("book 10 0", NOT_FOUND);
        x.all("claim 1 -1 -1 -1", "weeks 1").due("count 12", 10).due("book 9 0", 2).due("book 0 1", 2).leaves("book 10 0", NOT_FOUND);
        x.all("set 5 6", "find 1 1 1 1", "claim 1 -1 -1 -1").due("hand", 1).due("count 12", 10).due("book 9 0", 3).due("book 0 1", 0);
        x.due("undo", 3).due("count 12", 10).due("book 9 0", 2).due("book 0 1", 2);
        x.due("count 8", 10).due("count 9", 1).due("count 10", 50);
        // More than ten in one call.
        Desk y = new Desk().times(12, "find 1 1 1 1").times(12, "claim 2 -1 -1 -1").due("weeks 6", 12).due("count 12", 10);
        y.due("book 9 1", 2).due("count 8", 12).due("count 9", 12).due("count 10", 60);
        Desk z = new Desk().all("set 3 4").times(12, "find 1 1 1 1").all("weeks 1").times(12, "claim 1 1 1 1").due("hand", 12);
        z.due("count 12", 10).due("count 7", 12).due("count 10", 12).leaves("book 10 3", NOT_FOUND);
    }

    private static void settings() {
        sentence("The settings are (in parentheses: range; first value)");
        Desk busy = busy().all("set 4 1");
        for (int what = 0; what <= 6; what++) {
            new Desk().due("count " + (20 + what), FIRST[what]);
            busy.refusesBeyond("set " + what + " #", LEAST[what], GREATEST[what]);
            Desk x = new Desk().due("set " + what + " " + LEAST[what], FIRST[what]).due("count " + (20 + what), LEAST[what]);
            x.due("set " + what + " " + GREATEST[what], LEAST[what]).due("count " + (20 + what), GREATEST[what]);
            x.refusesBeyond("set " + what + " #", LEAST[what], GREATEST[what]);
            x.due("set " + what + " " + GREATEST[what], GREATEST[what]).due("count 13", 3);
            for (int other = 0; other <= 6; other++) {
                x.due("count " + (20 + other), other == what ? GREATEST[what] : FIRST[other]);
            }
        }
    }

    private static void whatOfSet() {
        sentence("what: 0 to 6 (set)");
        busy().refusesBeyond("set # 1", 0, 6);
    }

    // ---- texts

    private static void textOfSixty() {
        sentence("There is a text of at most 60 characters, initially empty .. LIMIT_REACHED if it has 60 characters");
        Desk x = new Desk().due("count 14", 0).due("play", 0).due("undo", 0);
        for (int i = 1; i <= 60; i++) {
            x.due("type " + (int) "hand;".charAt((i - 1) % 5), i).due("count 14", i);
        }
        x.leaves("type 104", LIMIT).leaves("type 59", LIMIT).due("count 14", 60).due("fault 0", NOT_FOUND).due("play", 12);
        x.leaves("type 104", LIMIT).due("clearText", 60).due("type 104", 1);
        String four = "find 0,0,0,0;find 1,1,1,1;find 2,2,2,2;find 3,3,3,3;";
        noFault(four + "week 01;", 5);
        Desk y = new Desk().text(four + "find 0,0").due("fault 0", 52).due("fault 1", 1).due("fault 2", 8);
        y.leaves("type 44", LIMIT).leaves("play", NOT_POSSIBLE).due("fault 2", 8);
        Desk z = new Desk().text(four + "week 10;").due("undo", NOT_POSSIBLE).due("play", 5).due("undo", 0).leaves("type 32", LIMIT);
        z.due("clearText", 60).due("count 14", 0);
    }

    private static void characters() {
        sentence("character: 32 to 126 .. INVALID_ARGUMENT if character is out of range");
        Desk x = new Desk().refusesBeyond("type #", 32, 126).due("type 32", 1).due("type 126", 2).refusesBeyond("type #", 32, 126);
        x.leaves("type " + (65536 + 'h'), INVALID).leaves("type 0", INVALID).leaves("type -1", INVALID).due("count 14", 2);
        Desk y = busy().refusesBeyond("type #", 32, 126).due("play", 2);
        y.due("count 14", 12);
    }

    private static void formOfNumbers() {
        sentence("numbers, values too, of 1 or 2 digits, 0 ahead allowed");
        String[] orders = {"find 1,1,1,1;", "claim 1,1,1,1;", "tell 0,0,0;", "week 1;"};
        for (String order : orders) {
            Desk x = new Desk().all("claim 0 0 0 0");
            int first = order.indexOf(' ') + 1;
            for (int at = first; at < order.length(); at += 2) {
                String ahead = order.substring(0, at);
                String digit = order.substring(at, at + 1);
                String behind = order.substring(at + 1);
                noFault(x, order, 1);
                noFault(x, ahead + "0" + digit + behind, 1);
                faultIs(x, ahead + behind, 0, 1, at);
                faultIs(x, ahead + "00" + digit + behind, 0, 1, at + 2);
                faultIs(x, ahead + "99" + behind, 0, 2, INVALID);
                faultIs(x, ahead + "100" + behind, 0, 1, at + 2);
                faultIs(x, ahead + " " + digit + behind, 0, 1, at);
                faultIs(x, ahead + digit + " " + behind, 0, 1, at + 1);
                faultIs(x, ahead + "+" + digit + behind, 0, 1, at);
                faultIs(x, ahead + "-" + digit + behind, 0, 1, order.startsWith("claim") ? at + 1 : at);
                faultIs(x, ahead + "/" + behind, 0, 1, at);
                faultIs(x, ahead + ":" + behind, 0, 1, at);
                faultIs(x, ahead + digit + "/" + behind, 0, 1, at + 1);
                faultIs(x, ahead + digit + ":" + behind, 0, 1, at + 1);
            }
        }
        noFault("find 0,00,9,09;", 1);
        noFault("claim 0,00,9,09;", 1);
        noFault(full(), "tell 11,03,09;tell 00,0,9;", 2);
        faultIs(full(), "tell 12,3,9;", 0, 2, INVALID);
        noFault("week 20;week 09;week 01;", 3);
    }

    private static void formOfOrders() {
        sentence("\"claim \" and four of a value or \"-\" (not told), with \",\" between them .. orders, each followed by \";\"");
        noFault("claim -,1,1,1;claim 1,-,1,1;claim 1,1,-,1;claim 1,1,1,-;", 4);
        Desk x = new Desk().text("claim -,-,-,7;").due("play", 1).due("claimOf 0 0", NOT_FOUND).due("claimOf 0 3", 7);
        x.due("claimOf 0 1", NOT_FOUND).due("claimOf 0 2", NOT_FOUND);
        faultIs("claim -1,1,1,1;", 0, 1, 7);
        faultIs("claim --,1,1,1;", 0, 1, 7);
        faultIs("claim 1-,1,1,1;", 0, 1, 7);
        faultIs("find -,1,1,1;", 0, 1, 5);
        faultIs("find 1,1,1,-;", 0, 1, 11);
        faultIs("tell -,0,0;", 0, 1, 5);
        faultIs("tell 0,0,-;", 0, 1, 9);
        faultIs("week -;", 0, 1, 5);
        faultIs("find 1,1,1;", 0, 1, 10);
        faultIs("find 1,1,1,1,1;", 0, 1, 12);
        faultIs("claim 1,1,1;", 0, 1, 11);
        faultIs("claim 1,1,1,1,1;", 0, 1, 13);
        faultIs("tell 0,0;", 0, 1, 8);
        faultIs("tell 0,0,0,0;", 0, 1, 10);
        faultIs("week 1,1;", 0, 1, 6);
        faultIs("hand 1;", 0, 1, 4);
        faultIs("hand,", 0, 1, 4);
        faultIs("hand;,", 5, 1, 0);
        faultIs("hand; ", 5, 1, 0);
        faultIs(" hand;", 0, 1, 0);
        faultIs(";", 0, 1, 0);
        faultIs("HAND;", 0, 1, 0);
        faultIs("drop 0;", 0, 1, 0);
        faultIs("set 0,1;", 0, 1, 0);
        faultIs("undo;", 0, 1, 0);
        faultIs("weeks 1;", 0, 1, 4);
        faultIs("week1;", 0, 1, 4);
        faultIs("find  1,1,1,1;", 0, 1, 5);
        faultIs("find 1;1;1;1;", 0, 1, 6);
        faultIs("find 1.1.1.1;", 0, 1, 6);
    }

    private static void endsTooEarly() {
        sentence("at which character of the order, from 0, it breaks off (of one that the text ends too early it is its length)");
        String[] orders = {"find 1,02,3,4;", "claim -,02,3,-;", "tell 00,1,2;", "week 1;", "hand;"};
        for (String order : orders) {
            for (int end = 1; end < order.length(); end++) {
                String early = order.substring(0, end);
                faultIs(early, 0, 1, end);
                faultIs(early + "!", 0, 1, end);
                faultIs("hand;week 1;" + early, 12, 1, end);
                faultIs("hand;week 1;" + early + "!hand;", 12, 1, end);
            }
            Desk x = new Desk().all("claim 1 1 1 1");
            noFault(x, order, 1);
            faultIs(x, order + "!", order.length(), 1, 0);
        }
        // What a text had that is emptied by now is not read on.
        Desk y = new Desk().text("hand;hand;").text("hand").due("fault 0", 0).due("fault 2", 4).all("type 59").due("play", 1);
        y.text("h").due("fault 2", 1);
    }

    private static void firstFault() {
        sentence("The fault of the text is the position of the first character of the first order that is not possible");
        faultIs("x", 0, 1, 0);
        faultIs("hand;x", 5, 1, 0);
        faultIs("hand;week 0;x", 5, 2, INVALID);
        faultIs("hand;x;week 0;", 5, 1, 0);
        faultIs("week 0;week 21;", 0, 2, INVALID);
        faultIs("hand;hand;hand;hand;hand;hand;hand;hand;hand;hand;hand;week", 55, 1, 4);
        faultIs("hand;hand;hand;hand;hand;hand;hand;hand;hand;hand;hand;hand!", 55, 1, 4);
        faultIs("hand;hand;hand;hand;hand;hand;hand;hand;hand;hand;hand;hand", 55, 1, 4);
        faultIs("hand;hand;hand;hand;hand;hand;hand;hand;hand;hand;week 01;w", 58, 1, 1);
        // Position 59 is the last one that there is.
        faultIs("week 1;week 1;week 1;week 01;week 01;hand;hand;hand;week 1;h", 59, 1, 1);
    }

    private static void causeOfCalls() {
        sentence("otherwise 2, when those ahead of it are done; its cause is .. the error code that the call returns for it");
        faultIs("find 0,0,0,10;", 0, 2, INVALID);
        faultIs("claim 10,-,-,-;", 0, 2, INVALID);
        faultIs("claim -,-,-,-;", 0, 2, NOT_POSSIBLE);
        faultIs("tell 0,0,0;", 0, 2, INVALID);
        noFault("claim 0,-,-,-;tell 0,3,9;", 2);
        faultIs("claim 0,-,-,-;tell 1,0,0;", 14, 2, INVALID);
        faultIs("claim 0,-,-,-;tell 0,4,0;", 14, 2, INVALID);
        faultIs("claim 0,-,-,-;tell 0,0,10;", 14, 2, INVALID);
        noFault("claim 0,-,-,-;week 5;tell 0,0,0;", 3);
        faultIs("claim 0,-,-,-;week 6;tell 0,0,0;", 21, 2, INVALID);
        noFault("week 1;week 20;", 2);
        faultIs("week 0;", 0, 2, INVALID);
        faultIs("week 00;", 0, 2, INVALID);
        faultIs("week 21;", 0, 2, INVALID);
        Desk x = new Desk().times(11, "find 0 0 0 0").times(11, "claim 0 0 0 0");
        noFault(x, "find 0,0,0,0;claim 0,-,-,-;", 2);
        faultIs(x, "find 0,0,0,0;find 0,0,0,0;", 13, 2, LIMIT);
        faultIs(x, "claim 0,-,-,-;claim 0,-,-,-;", 14, 2, LIMIT);
        noFault(x, "find 0,0,0,0;week 6;find 0,0,0,0;", 3);
        faultIs(full(), "claim -,-,-,-;", 0, 2, NOT_POSSIBLE);
        noFault(full(), "hand;find 0,0,0,0;claim 0,0,0,0;", 3);
        Desk late = new Desk().times(49, "weeks 20");
        noFault(late, "week 19;", 1);
        faultIs(late, "week 20;", 0, 2, LIMIT);
        faultIs(late, "week 18;week 1;week 1;", 15, 2, LIMIT);
        faultIs(late, "week 21;", 0, 2, INVALID);
    }

    private static void faultOfNoText() {
        sentence("NOT_FOUND if the text has no fault (also if it is empty)");
        Desk x = new Desk().leaves("fault 0", NOT_FOUND).leaves("fault 1", NOT_FOUND).leaves("fault 2", NOT_FOUND);
        x.text("x").due("fault 0", 0).due("clearText", 1).leaves("fault 0", NOT_FOUND).leaves("fault 1", NOT_FOUND);
        x.leaves("fault 2", NOT_FOUND);
        busy().leaves("fault 0", NOT_FOUND).leaves("fault 1", NOT_FOUND).leaves("fault 2", NOT_FOUND);
    }

    private static void textStays() {
        sentence("The text stays, whether it has a fault or not");
        Desk x = busy().text("find 4,4,4,4;").due("play", 1).due("count 14", 13).due("play", 1).due("count 1", 5);
        x.due("undo", 3).due("count 14", 13).due("play", 1);
        x.text("find 4,4,4,4;find").leaves("play", NOT_POSSIBLE).due("count 14", 17).due("fault 0", 13).due("fault 2", 4);
        x.text("week 0;").leaves("play", NOT_POSSIBLE).leaves("fault 2", INVALID).due("count 14", 7);
    }

    // ---- the history

    private static void statesOfHistory() {
        sentence("A history of at most 4 states is kept: .. if there are 5 states then, the oldest one is dropped");
        Desk x = new Desk();
        for (int i = 1; i <= 7; i++) {
            x.all("find " + i + " 0 0 0").due("count 13", Math.min(i, 4));
        }
        for (int left = 3; left >= 0; left--) {
            x.due("undo", left).due("count 13", left).due("count 1", left + 3).due("umbrella " + (left + 2) + " 0", left + 3);
        }
        x.leaves("undo", NOT_POSSIBLE).due("count 1", 3).due("count 5", 3);
        Desk four = new Desk().all("find 1 0 0 0", "find 2 0 0 0", "find 3 0 0 0", "find 4 0 0 0").due("count 13", 4);
        four.due("undo", 3).due("undo", 2).due("undo", 1).due("undo", 0).due("count 1", 0).leaves("undo", NOT_POSSIBLE);
        Desk again = new Desk().times(5, "find 1 1 1 1").due("undo", 3).due("undo", 2).times(3, "claim 1 -1 -1 -1").due("count 13", 4);
        again.due("undo", 3).due("count 2", 2).due("undo", 2).due("undo", 1).due("count 2", 0).due("count 1", 3);
        again.due("undo", 0).due("count 1", 2).leaves("undo", NOT_POSSIBLE);
    }

    private static void everythingButTheText() {
        sentence("each change records everything before it but the text");
        Desk x = busy().due("undo", 3);
        x.undone("find 4 4 4 4", 3).undone("claim 4 4 4 4", 3).undone("tell 0 0 2", 1).undone("tell 0 2 2", 0);
        x.undone("drop 1", 2).undone("weeks 1", 0).undone("weeks 20", 3).undone("hand", 3).undone("play", 2);
        for (int what = 0; what <= 6; what++) {
            x.undone("set " + what + " " + GREATEST[what], what == 4 ? 3 : FIRST[what]);
        }
        Desk y = full().due("undo", 3).due("undo", 2).all("set 5 5", "undo");
        y.undone("weeks 6", 11).undone("weeks 20", 11).undone("hand", 11).undone("set 5 1", 6);
        Desk z = new Desk().all("find 1 1 1 1").text("hand;").due("undo", 0).due("count 14", 5).due("count 1", 0).all("hand");
        z.all("clearText").due("undo", 0).due("count 14", 0);
    }

    private static void whatIsAChange() {
        sentence("The changes are the calls of find, claim, tell, drop, weeks, hand, set and play that return no error");
        String[] changes = {"find 1 1 1 1", "claim 1 1 1 1", "tell 0 0 1", "drop 0", "weeks 1", "hand", "set 0 1", "play"};
        for (String change : changes) {
            Desk x = new Desk().all("claim 1 -1 -1 -1", change).due("count 13", 2).due("undo", 1).due("count 2", 1).due("undo", 0);
            x.due("count 2", 0);
        }
        String[] refused = {"find 1 1 1 10", "claim 1 1 1 10", "tell 0 0 10", "drop 1", "weeks 0", "set 0 4", "claim -1 -1 -1 -1"};
        Desk y = new Desk().all("claim 1 -1 -1 -1");
        for (String call : refused) {
            y.leaves(call, call.equals("claim -1 -1 -1 -1") ? NOT_POSSIBLE : INVALID).due("count 13", 1);
        }
        y.all("type 120").due("count 13", 1).leaves("play", NOT_POSSIBLE).due("count 13", 1).all("clearText").due("count 13", 1);
        y.due("undo", 0);
    }

    private static void undoOfNothing() {
        sentence("NOT_POSSIBLE if it is empty (undo)");
        Desk x = new Desk().leaves("undo", NOT_POSSIBLE).all("find 1 1 1 1").due("undo", 0).leaves("undo", NOT_POSSIBLE);
        x.due("count 13", 0).text("find 1,1,1,1;").leaves("undo", NOT_POSSIBLE).due("play", 1).due("undo", 0).leaves("undo", NOT_POSSIBLE);
        Desk y = busy().due("undo", 3).due("undo", 2).due("undo", 1).due("undo", 0).leaves("undo", NOT_POSSIBLE).leaves("undo", NOT_POSSIBLE);
        y.due("find 4 4 4 4", 3).due("undo", 0);
    }

    private static void playOfNothing() {
        sentence("They are one change, also if there are none");
        Desk x = new Desk().due("play", 0).due("count 13", 1).due("undo", 0);
        x.text("find 1,1,1,1;find 2,2,2,2;claim 1,-,-,-;week 1;").due("play", 4).due("count 13", 1).due("count 1", 2);
        x.due("undo", 0).due("count 1", 0).due("count 2", 0).due("count 0", 0).undone("play", 4);
        Desk y = new Desk().all("find 1 1 1 1").times(4, "play").due("count 13", 4).due("undo", 3).due("undo", 2).due("undo", 1);
        y.due("undo", 0).due("count 1", 1).leaves("undo", NOT_POSSIBLE);
    }

    private static void playOfAFault() {
        sentence("NOT_POSSIBLE if it has a fault");
        String[] faulty = {"x", "find 4,4,4,4;x", "find 4,4,4,4;hand", "hand;week 0;", "week 6;tell 0,0,0;", "week 20;week 21;"};
        for (String text : faulty) {
            busy().text(text).leaves("play", NOT_POSSIBLE);
        }
        Desk x = full().text("hand;find 1,1,1,1;find 2,2,2,2;week 1;week 1").leaves("play", NOT_POSSIBLE);
        x.all("type 59").due("play", 5).due("count 1", 2);
    }

    // ---- which of several errors

    private static void invalidRatherThanNotPossible() {
        sentence("INVALID_ARGUMENT is returned rather than NOT_POSSIBLE");
        Desk x = busy().leaves("claim -1 -1 -1 -2", INVALID).leaves("claim -2 -1 -1 -1", INVALID).leaves("claim -1 10 -1 -1", INVALID);
        x.leaves("claim -1 -1 -1 -1", NOT_POSSIBLE);
        faultIs("claim -,-,-,10;", 0, 2, INVALID);
    }

    private static void notPossibleRatherThanLimit() {
        sentence("NOT_POSSIBLE rather than LIMIT_REACHED");
        Desk x = full().leaves("claim -1 -1 -1 -1", NOT_POSSIBLE).leaves("claim 0 -1 -1 -1", LIMIT);
        x.text("find 1,1,1,1;").due("fault 2", LIMIT).leaves("play", NOT_POSSIBLE);
    }

    private static void invalidRatherThanLimit() {
        sentence("INVALID_ARGUMENT .. rather than LIMIT_REACHED");
        Desk x = full().leaves("find 0 0 0 10", INVALID).leaves("find -1 0 0 0", INVALID).leaves("find 0 0 0 0", LIMIT);
        x.leaves("claim 0 0 0 10", INVALID).leaves("claim -2 -1 -1 -1", INVALID);
        Desk late = new Desk().times(49, "weeks 20").all("weeks 19").leaves("weeks 21", INVALID).leaves("weeks 0", INVALID);
        late.leaves("weeks " + Integer.MAX_VALUE, INVALID).leaves("weeks " + Integer.MIN_VALUE, INVALID).leaves("weeks 1", LIMIT);
        Desk long60 = new Desk().times(60, "type 120").leaves("type 31", INVALID).leaves("type 127", INVALID).leaves("type 32", LIMIT);
        long60.leaves("type 126", LIMIT);
    }

    private static void invalidRatherThanNotFound() {
        sentence("LIMIT_REACHED rather than NOT_FOUND .. INVALID_ARGUMENT rather than all of them");
        Desk x = new Desk().leaves("umbrella 0 5", INVALID).leaves("umbrella 0 6", INVALID).leaves("claimOf 0 0", INVALID);
        x.leaves("claimOf 0 5", INVALID).leaves("book 0 4", INVALID).leaves("book 0 -1", INVALID).leaves("book -1 0", INVALID);
        x.leaves("book " + Integer.MAX_VALUE + " 4", INVALID).leaves("fault 3", INVALID).leaves("fault -1", INVALID);
        x.all("find 1 1 1 1", "claim 2 -1 -1 -1").leaves("umbrella 0 9", INVALID).leaves("umbrella 0 5", NOT_FOUND);
        x.leaves("claimOf 0 8", INVALID).leaves("claimOf 0 5", NOT_FOUND).leaves("ifTold 0 0 10", INVALID).leaves("ifTold 0 4 0", INVALID);
        x.leaves("ifTold 1 0 1", INVALID).leaves("ifTold 0 0 3", NOT_FOUND);
    }

    private static void errorsChangeNothing() {
        sentence("A call that returns an error changes nothing");
        String[] refused = {"find 10 0 0 0", "find 0 -1 0 0", "claim 10 0 0 0", "claim 0 -2 0 0", "tell 3 0 0", "tell -1 0 0",
            "tell 0 4 0", "tell 0 -1 0", "tell 0 0 10", "tell 0 0 -1", "drop 3", "drop -1", "weeks 0", "weeks 21", "set 7 1",
            "set -1 1", "set 0 4", "set 3 0", "umbrella 3 0", "umbrella 0 9", "claimOf 3 0", "claimOf 0 8", "points 3 0",
            "points 0 3", "having 4 0", "having 0 10", "book -1 0", "book 0 4", "why 3 0", "why 0 3", "ifTold 3 0 0",
            "ifTold 0 4 0", "ifTold 0 0 10", "ifWeeks 0 0", "ifWeeks 21 0", "ifWeeks 1 3", "count -1", "count 15", "count 27",
            "type 31", "type 127", "fault 3", "fault -1"};
        Desk x = busy();
        for (String call : refused) {
            x.leaves(call, INVALID);
        }
        x.leaves("claim -1 -1 -1 -1", NOT_POSSIBLE).leaves("claimOf 0 2", NOT_FOUND).leaves("book 3 0", NOT_FOUND).leaves("fault 0", NOT_FOUND);
        full().leaves("find 0 0 0 0", LIMIT).leaves("claim 0 0 0 0", LIMIT);
    }

    private static void questionsChangeNothing() {
        sentence("The changes are the calls of find, claim, tell, drop, weeks, hand, set and play (no others)");
        Desk x = busy().leaves("umbrella 0 5", 0).leaves("claimOf 0 5", 0).leaves("points 0 0", 1033).leaves("having 0 1", 2);
        x.leaves("book 0 1", 2).leaves("why 0 0", 0).leaves("ifTold 0 0 2", 0).leaves("ifTold 1 3 5", 1).leaves("oddest", 2);
        x.leaves("ifWeeks 20 0", 3).leaves("ifWeeks 20 1", 3).leaves("ifWeeks 1 2", 3).leaves("count 3", 3).leaves("count 4", 3);
        x.leaves("mean", Float.floatToIntBits(64f / 3f)).leaves("count 13", 4).leaves("fault 0", NOT_FOUND);
    }

    // ---- numbers of umbrellas and claims

    private static void noSuchUmbrella() {
        sentence("If there is no umbrella with a certain number, this is INVALID_ARGUMENT");
        Desk x = busy().refusesBeyond("umbrella # 0", 0, 2).refusesBeyond("points # 0", 0, 2).refusesBeyond("why # 0", 0, 2);
        x.due("umbrella 0 0", 1).due("umbrella 2 0", 0).due("points 2 0", 1003).due("why 2 0", 1);
        x.due("hand", 3).leaves("umbrella 0 0", INVALID).leaves("points 0 0", INVALID).leaves("why 0 0", INVALID);
        Desk y = full().due("umbrella 11 0", 1).due("points 11 11", 1022).due("why 11 11", 0);
        y.refusesBeyond("umbrella # 0", 0, 11).refusesBeyond("points # 11", 0, 11).refusesBeyond("why # 11", 0, 11);
    }

    private static void noSuchClaim() {
        sentence("If there is no claim with a certain number, this is INVALID_ARGUMENT");
        Desk x = busy().refusesBeyond("claimOf # 4", 0, 2).refusesBeyond("points 0 #", 0, 2).refusesBeyond("why 0 #", 0, 2);
        x.refusesBeyond("tell # 0 0", 0, 2).refusesBeyond("drop #", 0, 2).refusesBeyond("ifTold # 0 0", 0, 2);
        x.due("claimOf 2 7", 2).due("points 0 2", 1000 - 12).due("why 0 2", 1).due("ifTold 2 0 0", 2).due("tell 2 0 0", 2);
        x.due("hand", 3).leaves("claimOf 0 4", INVALID).leaves("tell 0 0 0", INVALID).leaves("drop 0", INVALID);
        x.leaves("ifTold 0 0 0", INVALID);
        Desk y = full().due("claimOf 11 0", 1).due("ifTold 11 0 1", 11).due("tell 11 0 1", 0).due("drop 11", 11);
        y.refusesBeyond("claimOf # 4", 0, 10).refusesBeyond("points 11 #", 0, 10).refusesBeyond("why 11 #", 0, 10);
        y.refusesBeyond("tell # 0 0", 0, 10).refusesBeyond("drop #", 0, 10).refusesBeyond("ifTold # 0 0", 0, 10);
    }

    private static void tellsADetail() {
        sentence("A claim tells a detail; if it told another value of it before, that is one doubt more");
        Desk x = new Desk().all("claim 0 -1 9 -1").refusesBeyond("tell 0 # 0", 0, 3).refusesBeyond("tell 0 0 #", 0, 9);
        x.due("tell 0 0 0", 0).due("tell 0 3 9", 0).due("tell 0 1 0", 0).due("claimOf 0 7", 0).due("claimOf 0 1", 0).due("claimOf 0 3", 9);
        x.due("tell 0 2 9", 0).due("tell 0 2 0", 1).due("tell 0 0 9", 2).due("tell 0 0 9", 2).due("tell 0 0 0", 3).due("claimOf 0 7", 3);
        x.due("tell 0 1 1", 4).due("tell 0 3 0", 5).leaves("tell 0 3 10", INVALID).leaves("tell 0 4 1", INVALID).due("claimOf 0 7", 5);
        x.due("count 6", 1);
    }

    private static void dropsAClaim() {
        sentence("Drops a claim (it does not lapse by that) .. Returns how many claims are left");
        Desk x = full().due("count 12", 10).due("drop 11", 11).refusesBeyond("drop #", 0, 10);
        for (int left = 10; left >= 0; left--) {
            x.due("drop 0", left);
        }
        x.leaves("drop 0", INVALID).due("count 11", 12).due("count 9", 0).due("count 2", 0).due("count 12", 10).due("book 0 1", 1);
        x.due("count 10", 55);
    }

    private static void weeksAtOnce() {
        sentence("many: 1 to 20 .. INVALID_ARGUMENT if many is out of range (weeks)");
        Desk x = busy().refusesBeyond("weeks #", 1, 20).due("count 0", 15).due("weeks 1", 0).due("count 0", 16).due("weeks 20", 3);
        x.due("count 0", 36).due("undo", 3).due("count 0", 16);
    }

    private static void moreThan999Weeks() {
        sentence("LIMIT_REACHED if more than 999 weeks would have gone by");
        Desk x = new Desk().times(49, "weeks 20").all("find 1 1 1 1", "claim 1 -1 -1 -1").leaves("weeks 20", LIMIT).due("count 0", 980);
        x.due("weeks 19", 1).due("count 0", 999).due("book 0 0", 986).leaves("weeks 1", LIMIT).leaves("weeks 20", LIMIT);
        x.due("undo", 3).due("count 0", 980).leaves("weeks 20", LIMIT).due("weeks 18", 1).due("count 0", 998).leaves("weeks 2", LIMIT);
        x.all("set 5 1", "find 1 1 1 1").due("weeks 1", 1).due("book 0 0", 999).leaves("weeks 1", LIMIT);
        // Nothing else is stopped by it.
        x.due("find 1 1 1 1", 0).due("claim 1 -1 -1 -1", 0).due("hand", 1).due("book 0 0", 999).due("count 0", 999);
    }

    private static void handsNone() {
        sentence("Hands out all umbrellas that are matched. Returns how many these are (none, all 12)");
        Desk x = new Desk().due("hand", 0).due("count 13", 1).due("count 7", 0).due("count 12", 0).all("find 1 1 1 1").due("hand", 0);
        x.due("count 1", 1).all("claim 2 -1 -1 -1").due("hand", 0).due("count 2", 1).due("count 1", 1).due("count 12", 0);
        full().due("hand", 12).due("count 7", 12).due("count 1", 0).due("count 2", 0).due("hand", 0).due("count 7", 12);
    }

    // ---- what there is

    private static void whatOfUmbrella() {
        sentence("what: 0 to 8 (umbrella)");
        Desk x = busy().refusesBeyond("umbrella 0 #", 0, 8).refusesBeyond("umbrella 2 #", 0, 8);
        int[] answers = {1, 2, 3, 4, 1, 0, 33, 2, 43};
        for (int what = 0; what <= 8; what++) {
            x.due("umbrella 0 " + what, answers[what]);
        }
    }

    private static void notMatchedUmbrella() {
        sentence("NOT_FOUND for 5 and 6 if it is not matched");
        Desk x = new Desk().all("find 1 1 1 1").leaves("umbrella 0 5", NOT_FOUND).leaves("umbrella 0 6", NOT_FOUND).due("umbrella 0 7", 0);
        x.all("claim 1 2 -1 -1").due("umbrella 0 5", 0).due("umbrella 0 6", 8).due("umbrella 0 7", 1);
        x.all("set 3 9").leaves("umbrella 0 5", NOT_FOUND).leaves("umbrella 0 6", NOT_FOUND).due("umbrella 0 7", 0);
        // One that suits but is taken by another umbrella is still counted.
        Desk y = new Desk().all("find 1 1 1 1", "find 1 1 1 1", "claim 1 -1 -1 -1").leaves("umbrella 1 5", NOT_FOUND);
        y.leaves("umbrella 1 6", NOT_FOUND).due("umbrella 1 7", 1).due("umbrella 1 8", 44);
    }

    private static void whatOfClaim() {
        sentence("what: 0 to 7 (claimOf)");
        Desk x = busy().refusesBeyond("claimOf 0 #", 0, 7).refusesBeyond("claimOf 2 #", 0, 7);
        int[] answers = {0, 9, NOT_FOUND, NOT_FOUND, 1, 2, 1, 2};
        for (int what = 0; what <= 7; what++) {
            x.due("claimOf 2 " + what, answers[what]);
        }
    }

    private static void notToldOrMatchedClaim() {
        sentence("NOT_FOUND for 0 to 3 if the detail is not told, for 5 if it is not matched");
        String[] claims = {"claim 0 -1 -1 -1", "claim -1 0 -1 -1", "claim -1 -1 0 -1", "claim -1 -1 -1 0"};
        Desk x = new Desk();
        for (int claim = 0; claim < 4; claim++) {
            x.all(claims[claim]);
            for (int detail = 0; detail < 4; detail++) {
                x.leaves("claimOf " + claim + " " + detail, detail == claim ? 0 : NOT_FOUND);
            }
            x.leaves("claimOf " + claim + " 5", NOT_FOUND).due("claimOf " + claim + " 6", 0).due("claimOf " + claim + " 4", 0);
        }
        x.due("tell 0 1 0", 0).due("claimOf 0 1", 0).all("find 0 0 0 0").due("claimOf 0 5", 0).due("claimOf 0 6", 1);
        x.leaves("claimOf 1 5", NOT_FOUND).due("claimOf 1 6", 1);
    }

    private static void thousandAndPoints() {
        sentence("Returns 1000 and the points, together");
        Desk x = new Desk().all("find 1 1 1 1", "claim 1 1 1 1").due("points 0 0", 1048).all("claim 1 2 2 2").due("points 0 1", 1000);
        x.all("set 1 5").due("points 0 1", 997).all("claim 2 2 2 2", "set 1 20").due("points 0 2", 920).all("set 2 20");
        for (int doubts = 1; doubts <= 52; doubts++) {
            x.due("tell 2 0 " + (doubts % 2 == 0 ? 2 : 3), doubts);
        }
        x.due("points 0 2", 920 - 1040).leaves("why 0 2", 1).due("claimOf 2 7", 52);
    }

    private static void havingAValue() {
        sentence("detail: 0 to 3, value: 0 to 9 .. INVALID_ARGUMENT if an argument is out of range (having)");
        Desk x = full().refusesBeyond("having # 0", 0, 3).refusesBeyond("having 0 #", 0, 9).refusesBeyond("having 3 #", 0, 9);
        x.due("having 3 0", 12).due("having 2 0", 12).due("having 0 0", 2).due("having 0 9", 1).due("having 3 9", 0).due("having 1 0", 10);
        x.due("hand", 12).due("having 3 0", 0);
        new Desk().due("having 0 0", 0).due("having 3 9", 0).refusesBeyond("having # 0", 0, 3).refusesBeyond("having 0 #", 0, 9);
    }

    private static void entriesOfTheBook() {
        sentence("INVALID_ARGUMENT if an argument is out of range (ago is not below 0); NOT_FOUND if there are not so many");
        Desk x = busy().leaves("book -1 0", INVALID).leaves("book " + Integer.MIN_VALUE + " 0", INVALID).refusesBeyond("book 0 #", 0, 3);
        x.due("count 12", 3).due("book 2 0", 2).leaves("book 3 0", NOT_FOUND).leaves("book " + Integer.MAX_VALUE + " 3", NOT_FOUND);
        int[][] entries = {{14, 2, 6, 0}, {8, 1, 6, 5}, {2, 0, 2, 6}};
        for (int ago = 0; ago < 3; ago++) {
            for (int what = 0; what < 4; what++) {
                x.due("book " + ago + " " + what, entries[ago][what]);
            }
        }
        full().due("book 9 1", 1).leaves("book 10 0", NOT_FOUND).leaves("book 11 0", NOT_FOUND).refusesBeyond("book 9 #", 0, 3);
    }

    // ---- what would be

    private static void reasonsInTheirOrder() {
        sentence("0 they are; otherwise the first of these that is so: 1 .. 2 .. 3 .. 4");
        Desk x = new Desk().all("find 1 1 1 1", "claim 1 1 2 2").due("why 0 0", 1).all("set 0 2").due("why 0 0", 0).all("set 3 16");
        x.due("points 0 0", 1016).due("why 0 0", 0).all("set 3 17").due("why 0 0", 2).all("set 0 1").due("why 0 0", 1);
        // Too many misses go ahead of few points, few points go ahead of pairs that are ahead.
        x.all("set 3 1", "claim 1 1 1 1").due("why 0 1", 0).due("why 0 0", 1).all("set 0 2").due("why 0 0", 3).all("set 3 40").due("why 0 0", 2);
        Desk y = new Desk().all("find 1 1 1 1", "find 1 1 1 1", "claim 1 1 1 1").due("why 0 0", 0).due("why 1 0", 4);
        y.all("claim 1 1 1 -1").due("why 1 1", 0).due("why 0 1", 3).due("why 1 0", 4).all("set 3 34").due("why 1 1", 2).due("why 0 1", 2);
    }

    private static void aheadOfThisOne() {
        sentence("3 the umbrella is matched with a claim in a pair that is ahead of this one; 4 the claim is, with an umbrella");
        // The umbrella 1 is matched, but behind: only the claim is matched ahead.
        Desk x = new Desk().all("find 1 1 1 1", "find 1 1 1 2", "claim 1 1 1 1", "claim -1 -1 -1 2").due("umbrella 1 5", 1);
        x.due("points 1 0", 1029).due("points 1 1", 1012).due("why 1 0", 4).due("why 0 1", 2);
        // Both are matched ahead: the umbrella is told.
        Desk y = new Desk().all("find 1 1 1 1", "find 2 2 2 2", "claim 1 1 1 -1", "claim 2 2 2 -1", "set 0 3", "set 1 0", "tell 0 3 2");
        y.due("points 1 0", 1012).due("why 0 0", 0).due("why 1 1", 0).due("why 1 0", 3).due("why 0 1", 2);
        // As many points: the pair with the lower claim, or with the lower umbrella, is ahead.
        Desk z = new Desk().all("find 1 1 1 1", "find 1 1 1 1", "claim 1 1 1 1", "claim 1 1 1 1").due("why 0 1", 3).due("why 1 0", 4);
        z.due("why 0 0", 0).due("why 1 1", 0);
    }

    private static void ifADetailWereTold() {
        sentence("Returns the umbrella; INVALID_ARGUMENT if an argument is out of range; NOT_FOUND if there is none (ifTold)");
        Desk x = busy().refusesBeyond("ifTold 0 # 0", 0, 3).refusesBeyond("ifTold 0 0 #", 0, 9).refusesBeyond("ifTold # 0 0", 0, 2);
        x.leaves("ifTold 0 0 1", 0).leaves("ifTold 0 3 9", 0).leaves("ifTold 2 3 0", 2).leaves("ifTold 1 0 9", NOT_FOUND);
        Desk y = new Desk().all("find 1 1 1 1", "claim 2 -1 -1 -1").leaves("ifTold 0 1 1", 0).all("set 3 9").leaves("ifTold 0 1 1", NOT_FOUND);
        // 12 less 2 for the doubt that comes with it.
        y.leaves("ifTold 0 0 1", 0).all("set 3 10").leaves("ifTold 0 0 1", 0).all("set 3 11").leaves("ifTold 0 0 1", NOT_FOUND);
        new Desk().all("claim 1 -1 -1 -1").leaves("ifTold 0 0 1", NOT_FOUND).leaves("ifTold 0 3 9", NOT_FOUND);
        full().leaves("ifTold 11 3 0", 11).leaves("ifTold 0 2 0", 0).leaves("ifTold 11 0 9", NOT_FOUND);
    }

    private static void oddestOfSeveral() {
        sentence("the greatest oddness of its four values, together; of several the lowest .. NOT_FOUND if there is none");
        Desk x = new Desk().leaves("oddest", NOT_FOUND).all("find 1 1 1 1").due("oddest", 0).all("find 1 1 1 1").due("oddest", 0);
        x.all("find 1 1 1 2").due("umbrella 2 8", 42).due("umbrella 0 8", 41).due("oddest", 2).all("find 1 1 2 1").due("oddest", 2);
        x.all("find 3 1 1 2").due("oddest", 4).all("weeks 6").leaves("oddest", NOT_FOUND);
        new Desk().times(12, "find 0 0 0 0").due("oddest", 0).due("umbrella 0 8", 4);
        full().due("umbrella 10 8", 24).due("umbrella 11 8", 24).due("oddest", 10);
    }

    private static void ifWeeksWent() {
        sentence("many: 1 to 20, what: 0 to 2 .. INVALID_ARGUMENT if an argument is out of range (ifWeeks)");
        Desk x = busy().refusesBeyond("ifWeeks # 0", 1, 20).refusesBeyond("ifWeeks 1 #", 0, 2).refusesBeyond("ifWeeks # 2", 1, 20);
        for (int what = 0; what <= 1; what++) {
            x.leaves("ifWeeks 1 " + what, 0).leaves("ifWeeks 4 " + what, 0).leaves("ifWeeks 5 " + what, 3).leaves("ifWeeks 20 " + what, 3);
        }
        x.leaves("ifWeeks 1 2", 3).leaves("ifWeeks 4 2", 3).leaves("ifWeeks 5 2", 0).leaves("ifWeeks 20 2", 0);
        // Pairs are matched anew then: without the first umbrella the claim that came later has the second one.
        Desk y = new Desk().all("find 1 1 1 1", "weeks 5", "find 1 1 1 2", "claim 1 -1 -1 -1").due("claimOf 0 5", 0);
        y.leaves("ifWeeks 1 0", 1).leaves("ifWeeks 1 2", 1).leaves("ifWeeks 6 0", 2).leaves("ifWeeks 6 1", 1).leaves("ifWeeks 6 2", 0);
        y.leaves("ifWeeks 5 1", 0).leaves("ifWeeks 5 2", 1);
        Desk z = full().leaves("ifWeeks 5 0", 0).leaves("ifWeeks 6 0", 12).leaves("ifWeeks 6 1", 12).leaves("ifWeeks 5 2", 12);
        z.leaves("ifWeeks 6 2", 0);
    }

    private static void ifWeeksBeyondTheLimit() {
        sentence("Returns the number; INVALID_ARGUMENT if an argument is out of range (ifWeeks names no LIMIT_REACHED)");
        Desk x = new Desk().times(49, "weeks 20").all("weeks 19", "find 1 1 1 1", "claim 1 -1 -1 -1").leaves("ifWeeks 5 0", 0);
        x.leaves("ifWeeks 6 0", 1).leaves("ifWeeks 20 0", 1).leaves("ifWeeks 20 1", 1).leaves("ifWeeks 5 2", 1).leaves("ifWeeks 20 2", 0);
        x.leaves("ifWeeks 21 0", INVALID).leaves("ifWeeks 0 0", INVALID).leaves("weeks 1", LIMIT);
    }

    private static void meanOfPairs() {
        sentence("Returns the bits of the float; NOT_FOUND if there are none (mean)");
        Desk x = new Desk().leaves("mean", NOT_FOUND).all("find 1 1 1 1", "claim 1 1 1 1").due("mean", Float.floatToIntBits(48f));
        x.all("set 2 20", "tell 0 0 1").due("mean", Float.floatToIntBits(48f)).all("tell 0 0 2", "set 3 13").leaves("mean", NOT_FOUND);
        x.all("set 3 12").due("mean", Float.floatToIntBits(12f));
        Desk y = new Desk().all("set 3 1").times(12, "find 0 0 0 0").all("claim 0 -1 -1 -1").due("mean", Float.floatToIntBits(1f));
        y.all("claim 0 0 -1 -1").due("mean", Float.floatToIntBits(1.5f)).all("claim 0 0 -1 -1").due("mean", Float.floatToIntBits(5f / 3f));
        y.all("claim 0 0 0 0").due("mean", Float.floatToIntBits(9f / 4f));
        // Powers of 2, where the exponent goes up.
        Desk z = new Desk().all("set 3 1").times(12, "find 0 0 0 0").all("claim 0 0 -1 -1").due("mean", Float.floatToIntBits(2f));
        z.all("drop 0", "claim 0 0 0 0").due("mean", Float.floatToIntBits(4f));
        Desk missed = new Desk().all("find 1 1 1 1", "claim 1 2 -1 -1").due("mean", Float.floatToIntBits(8f)).all("drop 0");
        missed.all("claim 1 1 1 2").due("mean", Float.floatToIntBits(32f)).all("set 1 5").due("mean", Float.floatToIntBits(31f));
        full().due("mean", Float.floatToIntBits((2 * 14f + 8 * 15f + 2 * 22f) / 12f));
    }

    private static void whatOfCount() {
        sentence("0 .. 14; 20 to 26 .. INVALID_ARGUMENT if what is out of range (count)");
        Desk x = busy();
        int[] beyond = {-1, 15, 16, 17, 18, 19, 27, 28, Integer.MIN_VALUE, Integer.MAX_VALUE};
        for (int what : beyond) {
            x.leaves("count " + what, INVALID);
        }
        int[] answers = {15, 3, 3, 3, 3, 5, 6, 1, 1, 1, 11, 1, 3, 4, 12};
        for (int what = 0; what <= 14; what++) {
            x.due("count " + what, answers[what]);
        }
        for (int what = 0; what <= 6; what++) {
            x.due("count " + (20 + what), what == 4 ? 3 : FIRST[what]);
        }
    }

    private static void pairsTwice() {
        sentence("4: the same, told by claims that ask .. until all are taken, or have asked for all");
        new Desk().due("count 4", 0).all("find 1 1 1 1").due("count 4", 0).all("claim 2 -1 -1 -1").due("count 4", 0);
        new Desk().all("claim 1 -1 -1 -1").due("count 4", 0);
        full().due("count 4", 12).all("set 3 15").due("count 4", 10).all("set 3 48").due("count 4", 0);
        new Desk().all("find 1 1 1 1", "claim 1 -1 -1 -1").due("count 4", 1).due("count 4", 1).due("count 3", 1).due("count 4", 1);
        // All twelve claims ask all umbrellas, in the same order.
        Desk x = new Desk().all("set 3 4").times(12, "find 0 0 0 0").times(12, "claim 0 0 0 0").due("count 4", 12);
        x.all("set 3 5").due("count 4", 0);
        // The later claim takes the umbrella from the first one, which has to ask on.
        Desk y = new Desk().all("find 1 1 1 1", "find 1 2 2 2", "claim 1 -1 -1 -1", "claim 1 1 -1 -1").due("count 4", 2).due("count 3", 2);
        y.all("claim 1 2 -1 -1").due("count 4", 2).due("count 3", 2);
    }

    private static void whatOfFault() {
        sentence("0: its position; 1: its reason; 2: its cause .. INVALID_ARGUMENT if what is out of range");
        busy().refusesBeyond("fault #", 0, 2).text("hand;week 99;").refusesBeyond("fault #", 0, 2).leaves("fault 0", 5);
        busy().text("hand;week 99;").leaves("fault 1", 2).leaves("fault 2", INVALID);
        busy().text("hand;week 999;").leaves("fault 0", 5).leaves("fault 1", 1).leaves("fault 2", 7);
    }

    private static void clearsTheText() {
        sentence("Empties the text. Returns the length it had");
        Desk x = new Desk().due("clearText", 0).due("clearText", 0).all("type 120").due("clearText", 1).due("clearText", 0);
        x.times(59, "type 120").due("clearText", 59).times(60, "type 120").leaves("type 120", LIMIT).due("clearText", 60).due("count 14", 0);
        x.due("type 104", 1).due("fault 2", 1).due("count 13", 0);
    }
}
