import java.util.ArrayList;
import java.util.List;
import java.util.Random;

/** "Not promised": what is free can't be broken; what its sentences leave in force is tested here. */
final class NotPromisedTest {
    private static final int THREADS = 8;

    public static void main(String[] args) {
        Sentences.run(NotPromisedTest.class);
    }

    /** No state change is described for a call that asks, so the others answer as if it had not been made. */
    @Sentence("Nothing is promised beyond the answers and state changes described above")
    static void callsThatAskChangeNothing() {
        for (int seed = 1; seed <= 50; seed++) {
            ClauseGlass asked = new ClauseGlass();
            ClauseGlass notAsked = new ClauseGlass();
            Random random = new Random(seed);
            for (FaceCall call : changes(seed)) {
                ask(asked, random);
                Check.due("seed " + seed + ", " + call, call.answerOf(asked), call.answerOf(notAsked));
            }
        }
    }

    /** As many as leave room for one that asks before each of them, up to an object's last call. */
    private static List<FaceCall> changes(int seed) {
        Random random = new Random(-seed);
        List<FaceCall> calls = new ArrayList<>(
            List.of(new FaceCall("sort"), new FaceCall("con", 1, 0, 0, 0), new FaceCall("con", 1, 2, 0, 1)));
        while (calls.size() < Run.MOST_CALLS / 2) {
            int few = random.nextInt(4);
            int p = random.nextInt(24);
            calls.add(switch (random.nextInt(20)) {
                case 0 -> random.nextInt(4) == 0 ? new FaceCall("sort") : new FaceCall("begin", few);
                case 1 -> random.nextInt(4) == 0 ? new FaceCall("con", few, p % 3, 0, p % 2) : new FaceCall("begin", 1);
                case 2 -> new FaceCall("any", few % 2);
                case 3 -> new FaceCall("number", few);
                case 4, 5, 6, 7 -> new FaceCall("made", few, p, random.nextInt(24));
                default -> new FaceCall("clause", p);
            });
        }
        return calls;
    }

    private static void ask(ClauseGlass x, Random random) {
        int a = random.nextInt(24) - 1;
        int b = random.nextInt(24) - 1;
        FaceCall call = switch (random.nextInt(6)) {
            case 0 -> new FaceCall("takes", a % 9);
            case 1 -> new FaceCall("open");
            case 2 -> new FaceCall("covers", a, b);
            case 3 -> new FaceCall("meets", a, b);
            case 4 -> new FaceCall("lives", a % 13);
            default -> new FaceCall("count", a % 8);
        };
        call.answerOf(x);
    }

    @Sentence("the text of toString and the behaviour of equals and hashCode")
    static void theseThreeChangeNothing() {
        ClauseGlass asked = new ClauseGlass();
        ClauseGlass notAsked = new ClauseGlass();
        for (FaceCall call : changes(7)) {
            String free = asked.toString() + asked.hashCode() + asked.equals(notAsked);
            Check.due(call + " behind " + free, call.answerOf(asked), call.answerOf(notAsked));
        }
    }

    /** One object from several threads is not promised; each with an object of its own is left in force. */
    @Sentence("Use of one object from several threads at once is not promised to be safe")
    static void eachThreadWithItsOwnObject() throws InterruptedException {
        String due = answers(1);
        String[] got = new String[THREADS];
        List<Thread> threads = new ArrayList<>();
        for (int i = 0; i < THREADS; i++) {
            int which = i;
            threads.add(new Thread(() -> got[which] = answers(1)));
        }
        for (Thread thread : threads) {
            thread.start();
        }
        for (Thread thread : threads) {
            thread.join();
        }
        for (int i = 0; i < THREADS; i++) {
            Check.due("thread " + i + " has the answers of one alone", due.equals(got[i]), true);
        }
    }

    private static String answers(int seed) {
        StringBuilder all = new StringBuilder();
        for (int round = 0; round < 50; round++) {
            ClauseGlass x = new ClauseGlass();
            for (FaceCall call : changes(seed + round)) {
                all.append(call.answerOf(x)).append(' ');
            }
        }
        return all.toString();
    }

    @Sentence("and nothing about an object after its 512th call")
    static void theNextObjectIsAsNewWhateverCameBehindThe512th() {
        ClauseGlass old = new ClauseGlass();
        for (int round = 0; round < 4; round++) {
            for (FaceCall call : changes(round)) {
                call.answerOf(old);
            }
        }
        ClauseGlass fresh = new ClauseGlass();
        int[] due = {1, 0, 0, 0, 0, 1};
        for (int what = 0; what < due.length; what++) {
            Check.due("count(" + what + ")", fresh.count(what), due[what]);
        }
        Check.due("open()", fresh.open(), true);
    }
}
