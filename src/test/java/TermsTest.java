import java.lang.reflect.Field;
import java.lang.reflect.Modifier;
import java.util.ArrayList;
import java.util.Collections;
import java.util.IdentityHashMap;
import java.util.List;
import java.util.Set;

/** "Terms": what is there, how much of it, what is refused, and that a refused call changes nothing. */
final class TermsTest {
    public static void main(String[] args) {
        Sentences.run(TermsTest.class);
    }

    @Sentence("SORTS 0 .. 11")
    static void sort11IsLetThroughWhereverASortIsAskedFor() {
        Run run = new Run();
        run.sorts(11);
        run.due(0, "con", 11, 0, 0, 0);
        run.due(1, "con", 1, 1, 11, 0);
        run.due(2, "con", 1, 2, 0, 11);
        run.due(0, "any", 11);
        run.get("begin", 11);
        run.yes("lives", 11);
    }

    @Sentence("SORTS 0 .. 11")
    static void sort12IsBadWhereverASortIsAskedFor() {
        Run run = new Run();
        run.sorts(11);
        run.full("sort");
        for (int s : Run.beside(12)) {
            run.bad("con", s, 0, 0, 0);
            run.bad("con", 1, 1, s, 0);
            run.bad("con", 1, 2, 0, s);
            run.bad("any", s);
            run.bad("begin", s);
            run.bad("lives", s);
        }
    }

    @Sentence("0 are the ints, others have CONS")
    static void sort0HasNoConsAndTheOthersNoInts() {
        Run run = new Run();
        run.get("sort");
        run.bad("con", 0, 0, 0, 0);
        run.due(0, "con", 1, 0, 0, 0);
        int five = run.get("number", 5);
        run.get("begin", 1);
        run.bad("clause", five);
        run.get("begin", 0);
        run.yes("clause", five);
        run.bad("clause", run.get("made", 0, -1, -1));
    }

    @Sentence("(at most 30 in all, numbered from 0)")
    static void thirtyOfOneSortAndNoMoreOfAny() {
        Run run = new Run();
        run.sorts(2);
        for (int c = 0; c < 30; c++) {
            run.due(c, "con", 1, 0, 0, 0);
        }
        run.full("con", 1, 0, 0, 0);
        run.full("con", 2, 0, 0, 0);
        run.no("lives", 2);
    }

    @Sentence("(at most 30 in all, numbered from 0)")
    static void thirtyOfElevenSortsAndNoMoreOfAny() {
        Run run = new Run();
        run.sorts(11);
        for (int c = 0; c < 30; c++) {
            run.due(c, "con", 1 + c % 11, 1, 0, 0);
        }
        for (int s = 1; s <= 11; s++) {
            run.full("con", s, 0, 0, 0);
        }
        int any = run.get("any", 0);
        run.get("made", 0, any, -1);
        run.get("made", 29, any, -1);
        run.bad("made", 30, any, -1);
        run.bad("made", -1, any, -1);
    }

    @Sentence("each of one SORT")
    static void aConIsOfNoOtherSortThanItsOwn() {
        Run run = new Run();
        run.sorts(11);
        for (int s = 1; s <= 11; s++) {
            run.due(s - 1, "con", s, 0, 0, 0);
            run.due(s + 1, "count", 5);
            run.due(s - 1, "made", s - 1, -1, -1);
        }
        for (int s = 1; s <= 11; s++) {
            run.get("begin", s);
            run.bad("clause", s % 11);
            run.bad("covers", s - 1, s % 11);
            run.yes("clause", s - 1);
            run.no("open");
        }
    }

    @Sentence("with 0 to 2 PARTS of told SORTS")
    static void minusOneAndThreeAreBad() {
        Run run = new Run();
        run.get("sort");
        run.bad("con", 1, -1, 0, 0);
        run.due(0, "con", 1, 0, 0, 0);
        run.due(1, "con", 1, 2, 0, 1);
        run.bad("con", 1, 3, 0, 1);
    }

    @Sentence("VALUES of SORT 0: ints")
    static void fromTheLeastToTheGreatest() {
        Run run = new Run();
        int any = run.get("any", 0);
        int least = run.get("number", Integer.MIN_VALUE);
        int most = run.get("number", Integer.MAX_VALUE);
        run.yes("clause", least);
        run.yes("clause", most);
        run.yes("open");
        run.yes("clause", any);
        run.no("open");
    }

    @Sentence("VALUES of SORT 0: ints")
    static void manyNumbersInTreesDoNotUseThemUp() {
        Run run = new Run();
        run.get("sort");
        int quad = run.get("con", 1, 2, 1, 1);
        int pair = run.get("con", 1, 2, 0, 0);
        run.get("begin", 1);
        int v = Integer.MAX_VALUE - 6;
        for (int k = 0; k < 5; k++) {
            // Three CONS and four NUMBERS, which run over the greatest int to the least.
            int left = run.get("made", pair, run.get("number", v++), run.get("number", v++));
            int right = run.get("made", pair, run.get("number", v++), run.get("number", v++));
            run.yes("clause", run.get("made", quad, left, right));
            run.yes("open");
        }
        int any = run.get("any", 0);
        run.yes("clause", run.get("made", pair, any, any));
        run.yes("clause", run.get("made", quad, run.get("any", 1), run.get("any", 1)));
        run.no("open");
    }

    @Sentence("of others: trees: a CON of that SORT on top")
    static void eachLivingConOfThatSortAndNoOtherIsOnTop() {
        Run run = new Run();
        run.sorts(3);
        int one = run.get("made", run.get("con", 1, 0, 0, 0), -1, -1);
        run.get("con", 2, 0, 0, 0);
        int two = run.get("made", run.get("con", 1, 1, 0, 0), run.get("any", 0), -1);
        run.get("con", 1, 1, 3, 0);
        run.get("con", 2, 1, 1, 0);
        run.get("begin", 1);
        run.yes("clause", one);
        run.yes("open");
        run.yes("clause", two);
        run.no("open");
        run.get("con", 2, 0, 0, 0);
        run.no("open");
        run.get("con", 1, 0, 0, 0);
        run.yes("open");
    }

    @Sentence("VALUES of its PARTS' SORTS below")
    static void eachPartHasTheValuesOfItsOwnSort() {
        Run run = new Run();
        run.sorts(3);
        int no = run.get("made", run.get("con", 1, 0, 0, 0), -1, -1);
        int yes = run.get("made", run.get("con", 1, 0, 0, 0), -1, -1);
        int only = run.get("made", run.get("con", 2, 0, 0, 0), -1, -1);
        int pair = run.get("con", 3, 2, 1, 2);
        run.get("begin", 3);
        run.yes("clause", run.get("made", pair, no, only));
        run.no("clause", run.get("made", pair, no, run.get("any", 2)));
        run.yes("open");
        run.yes("clause", run.get("made", pair, yes, only));
        run.no("open");
        run.get("con", 2, 1, 1, 0);
        run.yes("open");
        run.yes("takes", 1);
    }

    @Sentence("(trees may be endless)")
    static void aConOfItselfAloneGivesAValue() {
        Run run = new Run();
        run.get("sort");
        run.get("con", 1, 1, 1, 0);
        run.yes("lives", 1);
        run.get("begin", 1);
        run.yes("open");
        run.yes("clause", run.chain(0, 12, run.get("any", 1)));
        run.no("open");
    }

    @Sentence("(trees may be endless)")
    static void aRingOfAllSortsGivesEachAValue() {
        Run run = new Run();
        run.sorts(11);
        for (int s = 1; s <= 10; s++) {
            run.get("con", s, 2, s + 1, 0);
            run.no("lives", 1);
        }
        run.get("con", 11, 2, 1, 1);
        run.due(12, "count", 5);
    }

    @Sentence("So a SORT may have none")
    static void withoutConsOrWithPartsThatHaveNone() {
        Run run = new Run();
        run.sorts(3);
        run.no("lives", 1);
        run.get("con", 2, 1, 1, 0);
        run.get("con", 3, 2, 3, 2);
        run.no("lives", 2);
        run.no("lives", 3);
        run.due(1, "count", 5);
        int any = run.get("any", 3);
        run.get("begin", 3);
        run.no("open");
        run.no("clause", any);
        run.no("meets", any, any);
        run.yes("covers", any, any);
    }

    @Sentence("PATTERNS, at most 200, numbered from 0")
    static void twoHundredOfEachKindAndNoMoreOfAny() {
        twoHundred("any", 0);
        twoHundred("number", 0);
        twoHundred("made", 0, -1, -1);
    }

    private static void twoHundred(String kind, int... args) {
        Run run = new Run();
        run.get("sort");
        run.get("con", 1, 0, 0, 0);
        for (int p = 0; p < 200; p++) {
            run.due(p, kind, args);
        }
        run.full("any", 1);
        run.full("number", 1);
        run.full("made", 0, 0, 0);
        run.yes("covers", 0, 199);
        run.bad("covers", 0, 200);
        run.bad("covers", -1, 0);
    }

    @Sentence("ANY of a SORT (each of its VALUES fits)")
    static void theEdgesOfTheIntsAndEndlessTreesToo() {
        Run run = new Run();
        run.get("sort");
        run.get("con", 1, 1, 1, 0);
        int number = run.get("any", 0);
        int tree = run.get("any", 1);
        run.yes("covers", number, run.get("number", Integer.MIN_VALUE));
        run.yes("covers", number, run.get("number", Integer.MAX_VALUE));
        run.yes("covers", tree, run.chain(0, 12, tree));
        run.yes("clause", number);
        run.no("open");
        run.get("begin", 1);
        run.yes("clause", tree);
        run.no("open");
    }

    @Sentence("a NUMBER (that int)")
    static void notTheOneBesideIt() {
        Run run = new Run();
        int least = run.get("number", Integer.MIN_VALUE);
        int most = run.get("number", Integer.MAX_VALUE);
        int zero = run.get("number", 0);
        int minusOne = run.get("number", -1);
        run.yes("covers", least, run.get("number", Integer.MIN_VALUE));
        run.no("meets", least, most);
        run.no("meets", zero, minusOne);
        run.no("meets", zero, least);
        run.no("meets", most, minusOne);
    }

    @Sentence("or a CON with PATTERNS of its PARTS' SORTS")
    static void eachKindOfPatternInEachPartAndNoneOfAnotherSort() {
        Run run = new Run();
        run.sorts(2);
        int leaf = run.get("con", 1, 0, 0, 0);
        int numberTree = run.get("con", 2, 2, 0, 1);
        int treeNumber = run.get("con", 2, 2, 1, 0);
        int[] numbers = {run.get("any", 0), run.get("number", 5)};
        int[] trees = {run.get("any", 1), run.get("made", leaf, -1, -1)};
        int made = 4;
        for (int number : numbers) {
            for (int tree : trees) {
                run.due(made++, "made", numberTree, number, tree);
                run.due(made++, "made", treeNumber, tree, number);
                run.bad("made", numberTree, tree, number);
                run.bad("made", treeNumber, number, tree);
                run.bad("made", numberTree, number, 4);
                run.bad("made", treeNumber, 4, number);
            }
        }
    }

    @Sentence("(VALUES with that CON on top whose PARTS fit these)")
    static void anotherConOrAnotherPartDoesNotFit() {
        Run run = new Run();
        run.get("sort");
        int one = run.get("con", 1, 1, 0, 0);
        int other = run.get("con", 1, 1, 0, 0);
        int five = run.get("number", 5);
        int six = run.get("number", 6);
        int oneFive = run.get("made", one, five, -1);
        run.yes("meets", oneFive, run.get("made", one, run.get("any", 0), -1));
        run.no("meets", oneFive, run.get("made", one, six, -1));
        run.no("meets", oneFive, run.get("made", other, five, -1));
    }

    @Sentence("Written out, a PATTERN has at most 12 CONS and NUMBERS")
    static void aPatternThatComesTwiceCountsTwice() {
        Run run = new Run();
        run.get("sort");
        int pair = run.get("con", 1, 2, 1, 1);
        int leaf = run.get("con", 1, 1, 0, 0);
        int any = run.get("any", 1);
        int two = run.get("made", leaf, run.get("number", 5), -1);
        int five = run.get("made", pair, two, two);
        int eleven = run.get("made", pair, five, five);
        run.full("made", pair, eleven, two);
        int six = run.get("made", pair, five, any);
        run.full("made", pair, six, six);
        int twelve = run.get("made", pair, five, six);
        run.full("made", pair, twelve, any);
        run.get("made", pair, eleven, any);
    }

    @Sentence("CLAUSES: at most 8 PATTERNS")
    static void eightAnysAndNoNinth() {
        Run run = new Run();
        int any = run.get("any", 0);
        for (int k = 0; k < 8; k++) {
            run.due(k == 0 ? 1 : 0, "clause", any);
        }
        run.full("clause", any);
        run.due(8, "count", 3);
    }

    @Sentence("PATTERNS of one SORT")
    static void noneOfAnotherWhateverIsThere() {
        Run run = new Run();
        run.get("sort");
        run.get("con", 1, 0, 0, 0);
        int tree = run.get("made", 0, -1, -1);
        int five = run.get("number", 5);
        for (int k = 0; k < 8; k++) {
            run.bad("clause", tree);
            run.get("clause", five);
        }
        run.bad("clause", tree);
        run.get("begin", 1);
        run.bad("clause", five);
        run.yes("clause", tree);
    }

    /** CON 0 is a link; answers PATTERNS that are 0, 1, .. 12 links. */
    private static int[] chains(Run run) {
        run.get("sort");
        run.get("con", 1, 1, 1, 0);
        int[] chains = new int[13];
        chains[0] = run.get("any", 1);
        for (int size = 1; size <= 12; size++) {
            chains[size] = run.get("made", 0, chains[size - 1], -1);
        }
        run.get("begin", 1);
        return chains;
    }

    @Sentence("with at most 40 CONS and NUMBERS in all (more: FULL)")
    static void fortyAreLetThroughFortyOneAreFull() {
        Run run = new Run();
        int[] chains = chains(run);
        for (int k = 0; k < 3; k++) {
            run.get("clause", chains[12]);
        }
        for (int size = 5; size <= 12; size++) {
            run.full("clause", chains[size]);
        }
        run.no("clause", chains[4]);
        for (int size = 1; size <= 12; size++) {
            run.full("clause", chains[size]);
        }
        run.no("clause", chains[0]);
        run.due(5, "count", 3);
    }

    @Sentence("with at most 40 CONS and NUMBERS in all (more: FULL)")
    static void fortyWithTheEighthClause() {
        Run run = new Run();
        int[] chains = chains(run);
        for (int k = 0; k < 7; k++) {
            run.get("clause", chains[5]);
        }
        run.full("clause", chains[6]);
        run.no("clause", chains[5]);
        run.full("clause", chains[0]);
        run.due(8, "count", 3);
    }

    @Sentence("with at most 40 CONS and NUMBERS in all (more: FULL)")
    static void numbersCountAsConsDo() {
        Run run = new Run();
        run.get("sort");
        int link = run.get("con", 1, 2, 0, 1);
        int any = run.get("any", 1);
        int five = run.get("number", 5);
        int ten = run.links(link, 5, five, any);
        int one = run.links(link, 1, run.get("any", 0), any);
        run.get("begin", 1);
        run.get("clause", ten);
        run.get("clause", ten);
        run.get("clause", ten);
        run.get("clause", run.links(link, 4, five, any));
        run.full("clause", ten);
        run.get("clause", one);
        run.full("clause", run.links(link, 1, five, any));
        run.get("clause", one);
        run.full("clause", one);
    }

    @Sentence("with at most 40 CONS and NUMBERS in all (more: FULL)")
    static void fortyWithNoTwoInTheSamePlace() {
        Run run = new Run();
        run.get("sort");
        int[] tops = new int[4];
        for (int c = 0; c < 4; c++) {
            tops[c] = run.get("con", 1, 2, 1, 1);
        }
        int any = run.get("any", 1);
        run.get("begin", 1);
        for (int top : tops) {
            int five = run.links(0, 5, any, any);
            int four = run.links(0, 4, any, any);
            run.yes("clause", run.get("made", top, five, four));
        }
        run.yes("open");
        run.due(4, "count", 4);
        run.full("clause", run.get("made", 0, any, any));
        run.yes("clause", any);
        run.no("open");
    }

    @Sentence("one behind another")
    static void theirNumbersAreInTheOrderOfTheCalls() {
        Run run = new Run();
        int any = run.get("any", 0);
        for (int v = 0; v < 8; v++) {
            run.get("number", v);
        }
        for (int place = 0; place < 8; place++) {
            run.get("begin", 0);
            for (int k = 0; k < 8; k++) {
                run.get("clause", k == place ? any : 1 + k);
            }
            for (int k = 0; k < 8; k++) {
                run.due(k <= place ? 1 : 0, "takes", k);
            }
            run.due(place + 1, "count", 4);
        }
    }

    @Sentence("A VALUE is TAKEN by the first one that it fits")
    static void theSecondOneHasWhatTheFirstLeaves() {
        Run run = new Run();
        run.get("sort");
        int one = run.get("made", run.get("con", 1, 0, 0, 0), -1, -1);
        int other = run.get("made", run.get("con", 1, 0, 0, 0), -1, -1);
        int any = run.get("any", 1);
        run.get("begin", 1);
        run.yes("clause", any);
        run.no("clause", one);
        run.no("clause", other);
        run.get("begin", 1);
        run.yes("clause", one);
        run.yes("clause", any);
        run.no("clause", other);
        run.yes("takes", 0);
        run.yes("takes", 1);
        run.no("takes", 2);
    }

    @Sentence("\"Bad\" is IllegalArgumentException: no such SORT, CON, PATTERN")
    static void eachArgumentOfEachCall() {
        Run run = new Run();
        run.get("sort");
        run.get("con", 1, 1, 0, 0);
        run.get("any", 0);
        run.get("clause", 0);
        for (int s : Run.beside(2)) {
            run.bad("con", s, 0, 0, 0);
            run.bad("con", 1, 1, s, 0);
            run.bad("con", 1, 2, s, 0);
            run.bad("con", 1, 2, 0, s);
            run.bad("any", s);
            run.bad("begin", s);
            run.bad("lives", s);
        }
        for (int other : Run.beside(1)) {
            run.bad("made", other, 0, 0);
            run.bad("made", 0, other, 0);
            run.bad("clause", other);
            run.bad("takes", other);
            run.bad("covers", other, 0);
            run.bad("covers", 0, other);
            run.bad("meets", other, 0);
            run.bad("meets", 0, other);
        }
    }

    @Sentence("or one of another SORT than it must be")
    static void eachArgumentOfEachCallThatHasASort() {
        Run run = new Run();
        run.get("sort");
        run.get("con", 1, 1, 0, 0);
        run.get("con", 1, 2, 0, 1);
        int number = run.get("any", 0);
        int tree = run.get("any", 1);
        run.bad("con", 0, 0, 0, 0);
        run.bad("made", 0, tree, number);
        run.bad("made", 1, tree, tree);
        run.bad("made", 1, number, number);
        run.bad("clause", tree);
        run.bad("covers", number, tree);
        run.bad("covers", tree, number);
        run.bad("meets", number, tree);
        run.bad("meets", tree, number);
    }

    @Sentence("FULL is IndexOutOfBoundsException: too many")
    static void oneMoreThanTheMostOfEach() {
        Run run = new Run();
        run.sorts(11);
        run.full("sort");
        int link = run.get("con", 1, 1, 1, 0);
        for (int c = 1; c < 30; c++) {
            run.get("con", 1, 0, 0, 0);
        }
        run.full("con", 1, 0, 0, 0);
        int any = run.get("any", 1);
        int twelve = run.chain(link, 12, any);
        run.full("made", link, twelve, -1);
        run.get("begin", 1);
        for (int k = 0; k < 3; k++) {
            run.get("clause", twelve);
        }
        run.full("clause", twelve);
        for (int k = 3; k < 8; k++) {
            run.get("clause", any);
        }
        run.full("clause", any);
        for (int p = 13; p < 200; p++) {
            run.get("any", 0);
        }
        run.full("any", 0);
        run.full("number", 0);
        run.full("made", link, any, -1);
        int[] due = {12, 30, 200, 8, 2, 2};
        for (int what = 0; what < due.length; what++) {
            run.due(due[what], "count", what);
        }
    }

    @Sentence("In this order")
    static void conIsBadBeforeItIsFull() {
        Run run = new Run();
        run.get("sort");
        for (int c = 0; c < 30; c++) {
            run.get("con", 1, 0, 0, 0);
        }
        run.full("con", 1, 2, 0, 1);
        run.bad("con", 0, 0, 0, 0);
        run.bad("con", 2, 0, 0, 0);
        run.bad("con", 1, -1, 0, 0);
        run.bad("con", 1, 3, 0, 0);
        run.bad("con", 1, 1, 2, 0);
        run.bad("con", 1, 2, 0, 2);
    }

    @Sentence("In this order")
    static void anyAndMadeAreBadBeforeTheyAreFull() {
        Run run = new Run();
        run.get("sort");
        run.get("con", 1, 2, 0, 1);
        int number = run.get("any", 0);
        int tree = run.get("any", 1);
        for (int p = 2; p < 200; p++) {
            run.get("number", p);
        }
        run.full("any", 0);
        run.bad("any", 2);
        run.full("made", 0, number, tree);
        run.bad("made", 1, number, tree);
        run.bad("made", 0, tree, tree);
        run.bad("made", 0, number, number);
        run.bad("made", 0, 200, tree);
        run.bad("made", 0, number, 200);
    }

    @Sentence("In this order")
    static void madeIsBadBeforeItHasMoreThan12() {
        Run run = new Run();
        run.get("sort");
        run.get("con", 1, 2, 1, 1);
        run.get("con", 1, 2, 1, 0);
        int any = run.get("any", 1);
        int twelve = run.links(0, 12, any, any);
        run.full("made", 0, twelve, twelve);
        run.bad("made", 0, twelve, -1);
        run.bad("made", 0, 13, twelve);
        run.bad("made", 1, twelve, twelve);
        run.bad("made", 2, twelve, twelve);
    }

    @Sentence("In this order")
    static void clauseIsBadBeforeItIsFull() {
        Run run = new Run();
        run.get("sort");
        run.get("con", 1, 0, 0, 0);
        int tree = run.get("any", 1);
        int five = run.get("number", 5);
        for (int k = 0; k < 8; k++) {
            run.get("clause", five);
        }
        run.full("clause", five);
        run.bad("clause", tree);
        run.bad("clause", 2);
        run.bad("clause", -1);
    }

    @Sentence("In this order")
    static void clauseIsBadBeforeThereAreMoreThan40() {
        Run run = new Run();
        int[] chains = chains(run);
        run.get("sort");
        run.get("con", 2, 1, 1, 0);
        int other = run.get("made", 1, chains[11], -1);
        for (int k = 0; k < 3; k++) {
            run.get("clause", chains[12]);
        }
        run.full("clause", chains[12]);
        run.bad("clause", other);
        run.bad("clause", other + 1);
    }

    @Sentence("A refused call changes nothing")
    static void manyOfThemBetweenAllOtherCalls() {
        ClauseGlass with = new ClauseGlass();
        ClauseGlass without = new ClauseGlass();
        for (FaceCall call : aLongRun()) {
            for (FaceCall refused : alwaysRefused()) {
                Check.due(refused.toString(), refused.answerOf(with), "throws.IllegalArgumentException");
            }
            Check.due(call.toString(), call.answerOf(with), call.answerOf(without));
        }
    }

    private static List<FaceCall> alwaysRefused() {
        return List.of(new FaceCall("con", 0, 2, 0, 0), new FaceCall("con", 1, 2, 0, 12), new FaceCall("any", 12),
            new FaceCall("made", 30, 0, 0), new FaceCall("made", 1, 0, 200), new FaceCall("begin", -1),
            new FaceCall("clause", 200), new FaceCall("takes", 8), new FaceCall("covers", 0, -1),
            new FaceCall("meets", 200, 0), new FaceCall("lives", 12));
    }

    private static List<FaceCall> aLongRun() {
        return List.of(new FaceCall("sort"), new FaceCall("con", 1, 0, 0, 0), new FaceCall("con", 1, 2, 0, 1),
            new FaceCall("any", 0), new FaceCall("any", 1), new FaceCall("number", 5),
            new FaceCall("made", 0, 0, 0), new FaceCall("made", 1, 2, 3), new FaceCall("made", 1, 0, 4),
            new FaceCall("clause", 2), new FaceCall("clause", 0), new FaceCall("clause", 2),
            new FaceCall("count", 4), new FaceCall("begin", 1), new FaceCall("clause", 5),
            new FaceCall("clause", 4), new FaceCall("open"), new FaceCall("clause", 1), new FaceCall("open"),
            new FaceCall("takes", 1), new FaceCall("count", 4), new FaceCall("covers", 1, 5),
            new FaceCall("meets", 4, 5), new FaceCall("sort"), new FaceCall("lives", 2),
            new FaceCall("con", 2, 1, 2, 0), new FaceCall("lives", 2), new FaceCall("count", 0),
            new FaceCall("count", 1), new FaceCall("count", 2), new FaceCall("count", 3),
            new FaceCall("count", 5));
    }

    @Sentence("All memory is the class's own rows")
    static void noCallKeepsANewRow() throws IllegalAccessException {
        ClauseGlass x = new ClauseGlass();
        Set<Object> before = reachable(x);
        for (int round = 0; round < 10; round++) {
            for (FaceCall call : aLongRun()) {
                call.answerOf(x);
            }
        }
        Set<Object> after = reachable(x);
        Check.due("as many objects and rows", after.size(), before.size());
        Check.due("the same ones", before.containsAll(after), true);
    }

    @Sentence("All memory is the class's own rows")
    static void noTwoObjectsShareARow() throws IllegalAccessException {
        Set<Object> one = reachable(new ClauseGlass());
        Set<Object> other = reachable(new ClauseGlass());
        one.retainAll(other);
        Check.due("shared", one.size(), 0);
    }

    @Sentence("All memory is the class's own rows")
    static void nothingIsKeptBesideTheObjects() {
        List<Class<?>> classes = new ArrayList<>(List.of(ClauseGlass.class.getDeclaredClasses()));
        classes.add(ClauseGlass.class);
        for (Class<?> each : classes) {
            for (Field field : each.getDeclaredFields()) {
                boolean constant = Modifier.isFinal(field.getModifiers()) && field.getType().isPrimitive();
                Check.due(field.toString(), Modifier.isStatic(field.getModifiers()) && !constant, false);
            }
        }
    }

    private static Set<Object> reachable(Object from) throws IllegalAccessException {
        Set<Object> found = Collections.newSetFromMap(new IdentityHashMap<>());
        List<Object> next = new ArrayList<>(List.of(from));
        while (!next.isEmpty()) {
            Object object = next.remove(next.size() - 1);
            if (found.add(object)) {
                next.addAll(directlyReachable(object));
            }
        }
        return found;
    }

    private static List<Object> directlyReachable(Object object) throws IllegalAccessException {
        List<Object> found = new ArrayList<>();
        if (object instanceof Object[] row) {
            found.addAll(List.of(row));
        }
        for (Field field : object.getClass().getDeclaredFields()) {
            if (!field.getType().isPrimitive() && !Modifier.isStatic(field.getModifiers())) {
                field.setAccessible(true);
                found.add(field.get(object));
            }
        }
        return found;
    }
}
