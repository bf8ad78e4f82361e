import java.lang.reflect.Method;
import java.util.ArrayList;
import java.util.Arrays;
import java.util.LinkedHashMap;
import java.util.List;
import java.util.Map;

/**
 * The tests against the document: the words that a test stands for are the document's, and no word
 * of it is left that no test stands for.
 */
final class DocumentTest {
    private static final Map<String, Class<?>> TESTS = new LinkedHashMap<>();

    static {
        TESTS.put("What it is", WhatItIsTest.class);
        TESTS.put("The public face", FaceTest.class);
        TESTS.put("Terms", TermsTest.class);
        TESTS.put("Promise 1: A new object", Promise01NewObjectTest.class);
        TESTS.put("Promise 2: sort", Promise02SortTest.class);
        TESTS.put("Promise 3: con", Promise03ConTest.class);
        TESTS.put("Promise 4: any", Promise04AnyTest.class);
        TESTS.put("Promise 5: number", Promise05NumberTest.class);
        TESTS.put("Promise 6: made", Promise06MadeTest.class);
        TESTS.put("Promise 7: begin", Promise07BeginTest.class);
        TESTS.put("Promise 8: clause", Promise08ClauseTest.class);
        TESTS.put("Promise 9: takes", Promise09TakesTest.class);
        TESTS.put("Promise 10: open", Promise10OpenTest.class);
        TESTS.put("Promise 11: covers", Promise11CoversTest.class);
        TESTS.put("Promise 12: meets", Promise12MeetsTest.class);
        TESTS.put("Promise 13: lives", Promise13LivesTest.class);
        TESTS.put("Promise 14: count", Promise14CountTest.class);
        TESTS.put("Not promised", NotPromisedTest.class);
    }

    public static void main(String[] args) {
        Map<String, String> sections = Document.sections();
        Check.due("sections with tests", TESTS.keySet().toString(), sections.keySet().toString());
        for (Map.Entry<String, Class<?>> each : TESTS.entrySet()) {
            Check.in(each.getKey() + ": ");
            String text = sections.getOrDefault(each.getKey(), "");
            boolean[] stoodFor = new boolean[text.length()];
            findSentences(text, sentencesOf(each.getValue()), stoodFor);
            if (each.getKey().startsWith("Promise ")) {
                findLineOfFace(text, stoodFor);
            }
            // What is free can't be broken, so no test stands for it.
            if (!each.getKey().equals("Not promised")) {
                Check.due("words without a test", wordsOutside(text, stoodFor).toString(), "[]");
            }
        }
        Check.finish();
    }

    private static List<String> sentencesOf(Class<?> tests) {
        List<String> found = new ArrayList<>();
        for (Method method : tests.getDeclaredMethods()) {
            Sentence sentence = method.getAnnotation(Sentence.class);
            if (sentence != null) {
                found.add(sentence.value());
            }
        }
        return found;
    }

    private static void findSentences(String text, List<String> sentences, boolean[] stoodFor) {
        for (String sentence : sentences) {
            int from = text.indexOf(sentence);
            Check.due("\"" + sentence + "\" is there", from >= 0, true);
            Check.due("\"" + sentence + "\" is there again", text.lastIndexOf(sentence) > from, false);
            if (from >= 0) {
                Arrays.fill(stoodFor, from, from + sentence.length(), true);
            }
        }
    }

    /** A promise begins with a line of the face, which FaceTest stands for. */
    private static void findLineOfFace(String text, boolean[] stoodFor) {
        int end = text.indexOf("`:");
        boolean there = text.startsWith("`") && end > 0;
        Check.due("begins with a line of the face", there && Document.face().contains(text.substring(1, end)), true);
        if (there) {
            Arrays.fill(stoodFor, 0, end, true);
        }
    }

    private static List<String> wordsOutside(String text, boolean[] stoodFor) {
        List<String> words = new ArrayList<>();
        int from = 0;
        for (String word : text.split(" ")) {
            boolean inside = true;
            for (int i = from; i < from + word.length(); i++) {
                inside = inside && (stoodFor[i] || !Character.isLetterOrDigit(text.charAt(i)));
            }
            if (!inside) {
                words.add(word);
            }
            from += word.length() + 1;
        }
        return words;
    }
}
