/** Counts what is not as the document says, and tells by which sentence of it. */
final class Check {
    private static int wrongs = 0;
    private static int sentences = 0;
    private static String sentence = "";

    private Check() {
    }

    /** One sentence of the document that names a boundary case, with a test of its own. */
    static void that(String place, String words, Runnable test) {
        sentence = place + ": " + words;
        sentences++;
        test.run();
    }

    static void wrong(String what) {
        wrongs++;
        System.out.println("[" + sentence + "] " + what);
    }

    static void end() {
        System.out.println(wrongs == 0 ? sentences + " sentences hold" : wrongs + " answers are not as due");
        if (wrongs != 0) System.exit(1);
    }
}
