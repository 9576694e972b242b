/** What calls answer, by the document's words and not by the program's own constants. */
interface Words {
    int UNKNOWN = -1, OUTSIDE = -2, STATE = -3, FULL = -4, NONE = -9;
    int NULL = -11, CAST = -12, INDEX = -13, SIZE = -14;
    long LOST = Long.MIN_VALUE;
    int LEAST = Integer.MIN_VALUE, MOST = Integer.MAX_VALUE;
}
