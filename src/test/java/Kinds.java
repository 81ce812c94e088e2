/** The numbers of the document's KINDS, and the farthest numbers that a call can be given. */
interface Kinds {
    int PLAIN = 0;
    int GIFT = 1;
    int SEASON = 2;
    int STAFF = 3;
    int ROUND = 4;
    int CLUB = 5;
    int HOUSE = 6;
    int CREST = 7;

    int LOW = Integer.MIN_VALUE;
    int HIGH = Integer.MAX_VALUE;

    static boolean hasLastDay(int kind) {
        return kind == SEASON || kind == STAFF;
    }

    static boolean hasMark(int kind) {
        return kind >= CLUB;
    }
}
