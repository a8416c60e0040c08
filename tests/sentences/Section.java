import java.util.function.Consumer;

/** Tests of some sections of the document, sentence by sentence. */
abstract class Section {
    static final int NONE = -1;
    static final int BLACK = -2;
    static final int CARE = 0;
    static final int HOME = 1;
    static final int STAY = 2;
    static final int YES = 1;
    static final int NO = 0;
    static final int YEAR = 365;
    static final int LEAST = Integer.MIN_VALUE;
    static final int MOST = Integer.MAX_VALUE;
    static final Class<?> INDEX = World.INDEX;
    static final Class<?> ARGUMENT = World.ARGUMENT;
    static final Class<?> STATE = World.STATE;

    /** What can be asked of a child by childIs. */
    static final int ITS_HOME = 0;
    static final int YEARS = 1;
    static final int STAYS = 2;
    static final int KEPT = 3;
    static final int MISSED = 4;
    static final int WATCHED = 5;
    static final int WORKER = 6;

    /** What can be asked of a stay. */
    static final int OF_CHILD = 0;
    static final int OF_HOME = 1;
    static final int BEGAN = 2;
    static final int ENDED = 3;
    static final int BY_ORDER = 4;

    private final Sheet sheet;

    Section(Sheet sheet) {
        this.sheet = sheet;
    }

    abstract void all();

    void use(String words, Consumer<World> test) {
        sheet.test("What it is", words, test);
    }

    void terms(String words, Consumer<World> test) {
        sheet.test("Terms", words, test);
    }

    void promise(int number, String words, Consumer<World> test) {
        sheet.test("Promise " + number, words, test);
    }
}
