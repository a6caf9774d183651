import java.util.NoSuchElementException;

/** Tests of the document's sentences that name a boundary case: each has one of its own, on a new net. */
abstract class Edges {
    static final Class<IndexOutOfBoundsException> INDEX = IndexOutOfBoundsException.class;
    static final Class<IllegalArgumentException> ARGUMENT = IllegalArgumentException.class;
    static final Class<UnsupportedOperationException> UNSUPPORTED = UnsupportedOperationException.class;
    static final Class<IllegalStateException> STATE = IllegalStateException.class;
    static final Class<NoSuchElementException> ELEMENT = NoSuchElementException.class;
    static final int NONE = QuakeNet.NONE;
    static final int LEAST = Integer.MIN_VALUE;
    static final int MOST = Integer.MAX_VALUE;
    static final int ALL_PLACES = 65535;
    /** The part of the document that is told ahead of the promises. */
    static final int TERMS = 0;

    private final Checks checks;
    private final Document document;
    private final int[] tested;
    private String sentence;
    QuakeNet x;

    /** What is tested of each part is counted in tested. */
    Edges(Checks checks, Document document, int[] tested) {
        this.checks = checks;
        this.document = document;
        this.tested = tested;
    }

    abstract void testAll();

    final void edge(int part, String words, Runnable test) {
        sentence = (part == TERMS ? "terms" : part) + ", \"" + words + "\": ";
        checks.yes(sentence + "it stands in the document", document.says(part, words));
        tested[part]++;
        x = new QuakeNet();
        try {
            test.run();
        } catch (RuntimeException e) {
            checks.yes(sentence + "it threw " + e, false);
        }
    }

    final void is(String what, long got, long due) {
        checks.same(sentence + what, got, due);
    }

    final void yes(String what, boolean got) {
        checks.yes(sentence + what, got);
    }

    final void no(String what, boolean got) {
        checks.no(sentence + what, got);
    }

    final void refused(String what, Class<? extends RuntimeException> due, Checks.Call call) {
        checks.throwsOf(sentence + what, due, call);
    }

    final void anew(String rules) {
        x = new QuakeNet();
        rules(rules);
    }

    final int rules(String text) {
        Tapes.put(x, text);
        return x.rules();
    }

    final int would(String text, int word) {
        Tapes.put(x, text);
        return x.would(word);
    }

    /** PHONES at PLACE 0 with much CHARGE and ROOM, without SWELL. */
    final void phones(int n) {
        for (int i = 0; i < n; i++) {
            x.phone(0, 1000, 12, 0);
        }
    }

    /** A WORD that lives long, about PERSON 0 at PLACE 0 at TICK 0. */
    final int say(int phone, int kind, int number) {
        return x.say(phone, kind, 200, 0, 0, 0, number);
    }

    final int seen(int phone, int person, int place, int when) {
        return x.say(phone, 1, 200, person, place, when, 0);
    }

    final void ticksTo(int tick) {
        while (x.count(0) < tick) {
            x.ticks(Math.min(40, tick - x.count(0)));
        }
    }

    static int bits(int... places) {
        int sum = 0;
        for (int place : places) {
            sum |= 1 << place;
        }
        return sum;
    }
}
