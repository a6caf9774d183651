import java.util.ArrayList;
import java.util.List;

/** Which exception comes, and that a call that throws changes nothing: for every call of the face that may. */
final class RefusalEdges extends Edges {
    /** A call on a net. */
    private interface Ask {
        void of(QuakeNet net);
    }

    private static final int[] FAR_OUT = {-1, LEAST, MOST};

    RefusalEdges(Checks checks, Document document, int[] tested) {
        super(checks, document, tested);
    }

    @Override
    void testAll() {
        indices();
        firstTold();
        firstToldOfFull();
        state();
        nothingElse();
    }

    private void index(String what, Ask call) {
        x = town();
        refused(what, INDEX, () -> call.of(x));
    }

    /** Each in the town, which has 3 PHONES, 4 WORDS, 2 descriptions, 1 STONES and 1 GANG. */
    private void indices() {
        edge(TERMS, "IndexOutOfBoundsException: there is no such PLACE, PHONE, LOT, WORD, PERSON, STONES, GANG, description.", () -> {
            for (int out : FAR_OUT) {
                noPlace(out);
                noPhone(out);
                noWord(out);
                noPerson(out);
                noneOfTheRest(out, out, out, out);
            }
            noPlace(16);
            noPhone(3);
            noWord(4);
            noPerson(16);
            noneOfTheRest(4, 1, 1, 2);
        });
    }

    private void noPlace(int place) {
        index("phone at " + place, n -> n.phone(place, 1, 1, 1));
        index("move to " + place, n -> n.move(0, 0, 9, place));
        index("say at " + place, n -> n.say(0, 4, 1, 0, place, 0, 0));
        index("sure at " + place, n -> n.sure(0, place));
        index("stones at " + place, n -> n.stones(place, 1, 1, 1, 1));
        index("gang at " + place, n -> n.gang(place, 1));
    }

    private void noPhone(int phone) {
        index("move of PHONE " + phone, n -> n.move(0, phone, 9, 0));
        index("say at PHONE " + phone, n -> n.say(phone, 4, 1, 0, 0, 0, 0));
        index("undo at PHONE " + phone, n -> n.undo(phone, 1, 0));
        index("look at PHONE " + phone, n -> n.look(phone, 0));
        index("copy on PHONE " + phone, n -> n.copy(phone, 0, 0));
        index("weight of PHONE " + phone, n -> n.weight(phone));
    }

    private void noWord(int word) {
        index("undo of WORD " + word, n -> n.undo(0, 1, word));
        index("copy of WORD " + word, n -> n.copy(0, word, 0));
        index("word " + word, n -> n.word(word, 0));
        index("had WORD " + word, n -> n.had(word));
        index("way of WORD " + word, n -> n.way(word, 0));
        index("late WORD " + word, n -> n.late(word));
        index("rumour of WORD " + word, n -> n.rumour(word));
        index("judge WORD " + word, n -> n.judge(word, true));
        index("far WORD " + word, n -> n.far(word, 0));
        index("would WORD " + word, n -> n.would(word));
    }

    private void noPerson(int person) {
        index("say about PERSON " + person, n -> n.say(0, 4, 1, person, 0, 0, 0));
        index("sayings about PERSON " + person, n -> n.sayings(person, 0, false));
        index("mouths about PERSON " + person, n -> n.sayings(person, 0, true));
        index("could of PERSON " + person, n -> n.could(person, 0, 0));
        index("least about PERSON " + person, n -> n.least(person, 0, false));
        index("sure of PERSON " + person, n -> n.sure(person, 0));
        index("hide PERSON " + person, n -> n.hide(person, true));
        index("hide no more PERSON " + person, n -> n.hide(person, false));
        index("ask for PERSON " + person, n -> n.ask(person, true));
    }

    private void noneOfTheRest(int lot, int stones, int gang, int description) {
        index("move of LOT " + lot, n -> n.move(lot, 0, 9, 0));
        index("saved at STONES " + stones, n -> n.saved(0, stones));
        index("saved by GANG " + gang, n -> n.saved(gang, 0));
        if (gang != NONE) {
            index("send GANG " + gang, n -> n.send(gang));
        }
        index("heap of description " + description, n -> n.heap(description));
    }

    private void firstTold() {
        edge(TERMS, "Of several exceptions the one told first is thrown", () -> {
            index("phone: PLACE, CHARGE, TICK", n -> n.phone(16, -1, 0, 10));
            index("move: LOT, TICK", n -> n.move(4, 0, 0, 0));
            index("move: PHONE, TICK", n -> n.move(0, 3, 0, 0));
            index("move: PLACE, TICK", n -> n.move(0, 0, 401, 16));
            index("say: PHONE, kind", n -> n.say(3, 5, 0, 0, 0, 99, -1));
            index("say: PERSON, kind", n -> n.say(0, 5, 0, 16, 0, 99, -1));
            index("say: PLACE, kind", n -> n.say(0, 5, 0, 0, 16, 99, -1));
            index("undo: PHONE, LIFE", n -> n.undo(3, 0, 3));
            index("undo: WORD, LIFE", n -> n.undo(0, 0, 4));
            index("look: PHONE, what", n -> n.look(3, 8));
            index("copy: PHONE, what", n -> n.copy(3, 0, 6));
            index("copy: WORD, what", n -> n.copy(0, 4, 6));
            index("word: WORD, what", n -> n.word(4, 11));
            index("could: PERSON, TICK", n -> n.could(16, 401, 0));
            index("stones: PLACE, LIVING", n -> n.stones(16, 101, 101, 21, 0));
            index("gang: PLACE, STRENGTH", n -> n.gang(16, 0));
            index("far: WORD, TICK", n -> n.far(4, -1));
            index("would: WORD, text", n -> n.would(4));
            x = town();
            refused("phone: CHARGE, TICK", ARGUMENT, () -> x.phone(0, -1, 1, 1));
            refused("rules: text, TICK", ARGUMENT, () -> x.rules());
        });
    }

    private void firstToldOfFull() {
        edge(TERMS, "Of several exceptions", () -> {
            phones(10);
            for (int i = 0; i < 29; i++) {
                say(0, 0, 0);
            }
            x.undo(0, 9, 0);
            for (int i = 0; i < 5; i++) {
                x.stones(0, 0, 0, 0, 1);
            }
            for (int i = 0; i < 4; i++) {
                x.gang(0, 1);
            }
            x.ticks(1);
            refused("phone: PLACE, ten", INDEX, () -> x.phone(16, 0, 1, 0));
            refused("phone: ROOM, ten", ARGUMENT, () -> x.phone(0, 0, 0, 0));
            refused("phone: ten, TICK", UNSUPPORTED, () -> x.phone(0, 0, 1, 0));
            refused("say: PERSON, thirty", INDEX, () -> x.say(0, 0, 1, 16, 0, 0, 0));
            refused("say: LIFE, thirty", ARGUMENT, () -> x.say(0, 0, 0, 0, 0, 0, 0));
            refused("say: WHEN, thirty", ARGUMENT, () -> x.say(0, 0, 1, 0, 0, 2, 0));
            refused("say: thirty", UNSUPPORTED, () -> x.say(0, 0, 1, 0, 0, 1, 0));
            refused("undo: WORD, thirty", INDEX, () -> x.undo(0, 1, 30));
            refused("undo: LIFE, thirty", ARGUMENT, () -> x.undo(0, 201, 0));
            refused("undo: undone itself, thirty", ARGUMENT, () -> x.undo(0, 1, 29));
            refused("undo: thirty", UNSUPPORTED, () -> x.undo(0, 1, 0));
            refused("stones: PLACE, five", INDEX, () -> x.stones(16, 0, 0, 0, 1));
            refused("stones: DIG, five", ARGUMENT, () -> x.stones(0, 0, 0, 0, 0));
            refused("stones: five", UNSUPPORTED, () -> x.stones(0, 0, 0, 0, 1));
            refused("gang: PLACE, four", INDEX, () -> x.gang(16, 1));
            refused("gang: STRENGTH, four", ARGUMENT, () -> x.gang(0, 0));
            refused("gang: four", UNSUPPORTED, () -> x.gang(0, 1));
        });
    }

    private void state() {
        edge(TERMS, "IllegalStateException: TICK is above 0.", () -> {
            is("at TICK 0", x.phone(0, 0, 1, 0), 0);
            is("LINES at TICK 0", rules("pass"), 1);
            for (int tick : new int[] {1, 40}) {
                ticksTo(tick);
                Tapes.put(x, "pass;pass");
                refused("rules at TICK " + tick, STATE, () -> x.rules());
                refused("phone at TICK " + tick, STATE, () -> x.phone(0, 0, 1, 0));
            }
            is("the LINES of then", x.count(3), 1);
        });
    }

    private void nothingElse() {
        edge(TERMS, "a call that throws changes nothing", () -> {
            same("phone", STATE, n -> n.phone(0, 1, 1, 1));
            same("phone with a wrong ROOM", ARGUMENT, n -> n.phone(0, 1, 13, 1));
            same("move of no LOT", INDEX, n -> n.move(4, 0, 9, 0));
            same("move at this TICK", ARGUMENT, n -> n.move(0, 0, 4, 0));
            same("say of no kind", ARGUMENT, n -> n.say(0, 5, 1, 0, 0, 0, 0));
            same("say of no NUMBER", ARGUMENT, n -> n.say(0, 0, 1, 0, 0, 0, 10000));
            same("undo of no WORD", INDEX, n -> n.undo(0, 1, 4));
            same("undo of no LIFE", ARGUMENT, n -> n.undo(0, 0, 0));
            same("undo of an undone one", ARGUMENT, n -> n.undo(0, 1, 2));
            same("ticks", ARGUMENT, n -> n.ticks(41));
            same("look", ELEMENT, n -> n.look(0, 8));
            same("copy", ELEMENT, n -> n.copy(0, 0, 6));
            same("word", ELEMENT, n -> n.word(0, 11));
            same("speed", ARGUMENT, n -> n.speed(9));
            same("could", ARGUMENT, n -> n.could(3, 401, 4));
            same("judge", INDEX, n -> n.judge(4, true));
            same("describe", ARGUMENT, n -> n.describe(1, 1, 10));
            same("apart", ARGUMENT, n -> n.apart(1001));
            same("heaps", ELEMENT, n -> n.heaps(2));
            same("stones", ARGUMENT, n -> n.stones(0, 1, 1, 1, 0));
            same("gang", ARGUMENT, n -> n.gang(0, 0));
            same("hide", INDEX, n -> n.hide(16, true));
            same("far", ARGUMENT, n -> n.far(0, -1));
            same("tear", ELEMENT, n -> n.tear(4, 1));
        });
        edge(6, "Uses the TAPE up", () -> {
            sameButTheTape("rules of a right text", STATE, "pass", n -> n.rules());
            sameButTheTape("would of no WORD", INDEX, "pass", n -> n.would(4));
            sameButTheTape("rules of a wrong text", ARGUMENT, "pas", n -> n.rules());
            sameButTheTape("would of a wrong text", ARGUMENT, "pas", n -> n.would(0));
        });
    }

    private void same(String what, Class<? extends RuntimeException> due, Ask call) {
        QuakeNet net = town();
        refused(what, due, () -> call.of(net));
        x = net;
        is(what + " changes nothing", print(net).equals(print(town())) ? 1 : 0, 1);
    }

    private void sameButTheTape(String what, Class<? extends RuntimeException> due, String text, Ask call) {
        QuakeNet net = town();
        Tapes.put(net, text);
        refused(what, due, () -> call.of(net));
        no("the TAPE is used up by " + what, net.end(1));
        is("fault() behind " + what, net.fault(), text.equals("pas") ? 0 : NONE);
        QuakeNet other = town();
        other.end(0);
        List<Integer> print = print(other);
        List<Integer> got = print(net);
        print.remove(0);
        got.remove(0);
        is(what + " changes nothing else", got.equals(print) ? 1 : 0, 1);
    }

    /** At TICK 4, with a wrong text on the TAPE, a TORN ROW and an IMAGE. */
    private static QuakeNet town() {
        QuakeNet net = new QuakeNet();
        Tapes.put(net, "first 5 if seen; pass; cost 2; show if kin");
        net.rules();
        net.phone(0, 100, 3, 1);
        net.phone(0, 100, 2, 2);
        net.phone(5, 100, 2, 0);
        net.move(0, 2, 3, 0);
        net.move(1, 2, 2, 0);
        net.say(1, 1, 200, 3, 6, 0, 8);
        net.say(2, 0, 200, 3, 1, 0, 8);
        net.undo(2, 100, 0);
        net.describe(1, 20, 3);
        net.describe(NONE, 24, 4);
        net.stones(9, 20, 80, 3, 7);
        net.gang(4, 5);
        net.hide(3, true);
        net.judge(0, true);
        net.ticks(2);
        net.image();
        net.ticks(2);
        net.tear(1, 4);
        net.say(0, 2, 9, 2, 2, 0, 9);
        Tapes.put(net, "pas");
        return net;
    }

    /** All that can be seen, fault() first; and what THE IMAGE holds. */
    private static List<Integer> print(QuakeNet net) {
        List<Integer> all = new ArrayList<>();
        all.add(net.fault());
        all.add(net.feed(0, 0, 0, 0, 0));
        printNet(net, all);
        printTent(net, all);
        for (int i = 0; i < 4; i++) {
            all.add(net.tear(i, 0));
        }
        all.add(net.check());
        all.add(net.back() ? 1 : 0);
        for (int what = 0; what < 12; what++) {
            all.add(net.count(what));
        }
        return all;
    }

    private static void printNet(QuakeNet net, List<Integer> all) {
        for (int what = 0; what < 12; what++) {
            all.add(net.count(what));
        }
        for (int phone = 0; phone < 3; phone++) {
            for (int what = 0; what < 8; what++) {
                all.add(net.look(phone, what));
            }
            for (int word = 0; word < 4; word++) {
                for (int what = 0; what < 6; what++) {
                    all.add(net.copy(phone, word, what));
                }
            }
            all.add(net.weight(phone));
        }
        for (int word = 0; word < 4; word++) {
            for (int what = 0; what < 11; what++) {
                all.add(net.word(word, what));
            }
            all.add(net.had(word));
            all.add(net.way(word, 0));
            all.add(net.way(word, 1));
            all.add(net.rumour(word));
            all.add(net.far(word, 9));
        }
    }

    private static void printTent(QuakeNet net, List<Integer> all) {
        for (int person = 2; person < 4; person++) {
            all.add(net.sayings(person, 9, false));
            all.add(net.could(person, 9, 9));
            all.add(net.least(person, 9, true));
            all.add(net.sure(person, 1));
            all.add(net.ask(person, true));
            all.add(net.ask(person, false));
        }
        all.add(net.heaps(0));
        all.add(net.heap(1));
        all.add(net.saved(0, 0));
        all.add(net.send(NONE));
    }
}
