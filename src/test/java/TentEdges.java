/** What the TENT HAD, and what it makes of it: promises 14 to 24, 33 and 34. */
final class TentEdges extends Edges {
    TentEdges(Checks checks, Document document, int[] tested) {
        super(checks, document, tested);
    }

    @Override
    void testAll() {
        had();
        way();
        late();
        rumour();
        sayings();
        undoneSayings();
        speed();
        could();
        least();
        leastOfMany();
        judged();
        sure();
        hidden();
        ask();
    }

    private void had() {
        edge(14, "The TICK from which the TENT HAD a WORD; NONE.", () -> {
            phones(1);
            x.phone(1, 9, 9, 0);
            x.move(0, 1, 3, 0);
            say(1, 0, 0);
            say(0, 0, 0);
            is("told at the TENT", x.had(1), 0);
            x.ticks(2);
            is("not yet", x.had(0), NONE);
            x.ticks(1);
            is("from then on", x.had(0), 3);
            is("HAD by then", x.count(7), 2);
        });
        edge(TERMS, "the TICK at which it came to it first (also if it is gone since)", () -> {
            rules("pass if not undone");
            phones(2);
            x.say(1, 0, 90, 0, 0, 0, 0);
            x.ticks(1);
            is("first", x.had(0), 1);
            x.undo(0, 2, 0);
            is("undone there", x.copy(0, 0, 0), NONE);
            is("HAD it", x.had(0), 1);
            x.ticks(2);
            is("it came again", x.copy(0, 0, 3), 3);
            is("first it came at 1", x.had(0), 1);
            ticksTo(90);
            is("it is dead", x.look(0, 2), 0);
            is("HAD it still", x.had(0), 1);
            is("HAD two in all", x.count(7), 2);
        });
    }

    private void way() {
        edge(15, "PHONE i of the WAY of a WORD that the TENT HAD (0: its MOUTH); NONE if there is none such.", () -> {
            for (int i = 0; i < 4; i++) {
                x.phone(i, 100, 9, 0);
            }
            say(3, 0, 0);
            for (int i = 1; i < 4; i++) {
                x.move(0, 4 - i, 20 + i, 12 + i);
                x.move(0, 3 - i, 20 + i, 12 + i);
            }
            x.ticks(22);
            is("not HAD", x.way(0, 0), NONE);
            x.ticks(1);
            is("its MOUTH", x.way(0, 0), 3);
            is("the next", x.way(0, 1), 2);
            is("the last", x.way(0, 2), 1);
            for (int i : new int[] {3, 4, 12, 15, 16, 32, -1, -2, LEAST, MOST}) {
                is("none is " + i, x.way(0, i), NONE);
            }
        });
        edge(TERMS, "of one told at the TENT itself the TENT alone", () -> {
            phones(2);
            say(0, 0, 0);
            x.ticks(1);
            is("the TENT", x.way(0, 0), 0);
            say(0, 0, 0);
            is("of one told later too", x.way(1, 0), 0);
            for (int i : new int[] {1, 2, -1, LEAST, MOST}) {
                is("none is " + i, x.way(0, i), NONE);
                is("none of the later one is " + i, x.way(1, i), NONE);
            }
        });
        edge(TERMS, "its WAY: all PHONES that handed it on, from its MOUTH to the last one", () -> {
            rules("first 9 if number < 1;pass if number < 1");
            x.phone(12, 1000, 1, 0);
            for (int i = 1; i < 4; i++) {
                x.phone(i, 1000, 1, 0);
            }
            say(1, 4, 0);
            // 1, 2 and 3 hand it round eleven times; then it goes to the TENT with twelve HOPS.
            for (int t = 1; t <= 12; t++) {
                int giver = 1 + (t - 1) % 3;
                int taker = t < 12 ? 1 + t % 3 : 0;
                x.move(0, giver, t, giver + 3);
                x.move(0, taker, t, giver + 3);
                x.ticks(1);
                x.say(giver, 4, 1, 0, 0, 0, 5);
            }
            is("HAD it", x.had(0), 12);
            for (int i = 0; i < 12; i++) {
                is("PHONE " + i + " of it", x.way(0, i), 1 + i % 3);
            }
            is("twelve are the most", x.way(0, 12), NONE);
        });
    }

    private void late() {
        edge(16, "How late it came: HAD less the TICK it was told; NONE.", () -> {
            phones(1);
            x.phone(1, 9, 9, 0);
            x.move(0, 1, 7, 0);
            x.ticks(4);
            say(1, 0, 0);
            say(0, 0, 0);
            is("not yet", x.late(0), NONE);
            is("at once", x.late(1), 0);
            x.ticks(6);
            is("7 less 4", x.late(0), 3);
        });
    }

    private void rumour() {
        edge(TERMS, "the first PHONE on its WAY that handed it on with a greater NUMBER than it had; none.", () -> {
            int[] swell = {9, 0, 4, 0, 5};
            for (int i = 0; i < 5; i++) {
                x.phone(i, 100, 9, swell[i]);
            }
            say(4, 0, 0);
            say(3, 1, 7);
            say(3, 2, 9999);
            say(1, 1, 7);
            say(4, 2, 9998);
            for (int i = 1; i < 5; i++) {
                x.move(0, 5 - i, i, 11 + i);
                x.move(0, 4 - i, i, 11 + i);
            }
            x.ticks(4);
            is("alive does not grow", x.rumour(0), NONE);
            is("not the MOUTH, but the next one", x.rumour(1), 2);
            is("9999 does not grow", x.rumour(2), NONE);
            is("nor with one of SWELL 0", x.rumour(3), NONE);
            is("9998 grows once, the MOUTH's", x.rumour(4), 4);
        });
        edge(17, "RUMOUR; NONE.", () -> {
            x.phone(0, 100, 9, 9);
            x.phone(0, 100, 9, 1);
            say(1, 1, 0);
            is("not HAD", x.rumour(0), NONE);
            x.ticks(1);
            is("HAD", x.rumour(0), 1);
            say(0, 1, 0);
            x.ticks(1);
            is("told at the TENT", x.rumour(1), NONE);
        });
        edge(TERMS, "with the NUMBER it came with then", () -> {
            rules("pass if not undone");
            phones(2);
            x.phone(5, 1000, 12, 9);
            say(1, 1, 0);
            x.move(0, 1, 2, 5);
            x.move(0, 2, 3, 0);
            x.ticks(2);
            x.undo(0, 1, 0);
            x.ticks(1);
            is("it came again, with more", x.copy(0, 0, 0), 9);
            is("then it came as it was told", x.rumour(0), NONE);
            is("from its MOUTH", x.way(0, 1), NONE);
        });
    }

    private void sayings() {
        edge(TERMS, "SAYINGS about a PERSON: alive and seen WORDS", () -> {
            phones(1);
            for (int kind = 0; kind < 5; kind++) {
                say(0, kind, 0);
            }
            is("two kinds of five", x.sayings(0, 0, false), 2);
            x.say(0, 0, 9, 15, 0, 0, 0);
            is("the last PERSON", x.sayings(15, 0, false), 1);
            is("the others stay", x.sayings(0, 0, false), 2);
            is("none", x.sayings(14, 0, false), 0);
            is("of no MOUTH", x.sayings(14, 0, true), 0);
        });
        edge(18, "SAYINGS about a PERSON by what the TENT HAD at a TICK, or their MOUTHS.", () -> {
            phones(2);
            x.phone(1, 1000, 12, 0);
            x.move(0, 2, 5, 0);
            seen(1, 3, 0, 0);
            seen(1, 3, 0, 0);
            seen(2, 3, 0, 0);
            x.ticks(6);
            is("ahead of its coming", x.sayings(3, 0, false), 0);
            is("at the TICK it came", x.sayings(3, 1, false), 2);
            is("of one MOUTH", x.sayings(3, 1, true), 1);
            is("ahead of the third", x.sayings(3, 4, false), 2);
            is("three", x.sayings(3, 5, false), 3);
            is("of two MOUTHS", x.sayings(3, 5, true), 2);
            is("below all TICKS", x.sayings(3, -1, false), 0);
            is("far below", x.sayings(3, LEAST, true), 0);
            is("above now", x.sayings(3, MOST, false), 3);
            is("the dead are SAYINGS too", x.say(0, 0, 1, 4, 0, 0, 0), 3);
            x.ticks(1);
            is("one that is dead", x.sayings(4, 7, false), 1);
        });
        edge(TERMS, "how many unlike MOUTHS they have", () -> {
            phones(10);
            for (int i = 0; i < 12; i++) {
                seen(i % 10, 0, 0, 0);
            }
            is("the TENT's own", x.sayings(0, 0, true), 1);
            x.ticks(1);
            is("twelve SAYINGS", x.sayings(0, 1, false), 12);
            is("of ten MOUTHS", x.sayings(0, 1, true), 10);
        });
    }

    private void undoneSayings() {
        edge(TERMS, "that it HAD by then and that no undone one undoes that it HAD by then", () -> {
            phones(1);
            x.phone(1, 1000, 12, 0);
            x.move(0, 1, 3, 0);
            seen(0, 0, 0, 0);
            seen(0, 0, 0, 0);
            x.undo(1, 100, 0);
            x.ticks(2);
            is("undone where the TENT does not know it", x.sayings(0, 2, false), 2);
            x.ticks(1);
            is("now it knows", x.sayings(0, 3, false), 1);
            is("as it was a TICK ago", x.sayings(0, 2, false), 2);
            ticksTo(100);
            is("though the undone one is dead", x.sayings(0, 100, false), 1);
        });
    }

    private void speed() {
        edge(19, "SPEED. IllegalArgumentException: it is none.", () -> {
            phones(1);
            seen(0, 0, 0, 0);
            for (int n : new int[] {0, 9, -1, LEAST, MOST}) {
                refused("SPEED " + n, ARGUMENT, () -> x.speed(n));
            }
            is("it is 1 still", x.could(0, 1, 0), bits(0, 1, 4));
            x.speed(8);
            is("the most", x.could(0, 1, 0), ALL_PLACES);
            x.speed(1);
            is("the least", x.could(0, 1, 0), bits(0, 1, 4));
        });
        edge(TERMS, "SPEED (1 to 8 steps a TICK; 1 at first)", () -> {
            phones(1);
            seen(0, 0, 0, 0);
            is("1 at first", x.could(0, 2, 0), bits(0, 1, 2, 4, 5, 8));
            x.speed(2);
            is("as far in half the time", x.could(0, 1, 0), bits(0, 1, 2, 4, 5, 8));
        });
    }

    private void could() {
        edge(TERMS, "not FAR APART from each more than SPEED times the TICKS between", () -> {
            phones(1);
            x.ticks(20);
            seen(0, 0, 5, 10);
            is("no TICK between", x.could(0, 10, 20), bits(5));
            is("a TICK later", x.could(0, 11, 20), bits(5, 1, 4, 6, 9));
            is("a TICK earlier", x.could(0, 9, 20), bits(5, 1, 4, 6, 9));
            seen(0, 0, 7, 12);
            is("between both", x.could(0, 11, 20), bits(6));
            is("by the later one alone where that is nearer", x.could(0, 12, 20), bits(7));
            seen(0, 0, 8, 11);
            is("nowhere", x.could(0, 11, 20), 0);
        });
        edge(TERMS, "all 16 without any", () -> {
            is("of one of whom nothing is told", x.could(0, 0, 0), ALL_PLACES);
            is("of the last one", x.could(15, 400, 400), ALL_PLACES);
            phones(1);
            seen(0, 0, 3, 0);
            x.undo(0, 9, 0);
            is("of one whose all is undone", x.could(0, 0, 0), ALL_PLACES);
            is("ahead of all that was told", x.could(0, 0, -1), ALL_PLACES);
        });
        edge(20, "COULD, at a TICK (0 to 400), by what the TENT HAD at another one, as bits.", () -> {
            phones(1);
            x.ticks(3);
            seen(0, 0, 15, 0);
            is("bit 15", x.could(0, 0, 3), 32768);
            is("by what it HAD a TICK ago", x.could(0, 0, 2), ALL_PLACES);
            is("by what it HAD before all", x.could(0, 0, LEAST), ALL_PLACES);
            is("by what it HAS later", x.could(0, 0, MOST), 32768);
            is("TICK 400, above now", x.could(0, 400, 3), ALL_PLACES);
        });
        edge(20, "IllegalArgumentException: the former is none.", () -> {
            for (int tick : new int[] {-1, 401, LEAST, MOST}) {
                refused("TICK " + tick, ARGUMENT, () -> x.could(0, tick, 0));
                is("the latter is any", x.could(0, 0, tick), ALL_PLACES);
            }
        });
    }

    private void least() {
        edge(TERMS, "two of them that are FAR APART by more than SPEED times the TICKS between", () -> {
            phones(1);
            x.ticks(9);
            seen(0, 0, 0, 2);
            seen(0, 0, 3, 5);
            is("three steps in three TICKS", x.least(0, 9, false), 0);
            seen(0, 0, 7, 5);
            is("four steps in three TICKS", x.least(0, 9, true), bits(2));
            x.speed(2);
            is("a step in no TICK", x.least(0, 9, true), bits(1));
        });
        edge(TERMS, "the fewest SAYINGS that must be left out so that no two are AGAINST", () -> {
            phones(1);
            is("of none", x.least(0, 0, false), 0);
            seen(0, 0, 0, 0);
            is("of one", x.least(0, 0, false), 0);
            seen(0, 0, 15, 0);
            seen(0, 0, 15, 0);
            is("one against two", x.least(0, 0, false), 1);
            is("that one", x.least(0, 0, true), bits(0));
            seen(0, 0, 0, 0);
            seen(0, 0, 0, 0);
            is("two against three", x.least(0, 0, true), bits(1, 2));
            seen(0, 0, 3, 0);
            is("and another one", x.least(0, 0, false), 3);
            for (int i = 0; i < 5; i++) {
                seen(0, 1, 7, 0);
            }
            is("of another PERSON none", x.least(1, 0, true), 0);
        });
        edge(21, "LEAST by what the TENT HAD at a TICK: how many (set false), or which, as bits (bit 0 the first of the SAYINGS).", () -> {
            phones(1);
            seen(0, 1, 9, 0);
            seen(0, 0, 0, 0);
            say(0, 4, 0);
            seen(0, 0, 0, 0);
            x.ticks(1);
            seen(0, 0, 15, 0);
            is("bits of SAYINGS, not of WORDS", x.least(0, 1, true), bits(2));
            is("how many", x.least(0, 1, false), 1);
            is("a TICK ago none", x.least(0, 0, true), 0);
            is("below all", x.least(0, LEAST, false), 0);
            is("above all", x.least(0, MOST, true), bits(2));
        });
    }

    private void leastOfMany() {
        edge(TERMS, "(of the first 10 by numbers; those behind are not asked)", () -> {
            phones(1);
            for (int i = 0; i < 9; i++) {
                seen(0, 0, 0, 0);
            }
            seen(0, 0, 15, 0);
            is("the tenth", x.least(0, 0, true), bits(9));
            seen(0, 0, 15, 0);
            is("not the eleventh", x.least(0, 0, true), bits(9));
            is("nor in the sum", x.least(0, 0, false), 1);
            for (int i = 0; i < 18; i++) {
                seen(0, 0, 15, 0);
            }
            is("nor all nineteen", x.least(0, 0, true), bits(9));
            x.undo(0, 1, 0);
            is("with one less the eleventh comes in", x.least(0, 0, true), bits(8, 9));
        });
        edge(TERMS, "of several sets the one of the least bits (by their order)", () -> {
            phones(1);
            seen(0, 0, 0, 0);
            seen(0, 0, 15, 0);
            is("of two the first", x.least(0, 0, true), bits(0));
            seen(0, 0, 3, 0);
            is("of three the first two", x.least(0, 0, true), bits(0, 1));
            seen(0, 0, 0, 0);
            is("0 and 3 are one", x.least(0, 0, true), bits(1, 2));
            seen(0, 0, 15, 0);
            is("0, 2, 3 are less than 1, 2, 4", x.least(0, 0, true), bits(0, 2, 3));
        });
    }

    private void judged() {
        edge(22, "A WORD is JUDGED: whether it was judged otherwise, or not, before.", () -> {
            phones(1);
            say(0, 0, 0);
            say(0, 0, 0);
            yes("not before, untrue", x.judge(0, false));
            no("alike", x.judge(0, false));
            yes("otherwise", x.judge(0, true));
            no("alike, true", x.judge(0, true));
            yes("otherwise again", x.judge(0, false));
            yes("not before, true", x.judge(1, true));
        });
        edge(TERMS, "a WORD may be told to have been true or not (once; the last telling counts)", () -> {
            phones(1);
            say(0, 0, 0);
            x.judge(0, true);
            x.judge(0, true);
            is("once", x.weight(0), 666);
            x.judge(0, false);
            is("the last telling", x.weight(0), 333);
            x.judge(0, true);
            is("the last one again", x.weight(0), 666);
        });
        edge(TERMS, "one more than the true ones, by two more than all, in thousandths, rounded down", () -> {
            phones(2);
            for (int i = 0; i < 29; i++) {
                say(0, i % 5, 0);
            }
            say(1, 3, 0);
            is("none is judged", x.weight(0), 500);
            x.judge(0, true);
            is("2 by 3", x.weight(0), 666);
            x.judge(1, false);
            x.judge(2, false);
            is("2 by 5", x.weight(0), 400);
            for (int i = 0; i < 29; i++) {
                x.judge(i, true);
            }
            is("30 by 31", x.weight(0), 967);
            for (int i = 0; i < 29; i++) {
                x.judge(i, false);
            }
            is("1 by 31", x.weight(0), 32);
            is("another's", x.weight(1), 500);
        });
        edge(23, "WEIGHT of a PHONE as a MOUTH.", () -> {
            phones(2);
            say(1, 0, 0);
            x.judge(0, false);
            is("not HAD by the TENT", x.had(0), NONE);
            is("of its MOUTH", x.weight(1), 333);
            x.ticks(1);
            is("not of one that has it", x.weight(0), 500);
            for (int phone : new int[] {-1, 2, 9, 10, LEAST, MOST}) {
                refused("PHONE " + phone, INDEX, () -> x.weight(phone));
            }
        });
    }

    private void sure() {
        edge(TERMS, "the WEIGHTS of all unlike MOUTHS of SAYINGS that tell that PLACE, together", () -> {
            phones(3);
            x.ticks(9);
            seen(1, 0, 5, 9);
            seen(1, 0, 5, 9);
            seen(2, 0, 5, 8);
            seen(2, 0, 4, 7);
            x.judge(2, true);
            is("the TENT HAS none yet", x.sure(0, 5), 0);
            x.ticks(1);
            is("each MOUTH once", x.sure(0, 5), 500 + 666);
            is("the other PLACE", x.sure(0, 4), 666);
            is("a PLACE that none tells", x.sure(0, 6), 0);
            is("another PERSON", x.sure(1, 5), 0);
        });
        edge(TERMS, "if none of all SAYINGS about the PERSON are AGAINST; else 0", () -> {
            phones(1);
            x.ticks(2);
            for (int i = 0; i < 10; i++) {
                seen(0, 0, 0, 0);
            }
            seen(0, 0, 1, 1);
            is("a step in a TICK", x.sure(0, 0), 500);
            seen(0, 0, 4, 2);
            is("two steps in a TICK, of the eleventh and the twelfth", x.sure(0, 0), 0);
            is("at each PLACE", x.sure(0, 4), 0);
            is("at one that none tells", x.sure(0, 9), 0);
            x.speed(2);
            is("with more SPEED", x.sure(0, 4), 500);
        });
        edge(TERMS, "none of all SAYINGS about the PERSON are AGAINST", () -> {
            phones(1);
            seen(0, 0, 0, 0);
            seen(0, 1, 7, 0);
            seen(0, 0, 15, 0);
            is("the first and the second", x.sure(0, 15), 0);
            is("those about another do not count", x.sure(1, 7), 500);
            seen(0, 1, 7, 0);
            is("nor do they with two", x.sure(1, 7), 500);
        });
        edge(24, "SURE, by what the TENT HAS by now.", () -> {
            phones(2);
            seen(1, 0, 0, 0);
            is("not yet", x.sure(0, 0), 0);
            x.ticks(1);
            is("now", x.sure(0, 0), 500);
            x.undo(0, 9, 0);
            is("undone", x.sure(0, 0), 0);
        });
    }

    private void hidden() {
        edge(33, "A PERSON is HIDDEN, or not: whether it was otherwise.", () -> {
            for (int person : new int[] {0, 15}) {
                no("not at first", x.hide(person, false));
                yes("it is", x.hide(person, true));
                no("it is already", x.hide(person, true));
                yes("it is not", x.hide(person, false));
                no("it is not already", x.hide(person, false));
            }
            x.hide(3, true);
            no("the one below is not", x.hide(2, false));
            no("the one above is not", x.hide(4, false));
            no("itself is", x.hide(3, true));
            for (int person : new int[] {-1, 16, 32, LEAST, MOST}) {
                refused("PERSON " + person, INDEX, () -> x.hide(person, true));
            }
        });
    }

    private void ask() {
        edge(TERMS, "0 of one that it HAD no SAYING about", () -> {
            phones(2);
            seen(1, 0, 5, 0);
            is("told, but not HAD", x.ask(0, true), 0);
            is("of whom nothing is told", x.ask(1, true), 0);
            x.ticks(1);
            is("HAD", x.ask(0, true), bits(5, 1, 4, 6, 9));
            x.say(0, 2, 9, 1, 0, 0, 0);
            is("need is no SAYING", x.ask(1, true), 0);
            x.undo(0, 9, 0);
            is("undone", x.ask(0, true), 0);
        });
        edge(TERMS, "and 0 likewise of a HIDDEN one, if no show LINE holds (FACTS: kin; all else 0 or no)", () -> {
            hiddenBy("", 0, 0);
            hiddenBy("pass;first 3;cost 2", 0, 0);
            hiddenBy("show", 1, 1);
            hiddenBy("show if kin", 1, 0);
            hiddenBy("show if not kin", 0, 1);
            hiddenBy("show if kin;show if not kin", 1, 1);
            hiddenBy("show if alive or seen or need or asked or order or undone", 0, 0);
            hiddenBy("show if age > 0 or hops > 0 or have > 0 or charge > 0 or number > 0", 0, 0);
            hiddenBy("show if age < 1 and hops < 1 and have < 1 and charge < 1 and number < 1", 1, 1);
            hiddenBy("show if not seen and kin", 1, 0);
        });
        edge(34, "ASK.", () -> {
            phones(1);
            seen(0, 2, 0, 0);
            is("by kin, not HIDDEN", x.ask(2, true), bits(0));
            is("by another, not HIDDEN", x.ask(2, false), bits(0));
            x.ticks(1);
            is("the COULD of now", x.ask(2, false), bits(0, 1, 4));
            seen(0, 2, 15, 1);
            is("of two that are AGAINST", x.ask(2, false), 0);
            is("of another PERSON", x.ask(3, false), 0);
        });
    }

    private void hiddenBy(String text, int kin, int other) {
        anew(text);
        phones(2);
        x.say(0, 1, 9, 2, 7, 0, 5);
        x.say(1, 1, 9, 3, 7, 0, 5);
        x.hide(2, true);
        x.ticks(1);
        // What was asked of a COPY before is not asked of a PERSON.
        x.copy(1, 0, 4);
        is("kin, by '" + text + "'", x.ask(2, true), kin * bits(7, 3, 6, 11));
        x.copy(1, 0, 4);
        is("another, by '" + text + "'", x.ask(2, false), other * bits(7, 3, 6, 11));
    }
}
