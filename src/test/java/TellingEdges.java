/** What is told, and what can be seen of it: promises 1 to 5 and 8 to 13. */
final class TellingEdges extends Edges {
    TellingEdges(Checks checks, Document document, int[] tested) {
        super(checks, document, tested);
    }

    @Override
    void testAll() {
        newObject();
        tape();
        places();
        phones();
        moves();
        words();
        wrongWords();
        undone();
        copies();
        looks();
        wordFacts();
    }

    private void newObject() {
        edge(1, "No PHONES, WORDS, RULES; TICK 0.", () -> {
            is("PHONES", x.count(1), 0);
            is("WORDS", x.count(2), 0);
            is("LINES", x.count(3), 0);
            is("TICK", x.count(0), 0);
            refused("no PHONE", INDEX, () -> x.look(0, 0));
            refused("no WORD", INDEX, () -> x.word(0, 0));
        });
        edge(TERMS, "An object is used for at most 512 calls after it has been made", () -> {
            phones(10);
            for (int i = 0; i < 30; i++) {
                say(i % 10, i % 5, 0);
            }
            for (int i = 0; i < 60; i++) {
                x.move(1, i % 10, 1 + i, i % 16);
            }
            for (int i = 0; i < 10; i++) {
                x.ticks(40);
            }
            for (int i = 111; i < 512; i++) {
                x.far(29, 400);
            }
            is("the 512th", x.count(0), 400);
        });
    }

    private void tape() {
        edge(2, "Twenty bytes come behind the TAPE, of each number the highest first: how many it has", () -> {
            // show;first 9;cost 77
            is("twenty", x.feed(0x73686f77, 0x3b666972, 0x73742039, 0x3b636f73, 0x74203737), 20);
            // ;first 99; first 999
            is("forty", x.feed(0x3b666972, 0x73742039, 0x393b2066, 0x69727374, 0x20393939), 40);
            is("LINES", x.rules(), 5);
            phones(1);
            is("9, 99 and 999", x.copy(0, say(0, 0, 0), 4), 9 + 99 + 999);
        });
        edge(2, "of each number the highest first", () -> {
            x.feed(0x70617373, 0x80ff0000, MOST, LEAST, NONE);
            x.end(5);
            refused("a byte above 127 is none of the text", ARGUMENT, () -> x.rules());
            is("it is the fifth", x.fault(), 4);
        });
        edge(2, "NONE, and none come, if it would have more than 400", () -> {
            for (int i = 1; i <= 20; i++) {
                is("as far as 400", x.feed(0x20202020, 0x20202020, 0x20202020, 0x20202020, 0x20202020), 20 * i);
            }
            is("420", x.feed(0, 0, 0, 0, 0), NONE);
            no("none came", x.end(401));
            yes("400 are there", x.end(400));
            x.end(381);
            is("401", x.feed(0, 0, 0, 0, 0), NONE);
            no("none of them came", x.end(382));
            x.end(380);
            is("400 again", x.feed(0x20202020, 0x20202020, 0x20202020, 0x20202020, 0x20202020), 400);
            is("blanks alone", x.rules(), 0);
        });
        edge(3, "The TAPE has its first n bytes alone: true", () -> {
            yes("0 of an empty one", x.end(0));
            // pass and sixteen bytes that are none of a text
            x.feed(0x70617373, 0, 0, 0, 0);
            yes("all that it has", x.end(20));
            yes("fewer", x.end(4));
            no("those behind are gone", x.end(5));
            is("the first ones stay", x.rules(), 1);
            x.feed(0x70617373, 0, 0, 0, 0);
            yes("none", x.end(0));
            // first 19 and blanks
            is("the next ones come behind those", x.feed(0x66697273, 0x74203139, 0x20202020, 0x20202020, 0x20202020), 20);
            x.end(7);
            is("first 1", x.rules(), 1);
            phones(1);
            is("not 19", x.copy(0, say(0, 0, 0), 4), 1);
            // passpass
            x.feed(0x70617373, 0x70617373, 0, 0, 0);
            x.end(4);
            is("pass", x.rules(), 1);
        });
        edge(3, "false, and nothing happens, if it has fewer, or n is below 0", () -> {
            no("an empty one has fewer", x.end(1));
            x.feed(0x70617373, 0x20202020, 0x20202020, 0x20202020, 0x20202020);
            no("one more than it has", x.end(21));
            no("many more", x.end(MOST));
            no("below 0", x.end(-1));
            no("far below 0", x.end(LEAST));
            is("all twenty are there", x.feed(0x20202020, 0x20202020, 0x20202020, 0x20202020, 0x20202020), 40);
            is("and read", x.rules(), 1);
        });
    }

    private void places() {
        edge(TERMS, "PLACES 0 to 15: number 4 y + x, x and y 0 to 3", () -> {
            is("the first", x.phone(0, 0, 1, 0), 0);
            is("the last", x.phone(15, 0, 1, 0), 1);
            for (int place : new int[] {-1, 16, LEAST, MOST}) {
                refused("no PLACE of a PHONE", INDEX, () -> x.phone(place, 0, 1, 0));
                refused("no PLACE to move to", INDEX, () -> x.move(0, 0, 1, place));
                refused("no PLACE of a WORD", INDEX, () -> x.say(0, 0, 1, 0, place, 0, 0));
                refused("no PLACE of one that is needed", INDEX, () -> x.say(0, 2, 1, 0, place, 0, 0));
                refused("no PLACE to be SURE of", INDEX, () -> x.sure(0, place));
                refused("no PLACE of STONES", INDEX, () -> x.stones(place, 0, 0, 0, 1));
                refused("no PLACE of a GANG", INDEX, () -> x.gang(place, 1));
            }
            x.move(0, 0, 1, 15);
            x.move(0, 1, 1, 0);
            x.ticks(1);
            is("moved to the last", x.look(0, 0), 15);
            is("moved to the first", x.look(1, 0), 0);
        });
        edge(TERMS, "FAR APART: steps along x and y together", () -> {
            phones(1);
            seen(0, 3, 3, 0);
            seen(0, 4, 4, 0);
            seen(0, 0, 0, 0);
            is("at the end of a row", x.could(3, 1, 0), bits(3, 2, 7));
            is("at the begin of the next one", x.could(4, 1, 0), bits(4, 0, 5, 8));
            is("six at most", x.could(0, 6, 0), ALL_PLACES);
            is("five do not reach the other corner", x.could(0, 5, 0), ALL_PLACES - bits(15));
            is("four reach but these", x.could(0, 4, 0), ALL_PLACES - bits(15, 14, 11));
        });
    }

    private void phones() {
        edge(TERMS, "PHONES (at most 10, numbered from 0 on; 0 is the TENT's)", () -> {
            for (int i = 0; i < 10; i++) {
                is("its number", x.phone(i, 5, 5, 0), i);
            }
            for (int i = 0; i < 10; i++) {
                is("HAD", x.had(say(i, 0, 0)), i == 0 ? 0 : NONE);
            }
        });
        edge(TERMS, "CHARGE (0 to 1000), ROOM (1 to 12 WORDS), SWELL (0 to 9)", () -> {
            x.phone(0, 1000, 12, 9);
            x.phone(0, 1000, 1, 0);
            x.phone(0, 0, 12, 0);
            is("the most CHARGE", x.look(0, 1), 1000);
            is("the most ROOM", x.look(0, 3), 12);
            is("the most SWELL", x.look(0, 4), 9);
            is("the least CHARGE", x.look(2, 1), 0);
            is("the least ROOM", x.look(1, 3), 1);
            is("the least SWELL", x.look(1, 4), 0);
            for (int i = 0; i < 13; i++) {
                is("WORDS on it", x.look(0, 2), i);
                x.say(0, 1, 200, 0, 0, 0, i);
            }
            is("no 13th", x.look(0, 2), 12);
            is("one was given away", x.look(0, 7), 1);
            x.ticks(1);
            is("one WORD goes to the ROOM of one", x.look(1, 2), 1);
            is("and has swollen by nine", x.copy(1, 0, 0), 9);
            is("nothing goes without CHARGE", x.look(2, 2), 0);
        });
        edge(4, "A PHONE: its number.", () -> {
            is("the TENT's", x.phone(7, 10, 2, 3), 0);
            is("the next", x.phone(8, 11, 3, 4), 1);
            refused("one that is none has no number", ARGUMENT, () -> x.phone(8, 11, 13, 4));
            is("the one behind it", x.phone(9, 12, 4, 5), 2);
            int[] due = {8, 11, 0, 3, 4, 0, 0, 0};
            for (int what = 0; what < due.length; what++) {
                is("what " + what, x.look(1, what), due[what]);
            }
        });
        edge(4, "IllegalArgumentException: a number is none", () -> {
            for (int charge : new int[] {-1, 1001, LEAST, MOST}) {
                refused("CHARGE " + charge, ARGUMENT, () -> x.phone(0, charge, 1, 0));
            }
            for (int room : new int[] {0, 13, -1, LEAST, MOST}) {
                refused("ROOM " + room, ARGUMENT, () -> x.phone(0, 0, room, 0));
            }
            for (int swell : new int[] {-1, 10, LEAST, MOST}) {
                refused("SWELL " + swell, ARGUMENT, () -> x.phone(0, 0, 1, swell));
            }
            is("none came", x.count(1), 0);
        });
        edge(4, "UnsupportedOperationException: there are 10", () -> {
            for (int i = 0; i < 10; i++) {
                is("as far as 10", x.phone(0, 0, 1, 0), i);
            }
            refused("an 11th", UNSUPPORTED, () -> x.phone(0, 0, 1, 0));
            is("it did not come", x.count(1), 10);
            refused("nor is it there", INDEX, () -> x.look(10, 0));
        });
        edge(4, "there are 10; IllegalStateException.", () -> {
            x.ticks(0);
            is("TICK 0 still", x.phone(0, 0, 1, 0), 0);
            x.ticks(1);
            refused("TICK 1", STATE, () -> x.phone(0, 0, 1, 0));
            is("it did not come", x.count(1), 1);
        });
        edge(TERMS, "All are told while TICK is 0", () -> {
            x.image();
            x.ticks(400 / 10);
            refused("later", STATE, () -> x.phone(0, 0, 1, 0));
            x.back();
            is("TICK is 0 again", x.phone(0, 0, 1, 0), 0);
        });
    }

    private void moves() {
        edge(TERMS, "LOTS 0 to 3 of walks: each has moves (at most 60)", () -> {
            phones(1);
            for (int lot : new int[] {-1, 4, LEAST, MOST}) {
                refused("LOT " + lot, INDEX, () -> x.move(lot, 0, 1, 0));
            }
            for (int lot = 0; lot < 4; lot++) {
                is("LOTS that have a move", x.count(11), lot);
                for (int i = 1; i <= 60; i++) {
                    is("each has its own", x.move(lot, 0, 1, 0), i);
                }
                int full = lot;
                is("no 61st", x.move(full, 0, 1, 0), NONE);
            }
        });
        edge(TERMS, "a PHONE is at a PLACE from a TICK on", () -> {
            phones(2);
            x.move(0, 1, 2, 5);
            x.ticks(1);
            is("ahead of it", x.look(1, 0), 0);
            x.ticks(1);
            is("from it on", x.look(1, 0), 5);
            x.ticks(40);
            is("it stays", x.look(1, 0), 5);
            is("who was not told to move stays", x.look(0, 0), 0);
        });
        edge(TERMS, "of several of one TICK the one told last", () -> {
            phones(2);
            x.move(0, 1, 2, 5);
            x.move(0, 1, 3, 6);
            x.move(0, 1, 2, 7);
            x.move(0, 0, 2, 8);
            x.ticks(2);
            is("of one TICK", x.look(1, 0), 7);
            x.ticks(1);
            is("of the next one, told earlier", x.look(1, 0), 6);
        });
        edge(TERMS, "The town goes by LOT 0", () -> {
            phones(1);
            for (int lot = 0; lot < 4; lot++) {
                x.move(lot, 0, 1, 4 + lot);
            }
            x.ticks(1);
            is("its PLACE", x.look(0, 0), 4);
        });
        edge(TERMS, "of a LOT that has not reached a TICK a PHONE stays where it was put", () -> {
            phones(1);
            x.phone(9, 9, 9, 0);
            x.move(0, 1, 1, 0);
            x.move(0, 1, 2, 9);
            x.move(1, 0, 3, 9);
            say(1, 0, 0);
            x.ticks(4);
            is("at TICK 1 by LOT 0 alone", x.far(0, 1), 2 + 1);
            is("it was put to 9, though LOT 0 had it elsewhere", x.far(0, 2), 2 + 1);
            is("where LOT 1 meets it", x.far(0, 3), 2 + 2);
        });
        edge(TERMS, "Moves are told for later TICKS alone.", () -> {
            phones(1);
            x.ticks(7);
            refused("an earlier one", ARGUMENT, () -> x.move(0, 0, 6, 1));
            refused("this one", ARGUMENT, () -> x.move(0, 0, 7, 1));
            is("the next one", x.move(0, 0, 8, 1), 1);
            x.ticks(1);
            is("there", x.look(0, 0), 1);
        });
        edge(5, "A move in a LOT: how many it has", () -> {
            phones(1);
            is("one", x.move(2, 0, 1, 0), 1);
            is("two", x.move(2, 0, 1, 0), 2);
            is("one of another", x.move(3, 0, 1, 0), 1);
        });
        edge(5, "NONE, and it is not told, if there are 60", () -> {
            phones(1);
            for (int i = 1; i < 60; i++) {
                x.move(0, 0, 2, 1);
            }
            is("the 60th", x.move(0, 0, 2, 2), 60);
            is("the 61st", x.move(0, 0, 2, 3), NONE);
            is("at another TICK", x.move(0, 0, 1, 4), NONE);
            x.ticks(1);
            is("not told", x.look(0, 0), 0);
            x.ticks(1);
            is("the one told last", x.look(0, 0), 2);
        });
        edge(5, "IllegalArgumentException: the TICK is not above this one and not above 400", () -> {
            phones(1);
            for (int tick : new int[] {0, -1, 401, LEAST, MOST}) {
                refused("at TICK 0 of TICK " + tick, ARGUMENT, () -> x.move(0, 0, tick, 1));
            }
            is("the last TICK", x.move(0, 0, 400, 3), 1);
            is("the first TICK", x.move(0, 0, 1, 1), 2);
            ticksTo(399);
            is("400 still", x.move(0, 0, 400, 2), 3);
            x.ticks(1);
            is("it is reached", x.look(0, 0), 2);
            refused("400 is this one", ARGUMENT, () -> x.move(0, 0, 400, 1));
            refused("401 there is not", ARGUMENT, () -> x.move(0, 0, 401, 1));
        });
    }

    private void words() {
        edge(TERMS, "WORDS (at most 30, numbered from 0 on)", () -> {
            phones(3);
            for (int i = 0; i < 30; i++) {
                is("its number", i % 7 == 3 ? x.undo(1, 1, 0) : say(i % 3, i % 5, 0), i);
            }
            refused("no 31st", UNSUPPORTED, () -> say(0, 0, 0));
        });
        edge(TERMS, "LIFE (1 to 200): it dies when TICK is that and LIFE together", () -> {
            phones(1);
            x.ticks(3);
            x.say(0, 0, 1, 0, 0, 0, 0);
            x.say(0, 0, 200, 0, 0, 0, 0);
            is("it lives", x.word(0, 10), 0);
            is("and is there", x.look(0, 2), 2);
            x.ticks(1);
            is("TICK 3 and 1", x.word(0, 10), 1);
            is("it is gone", x.copy(0, 0, 0), NONE);
            ticksTo(202);
            is("a TICK ahead of 3 and 200", x.word(1, 10), 0);
            is("it is there", x.copy(0, 1, 0), 0);
            x.ticks(1);
            is("3 and 200", x.word(1, 10), 1);
            is("none is there", x.look(0, 2), 0);
        });
        edge(TERMS, "where and at which TICK, not above now", () -> {
            phones(1);
            refused("TICK 1 at TICK 0", ARGUMENT, () -> seen(0, 0, 0, 1));
            is("TICK 0", seen(0, 0, 0, 0), 0);
            x.ticks(1);
            refused("TICK 2 at TICK 1", ARGUMENT, () -> x.say(0, 0, 1, 0, 0, 2, 0));
            is("TICK 1", x.say(0, 0, 1, 0, 0, 1, 0), 1);
        });
        edge(TERMS, "PERSON (0 to 15)", () -> {
            phones(1);
            for (int person : new int[] {-1, 16, LEAST, MOST}) {
                refused("PERSON " + person, INDEX, () -> x.say(0, 3, 1, person, 0, 0, 0));
            }
            is("the first", x.say(0, 3, 1, 0, 0, 0, 0), 0);
            is("the last", x.say(0, 3, 1, 15, 0, 0, 0), 1);
            is("as it was told", x.word(1, 4), 15);
        });
        edge(TERMS, "NUMBER (0 to 9999)", () -> {
            phones(1);
            refused("below", ARGUMENT, () -> say(0, 3, -1));
            refused("above", ARGUMENT, () -> say(0, 3, 10000));
            is("the least", x.word(say(0, 3, 0), 7), 0);
            is("the most", x.word(say(0, 3, 9999), 7), 9999);
            is("of its COPY", x.copy(0, 1, 0), 9999);
        });
        edge(TERMS, "its NUMBER as it came, HOPS", () -> {
            phones(1);
            x.phone(0, 1000, 12, 2);
            say(1, 2, 7);
            x.ticks(4);
            is("as it came", x.copy(0, 0, 0), 9);
            is("as it was told", x.word(0, 7), 7);
            is("HOPS", x.copy(0, 0, 1), 1);
            is("the TICK it came", x.copy(0, 0, 3), 1);
        });
        edge(8, "A WORD of a kind 0 to 4 is told at a PHONE: its number.", () -> {
            phones(2);
            for (int kind = 0; kind < 5; kind++) {
                is("kind " + kind, x.say(kind % 2, kind, 1 + kind, kind, 15 - kind, 0, 9999 - kind), kind);
                is("as it was told", x.word(kind, 0), kind);
                is("it has it there at once", x.copy(kind % 2, kind, 0), 9999 - kind);
                is("HOPS 0", x.copy(kind % 2, kind, 1), 0);
                is("not elsewhere", x.copy(1 - kind % 2, kind, 0), NONE);
            }
        });
    }

    private void wrongWords() {
        edge(8, "the kind, LIFE, WHEN (0 to TICK; of kinds 2 to 4 it is not asked) or NUMBER are none", () -> {
            phones(1);
            x.ticks(2);
            for (int kind : new int[] {-1, 5, 6, LEAST, MOST}) {
                refused("kind " + kind, ARGUMENT, () -> x.say(0, kind, 1, 0, 0, 0, 0));
            }
            for (int life : new int[] {0, 201, -1, LEAST, MOST}) {
                refused("LIFE " + life, ARGUMENT, () -> x.say(0, 2, life, 0, 0, 0, 0));
            }
            for (int when : new int[] {-1, 3, LEAST, MOST}) {
                refused("alive WHEN " + when, ARGUMENT, () -> x.say(0, 0, 1, 0, 0, when, 0));
                refused("seen WHEN " + when, ARGUMENT, () -> x.say(0, 1, 1, 0, 0, when, 0));
            }
            for (int number : new int[] {-1, 10000, LEAST, MOST}) {
                refused("NUMBER " + number, ARGUMENT, () -> x.say(0, 2, 1, 0, 0, 0, number));
            }
            is("none was told", x.count(2), 0);
        });
        edge(8, "WHEN (0 to TICK; of kinds 2 to 4 it is not asked)", () -> {
            phones(1);
            x.ticks(2);
            is("alive at 0", x.say(0, 0, 1, 0, 0, 0, 0), 0);
            is("alive at TICK", x.say(0, 0, 1, 0, 0, 2, 0), 1);
            is("seen at 0", x.say(0, 1, 1, 0, 0, 0, 0), 2);
            is("seen at TICK", x.say(0, 1, 1, 0, 0, 2, 0), 3);
            int word = 4;
            for (int kind = 2; kind < 5; kind++) {
                for (int when : new int[] {-1, 3, LEAST, MOST}) {
                    is("kind " + kind + " at " + when, x.say(0, kind, 1, 0, 0, when, 0), word);
                    word++;
                }
            }
        });
        edge(TERMS, "LIFE (1 to 200)", () -> {
            phones(1);
            is("the least LIFE", x.say(0, 0, 1, 0, 0, 0, 0), 0);
            is("the most LIFE", x.say(0, 0, 200, 15, 15, 0, 9999), 1);
            is("as it was told", x.word(1, 3), 200);
            is("PERSON 15", x.word(1, 4), 15);
            is("PLACE 15", x.word(1, 5), 15);
            is("NUMBER 9999", x.word(1, 7), 9999);
        });
        edge(8, "UnsupportedOperationException: there are 30", () -> {
            phones(1);
            for (int i = 0; i < 29; i++) {
                x.say(0, 3, 1, 0, 0, 0, 0);
            }
            x.ticks(1);
            is("dead ones count", x.look(0, 2), 0);
            is("the 30th", x.say(0, 3, 1, 0, 0, 0, 0), 29);
            refused("the 31st", UNSUPPORTED, () -> x.say(0, 3, 1, 0, 0, 0, 0));
            is("it is not there", x.count(2), 30);
            is("nor on the PHONE", x.look(0, 2), 1);
        });
    }

    private void undone() {
        edge(TERMS, "of undone the WORD that it undoes (an earlier one, no undone)", () -> {
            phones(1);
            refused("of none", INDEX, () -> x.undo(0, 1, 0));
            say(0, 4, 0);
            refused("of itself", INDEX, () -> x.undo(0, 1, 1));
            refused("below", INDEX, () -> x.undo(0, 1, -1));
            is("of an earlier one", x.undo(0, 1, 0), 1);
            refused("of an undone one", ARGUMENT, () -> x.undo(0, 1, 1));
            is("once more of the same", x.undo(0, 1, 0), 2);
        });
        edge(9, "An undone WORD: its number.", () -> {
            phones(2);
            x.ticks(3);
            x.say(0, 0, 9, 3, 4, 2, 5);
            is("the next number", x.undo(1, 7, 0), 1);
            int[] due = {5, 1, 3, 7, 0, 0, 0, 0, 0, 1, 0};
            for (int what = 0; what < due.length; what++) {
                is("what " + what, x.word(1, what), due[what]);
            }
            is("where it was told", x.copy(1, 1, 3), 3);
        });
        edge(9, "LIFE is none, or what it undoes is undone itself", () -> {
            phones(1);
            say(0, 0, 0);
            for (int life : new int[] {0, 201, -1, LEAST, MOST}) {
                refused("LIFE " + life, ARGUMENT, () -> x.undo(0, life, 0));
            }
            is("the most LIFE", x.undo(0, 200, 0), 1);
            is("the least LIFE", x.undo(0, 1, 0), 2);
            refused("undone itself", ARGUMENT, () -> x.undo(0, 1, 1));
            x.ticks(1);
            refused("undone itself, and dead", ARGUMENT, () -> x.undo(0, 1, 2));
            is("of no more than these", x.count(2), 3);
        });
        edge(9, "UnsupportedOperationException likewise", () -> {
            phones(1);
            for (int i = 0; i < 29; i++) {
                x.say(0, 3, 1, 0, 0, 0, 0);
            }
            is("the 30th", x.undo(0, 1, 28), 29);
            refused("the 31st", UNSUPPORTED, () -> x.undo(0, 1, 0));
            is("nothing was undone by it", x.copy(0, 0, 0), 0);
            is("WORDS", x.count(2), 30);
        });
        edge(TERMS, "of undone the WORD that it undoes (an earlier one", () -> {
            phones(1);
            x.say(0, 0, 1, 0, 0, 0, 0);
            x.ticks(1);
            is("a dead one can be undone", x.undo(0, 2, 0), 1);
            x.ticks(1);
            is("the undone one lives", x.word(1, 10), 0);
            x.ticks(1);
            is("and dies", x.word(1, 10), 1);
        });
    }

    private void copies() {
        edge(12, "2 from which PHONE (NONE)", () -> {
            phones(2);
            say(0, 0, 0);
            is("told there", x.copy(0, 0, 2), NONE);
            x.ticks(1);
            is("it came from the TENT", x.copy(1, 0, 2), 0);
            is("told there still", x.copy(0, 0, 2), NONE);
        });
        edge(TERMS, "the PHONE from which it came (none: told there)", () -> {
            phones(3);
            say(2, 0, 0);
            x.ticks(1);
            is("0 from 2", x.copy(0, 0, 2), 2);
            is("1 from 2", x.copy(1, 0, 2), 2);
            is("2 from none", x.copy(2, 0, 2), NONE);
            is("the TICK", x.copy(1, 0, 3), 1);
            is("the TICK it was told", x.copy(2, 0, 3), 0);
        });
        edge(12, "5 1 if it may be PASSED", () -> {
            rules("pass if seen");
            phones(1);
            say(0, 1, 0);
            say(0, 2, 0);
            is("it may", x.copy(0, 0, 5), 1);
            is("it may not", x.copy(0, 1, 5), 0);
        });
        edge(12, "NONE for all if the PHONE has it not", () -> {
            phones(1);
            x.phone(1, 9, 9, 0);
            say(0, 0, 0);
            for (int what = 0; what < 6; what++) {
                is("what " + what, x.copy(1, 0, what), NONE);
            }
            x.undo(0, 9, 0);
            for (int what = 0; what < 6; what++) {
                is("no more, what " + what, x.copy(0, 0, what), NONE);
            }
        });
        edge(12, "NoSuchElementException: another what", () -> {
            phones(2);
            say(0, 0, 0);
            for (int what : new int[] {-1, 6, LEAST, MOST}) {
                refused("what " + what, ELEMENT, () -> x.copy(0, 0, what));
                refused("of none there, what " + what, ELEMENT, () -> x.copy(1, 0, what));
            }
        });
    }

    private void looks() {
        edge(11, "2 COPIES", () -> {
            x.phone(0, 9, 2, 0);
            is("none", x.look(0, 2), 0);
            say(0, 0, 0);
            say(0, 0, 0);
            say(0, 0, 0);
            is("as many as ROOM", x.look(0, 2), 2);
            x.undo(0, 1, 0);
            is("one for the one undone", x.look(0, 2), 2);
            x.ticks(1);
            is("the dead are gone", x.look(0, 2), 1);
        });
        edge(11, "5 how many it HANDED, 6 how many it took, 7 how many it gave away", () -> {
            rules("first 1 if number > 0");
            x.phone(0, 9, 1, 0);
            x.phone(0, 9, 12, 0);
            say(0, 0, 0);
            say(1, 0, 1);
            x.ticks(1);
            // 1 goes to the TENT for 0, which nobody else has.
            int[] tent = {0, 1, 1};
            int[] other = {1, 0, 0};
            for (int what = 5; what < 8; what++) {
                is("the TENT, " + what, x.look(0, what), tent[what - 5]);
                is("the other, " + what, x.look(1, what), other[what - 5]);
            }
        });
        edge(11, "NoSuchElementException: another what", () -> {
            phones(1);
            for (int what : new int[] {-1, 8, LEAST, MOST}) {
                refused("what " + what, ELEMENT, () -> x.look(0, what));
            }
        });
    }

    private void wordFacts() {
        edge(13, "8 what it undoes (NONE)", () -> {
            phones(1);
            say(0, 0, 0);
            say(0, 0, 0);
            x.undo(0, 9, 1);
            is("of no undone one", x.word(0, 8), NONE);
            is("of one that is undone", x.word(1, 8), NONE);
            is("of the undone one", x.word(2, 8), 1);
        });
        edge(13, "9 how many PHONES have it", () -> {
            phones(3);
            x.say(1, 0, 2, 0, 0, 0, 0);
            is("one", x.word(0, 9), 1);
            x.ticks(1);
            is("all", x.word(0, 9), 3);
            x.ticks(1);
            is("none", x.word(0, 9), 0);
        });
        edge(13, "10 1 if it is dead", () -> {
            phones(1);
            x.say(0, 0, 1, 0, 0, 0, 0);
            say(0, 0, 0);
            x.undo(0, 9, 1);
            x.ticks(1);
            is("dead", x.word(0, 10), 1);
            is("undone is not dead", x.word(1, 10), 0);
            is("nor is what undoes it", x.word(2, 10), 0);
        });
        edge(13, "(undone ones: PERSON to NUMBER 0)", () -> {
            phones(1);
            x.ticks(5);
            x.say(0, 1, 9, 7, 8, 5, 6);
            x.undo(0, 9, 0);
            for (int what = 4; what < 8; what++) {
                is("what " + what, x.word(1, what), 0);
            }
            is("its COPY's too", x.copy(0, 1, 0), 0);
            x.image();
            x.say(0, 1, 9, 7, 8, 5, 6);
            x.back();
            is("where another WORD would have been", x.undo(0, 9, 0), 2);
            for (int what = 4; what < 8; what++) {
                is("of that one, what " + what, x.word(2, what), 0);
            }
        });
        edge(13, "NoSuchElementException: another what", () -> {
            phones(1);
            say(0, 0, 0);
            for (int what : new int[] {-1, 11, LEAST, MOST}) {
                refused("what " + what, ELEMENT, () -> x.word(0, what));
            }
        });
    }
}
