/** Other walks, other RULES, ROWS, THE IMAGE and what is counted: promises 35 to 41. */
final class TimeEdges extends Edges {
    TimeEdges(Checks checks, Document document, int[] tested) {
        super(checks, document, tested);
    }

    @Override
    void testAll() {
        far();
        lots();
        tellings();
        would();
        wouldHave();
        rows();
        check();
        image();
        imageHolds();
        imageOfCopies();
        count();
    }

    private void far() {
        edge(35, "FAR, up to now (a TICK above: as of now).", () -> {
            phones(1);
            x.phone(5, 100, 9, 0);
            x.move(0, 1, 2, 0);
            say(1, 0, 0);
            x.ticks(1);
            is("a TICK above is not yet", x.far(0, 2), 1);
            is("the last TICK neither", x.far(0, MOST), 1);
            x.ticks(2);
            int[] due = {1, 1, 2, 2, 2};
            for (int tick = 0; tick < due.length; tick++) {
                is("at TICK " + tick, x.far(0, tick), due[tick]);
            }
            is("far above", x.far(0, MOST), 2);
        });
        edge(35, "IllegalArgumentException: it is below 0.", () -> {
            phones(1);
            say(0, 0, 0);
            refused("-1", ARGUMENT, () -> x.far(0, -1));
            refused("far below", ARGUMENT, () -> x.far(0, LEAST));
            is("0 is not", x.far(0, 0), 1);
            x.ticks(3);
            refused("-1 at TICK 3", ARGUMENT, () -> x.far(0, -1));
            refused("far below at TICK 3", ARGUMENT, () -> x.far(0, LEAST));
            refused("no such WORD comes first", INDEX, () -> x.far(1, -1));
            is("0 is not at TICK 3", x.far(0, 0), 1);
            is("the last int", x.far(0, MOST), 1);
        });
        edge(TERMS, "how many PHONES have a COPY of it at the end of that TICK", () -> {
            phones(3);
            x.say(1, 0, 2, 0, 0, 0, 0);
            x.ticks(2);
            is("one", x.far(0, 0), 1);
            is("all", x.far(0, 1), 3);
            is("it is dead", x.far(0, 2), 0);
        });
    }

    private void lots() {
        edge(TERMS, "over all LOTS that have a move (LOT 0 always)", () -> {
            phones(1);
            say(0, 0, 0);
            is("LOT 0", x.far(0, 0), 1);
            x.move(3, 0, 400, 0);
            is("and LOT 3", x.far(0, 0), 2);
            x.move(1, 0, 400, 0);
            is("and LOT 1", x.far(0, 0), 3);
            x.move(0, 0, 400, 0);
            is("LOT 0 is no more with a move", x.far(0, 0), 3);
            x.move(2, 0, 400, 0);
            is("all four", x.far(0, 0), 4);
        });
        edge(TERMS, "if all had gone by that LOT from TICK 1 on (beginning with what was at the end of TICK 0", () -> {
            x.phone(0, 2, 12, 0);
            x.phone(0, 2, 12, 0);
            x.phone(5, 2, 12, 0);
            x.move(1, 1, 1, 9);
            x.move(1, 1, 2, 5);
            x.ticks(0);
            say(1, 0, 0);
            say(1, 0, 0);
            say(1, 0, 0);
            x.ticks(3);
            is("LOT 0 has CHARGE for two", x.far(2, 3), 1 + 1);
            is("LOT 1 has its own CHARGE for two", x.far(1, 3), 2 + 2);
            is("at TICK 1 LOT 1 has handed none", x.far(0, 1), 2 + 1);
            is("what was told at TICK 0 was there at its end", x.far(2, 0), 1 + 1);
            is("the town is where it was", x.look(1, 0), 0);
            is("with what CHARGE it had", x.look(1, 1), 0);
        });
    }

    private void tellings() {
        edge(TERMS, "all tellings as they were, at the end of their TICK", () -> {
            phones(2);
            x.move(1, 1, 1, 5);
            say(0, 0, 0);
            x.ticks(1);
            x.undo(1, 9, 0);
            is("at TICK 1 it is at the TENT, by both LOTS", x.far(0, 1), 1 + 1);
            is("and the undone one at its MOUTH", x.far(1, 1), 1 + 1);
            is("ahead of its TICK nowhere", x.far(1, 0), 0);
            x.ticks(1);
            is("undone by LOT 0 alone", x.far(0, 2), 1);
            is("which has the undone one on both", x.far(1, 2), 2 + 1);
        });
        edge(TERMS, "all tellings as they were", () -> {
            rules("first 1 if number > 0");
            x.phone(0, 100, 1, 0);
            x.phone(5, 100, 1, 0);
            x.move(1, 1, 1, 0);
            say(1, 0, 1);
            say(0, 0, 0);
            x.ticks(1);
            say(0, 0, 2);
            is("by LOT 1 0 has gone to the TENT, and been given away there", x.far(0, 1), 1 + 1);
            is("1 was given away by both", x.far(1, 1), 0);
            is("2 is there by both", x.far(2, 1), 2);
        });
    }

    private void would() {
        edge(36, "Uses the TAPE up: WOULD; NONE.", () -> {
            rules("pass if seen");
            phones(2);
            say(1, 0, 0);
            x.ticks(2);
            is("by no RULES", would("", 0), 1);
            no("the TAPE is used up", x.end(1));
            is("an empty one is no RULES too", x.would(0), 1);
            is("none", would("pass if need", 0), NONE);
            no("it is used up", x.end(1));
            is("the RULES stay", x.count(3), 1);
            is("the WORD is where it was", x.word(0, 9), 1);
            is("HAD it not", x.had(0), NONE);
        });
        edge(36, "IllegalArgumentException: the text is wrong.", () -> {
            phones(1);
            say(0, 0, 0);
            Tapes.put(x, "pass if");
            refused("wrong", ARGUMENT, () -> x.would(0));
            is("its fault", x.fault(), 7);
            no("the TAPE is used up", x.end(1));
            is("right", would("pass", 0), 0);
            is("no fault", x.fault(), NONE);
            x.ticks(1);
            is("above TICK 0 too", would("pass", 0), 0);
        });
        edge(TERMS, "a call that throws changes nothing but the TAPE, where it is used up", () -> {
            phones(1);
            say(0, 0, 0);
            for (int word : new int[] {-1, 1, LEAST, MOST}) {
                Tapes.put(x, "passs");
                refused("WORD " + word, INDEX, () -> x.would(word));
                no("the TAPE is used up", x.end(1));
                is("it was not read", x.fault(), NONE);
            }
            Tapes.put(x, "passs");
            refused("a WORD that is", ARGUMENT, () -> x.would(0));
            is("that was read", x.fault(), 0);
        });
    }

    private void wouldHave() {
        edge(TERMS, "the TICK at which the TENT would have HAD a WORD first, up to now; none", () -> {
            rules("pass if order");
            phones(2);
            say(1, 0, 0);
            say(0, 0, 0);
            is("told at the TENT at TICK 0", would("", 1), 0);
            is("not by TICK 0", would("", 0), NONE);
            x.ticks(3);
            say(1, 0, 0);
            say(0, 0, 0);
            is("told at the TENT later", would("", 3), 3);
            is("told now elsewhere", would("", 2), NONE);
            is("at the TICK that is now", would("pass if age > 2", 0), 3);
            is("a TICK behind that is not by now", would("pass if age > 3", 0), NONE);
            x.ticks(1);
            is("now it is", would("pass if age > 3", 0), 4);
            is("first", would("pass", 0), 1);
            is("a TICK behind its telling", would("", 2), 4);
        });
        edge(TERMS, "by another text of RULES from TICK 1 on, on LOT 0", () -> {
            rules("first 1 if number > 3");
            x.phone(0, 100, 2, 0);
            x.phone(5, 100, 1, 0);
            say(1, 0, 4);
            say(1, 0, 3);
            is("at TICK 0 by the RULES of then", x.copy(1, 0, 0), NONE);
            x.move(0, 1, 2, 0);
            x.move(1, 1, 1, 0);
            x.ticks(3);
            is("what was given away then is gone", would("first 1 if number < 4", 0), NONE);
            is("the other comes by LOT 0", would("first 1 if number < 4", 1), 2);
            x.move(0, 1, 5, 6);
            is("later moves change nothing by now", would("", 1), 2);
        });
        edge(TERMS, "likewise: the TICK at which the TENT would have HAD a WORD first", () -> {
            rules("pass if not seen");
            x.phone(0, 100, 1, 0);
            x.phone(0, 100, 12, 0);
            say(1, 1, 0);
            x.ticks(1);
            x.undo(1, 9, 0);
            x.ticks(1);
            is("in the town it was undone first", x.had(0), NONE);
            is("by other RULES it came ahead of that", would("", 0), 1);
            is("and by these too late", would("pass if age > 1", 0), NONE);
        });
    }

    private void rows() {
        edge(TERMS, "ROWS: of the latest 8 TICKS how many COPIES there were at the end", () -> {
            phones(1);
            refused("none at TICK 0", ELEMENT, () -> x.tear(0, 0));
            for (int i = 0; i < 9; i++) {
                x.say(0, 0, 9 - i, 0, 0, 0, 0);
            }
            for (int tick = 1; tick <= 8; tick++) {
                x.ticks(1);
                is("the latest", x.tear(tick - 1, 0), 9 - tick);
                int none = tick;
                refused("as many as TICKS", ELEMENT, () -> x.tear(none, 0));
            }
            is("TICK 1", x.tear(0, 0), 8);
            x.image();
            x.ticks(2);
            is("TICK 3", x.tear(0, 0), 6);
            x.back();
            is("TICK 1 again", x.tear(0, 0), 8);
            is("as it was", x.check(), NONE);
            x.ticks(1);
            is("TICK 2 is the oldest", x.tear(0, 0), 7);
            is("TICK 9 is the latest", x.tear(7, 0), 0);
            is("each is as it was", x.check(), NONE);
            x.ticks(3);
            is("and is so later", x.check(), NONE);
            refused("eight at most", ELEMENT, () -> x.tear(8, 0));
        });
        edge(37, "The number of ROW i (from 0, the oldest, on) is TORN: what it is then.", () -> {
            phones(1);
            say(0, 0, 0);
            x.ticks(3);
            is("by none", x.tear(1, 0), 1);
            is("exclusive or", x.tear(1, 6), 7);
            is("once more", x.tear(1, 3), 4);
            is("below 0", x.tear(1, LEAST), LEAST + 4);
            is("all bits", x.tear(1, NONE), MOST - 4);
            is("the older one is not", x.tear(0, 0), 1);
            is("nor the later one", x.tear(2, 0), 1);
        });
        edge(37, "NoSuchElementException: there is none such.", () -> {
            x.ticks(2);
            for (int i : new int[] {-1, 2, 8, LEAST, MOST}) {
                refused("ROW " + i, ELEMENT, () -> x.tear(i, 1));
            }
            is("none was TORN", x.check(), NONE);
        });
    }

    private void check() {
        edge(TERMS, "CHECK: the first (from the oldest on) that is not as it was; none.", () -> {
            phones(1);
            say(0, 0, 0);
            is("without ROWS", x.check(), NONE);
            x.ticks(8);
            is("whole", x.check(), NONE);
            x.tear(7, 1);
            is("the latest", x.check(), 7);
            x.tear(3, 1);
            is("the first of two", x.check(), 3);
            x.tear(0, LEAST);
            is("the oldest", x.check(), 0);
            x.tear(0, LEAST);
            is("mended", x.check(), 3);
            x.ticks(3);
            is("three TICKS older", x.check(), 0);
            x.ticks(1);
            is("it is behind the eight", x.check(), 3);
            x.ticks(4);
            is("as is the other one", x.check(), NONE);
        });
        edge(38, "CHECK: the ROW; NONE.", () -> {
            is("none at first", x.check(), NONE);
            x.ticks(1);
            is("one that is as it was", x.check(), NONE);
            x.tear(0, 1);
            is("0", x.check(), 0);
            is("looking mends nothing", x.check(), 0);
        });
    }

    private void image() {
        edge(40, "One goes back to THE IMAGE: true; false, and nothing happens, if none was kept.", () -> {
            phones(1);
            say(0, 0, 0);
            x.ticks(2);
            no("none was kept", x.back());
            is("TICK stays", x.count(0), 2);
            is("so does the WORD", x.copy(0, 0, 0), 0);
            x.image();
            x.ticks(2);
            yes("one was kept", x.back());
            is("TICK of then", x.count(0), 2);
            yes("it is kept still", x.back());
            is("TICK of then again", x.count(0), 2);
        });
        edge(39, "THE IMAGE is kept.", () -> {
            x.image();
            phones(3);
            x.image();
            x.ticks(1);
            x.image();
            x.ticks(1);
            yes("kept", x.back());
            is("the latest alone", x.count(0), 1);
            is("with its PHONES", x.count(1), 3);
            yes("of a new object too", anewKept());
            is("without PHONES", x.count(1), 0);
            is("at TICK 0", x.phone(0, 0, 1, 0), 0);
        });
        edge(TERMS, "(but for the TAPE, fault() and THE IMAGE itself)", () -> {
            x.image();
            Tapes.put(x, "pass if");
            refused("wrong", ARGUMENT, () -> x.rules());
            Tapes.put(x, "pass;pass");
            x.back();
            is("fault() stays", x.fault(), 7);
            yes("the TAPE has nine bytes", x.end(9));
            no("and no more", x.end(10));
            is("LINES", x.rules(), 2);
            yes("THE IMAGE is there", x.back());
            is("no LINES", x.count(3), 0);
            is("fault() is of the latest text", x.fault(), NONE);
        });
    }

    private boolean anewKept() {
        x = new QuakeNet();
        x.image();
        phones(2);
        x.ticks(40);
        return x.back();
    }

    private void imageHolds() {
        edge(TERMS, "THE IMAGE (one) of all may be kept, and gone back to", () -> {
            rules("first 3 if need;cost 2");
            x.phone(0, 50, 2, 1);
            x.phone(0, 50, 2, 1);
            x.move(0, 1, 9, 9);
            seen(1, 4, 5, 0);
            x.describe(1, 20, 3);
            x.describe(2, 20, 4);
            x.describe(NONE, 30, NONE);
            x.apart(900);
            x.stones(0, 5, 50, 1, 1);
            x.gang(0, 1);
            x.judge(0, true);
            x.hide(5, true);
            x.ticks(1);
            x.tear(0, 8);
            x.image();
            x.say(0, 0, 200, 4, 15, 1, 0);
            x.undo(0, 9, 0);
            x.move(0, 0, 9, 9);
            x.move(2, 0, 9, 9);
            x.describe(9, 9, 9);
            x.apart(0);
            x.speed(8);
            x.stones(9, 9, 9, 9, 9);
            x.gang(9, 9);
            x.judge(0, false);
            x.hide(5, false);
            x.hide(4, true);
            x.ticks(5);
            x.tear(0, 1);
            yes("gone back", x.back());
            int[] due = {1, 2, 1, 2, 2, 1, 0, 1, 3, 1, 1, 1};
            for (int what = 0; what < due.length; what++) {
                is("count " + what, x.count(what), due[what]);
            }
            is("CHARGE", x.look(1, 1), 48);
            is("HAD", x.had(0), 1);
            is("the WAY it came", x.way(0, 0), 1);
            is("and no more of it", x.way(0, 1), NONE);
            is("where it was at the end of TICK 0", x.far(0, 0), 1);
            is("where it was at the end of TICK 1", x.far(0, 1), 2);
            is("APART and descriptions", x.heaps(0), 900 + 47);
            is("SPEED, and who is HIDDEN", x.ask(4, false), bits(5, 1, 4, 6, 9));
            no("who was HIDDEN is", x.hide(5, true));
            is("JUDGED", x.weight(1), 666);
            is("ROWS as they were TORN", x.tear(0, 0), 10);
            is("and as they were", x.check(), 0);
            x.ticks(9);
            is("where it goes by the moves", x.look(1, 0), 9);
            is("where it stays", x.look(0, 0), 0);
        });
    }

    private void imageOfCopies() {
        edge(TERMS, "of all may be kept, and gone back to", () -> {
            rules("first 9 if need;first 1 if hops > 0");
            phones(2);
            x.phone(0, 1000, 1, 0);
            x.phone(9, 1000, 12, 0);
            x.move(0, 3, 5, 0);
            say(1, 0, 0);
            x.ticks(1);
            is("it came from the TENT", x.copy(2, 0, 2), 0);
            x.image();
            x.say(2, 2, 2, 0, 0, 0, 0);
            x.move(0, 0, 3, 9);
            x.ticks(2);
            is("it came anew from 1", x.copy(2, 0, 2), 1);
            is("and to 3", x.copy(3, 0, 3), 3);
            x.back();
            is("from the TENT", x.copy(2, 0, 2), 0);
            is("with two HOPS", x.copy(2, 0, 1), 2);
            is("at TICK 1", x.copy(2, 0, 3), 1);
            is("not to 3", x.copy(3, 0, 3), NONE);
            x.ticks(2);
            is("nobody moved", x.look(0, 0), 0);
            is("a ROW for each TICK", x.tear(2, 0), 3);
            refused("and no more", ELEMENT, () -> x.tear(3, 0));
            is("as they were", x.check(), NONE);
        });
        edge(TERMS, "gone back to", () -> {
            rules("first 9 if need");
            x.phone(9, 1000, 12, 0);
            phones(2);
            x.phone(0, 1000, 1, 0);
            phones(1);
            say(1, 0, 0);
            x.move(0, 2, 1, 8);
            x.ticks(1);
            is("3 has it from its MOUTH", x.copy(3, 0, 2), 1);
            x.image();
            x.say(3, 2, 2, 0, 0, 0, 0);
            x.move(0, 1, 2, 8);
            x.ticks(2);
            is("3 has it from 4", x.copy(3, 0, 2), 4);
            x.back();
            x.move(0, 3, 3, 9);
            x.ticks(2);
            x.image();
            x.back();
            int[] way = {1, 3, NONE};
            for (int i = 0; i < 3; i++) {
                is("its WAY, PHONE " + i, x.way(0, i), way[i]);
            }
        });
        edge(TERMS, "THE IMAGE (one)", () -> {
            phones(3);
            say(0, 0, 0);
            x.image();
            x.undo(1, 9, 0);
            x.ticks(2);
            is("undone", x.word(0, 9), 0);
            is("two ROWS", x.tear(1, 1), 3 ^ 1);
            x.back();
            is("another WORD of that number", say(1, 4, 0), 1);
            refused("no ROW", ELEMENT, () -> x.tear(0, 0));
            x.ticks(1);
            is("undoes nothing", x.word(0, 9), 3);
            is("one ROW, of other COPIES", x.tear(0, 0), 6);
            is("as it was", x.check(), NONE);
        });
    }

    private void count() {
        edge(41, "NONE for another what.", () -> {
            for (int what : new int[] {-1, 12, LEAST, MOST}) {
                is("what " + what, x.count(what), NONE);
            }
            for (int what = 0; what < 12; what++) {
                is("of nothing, what " + what, x.count(what), 0);
            }
        });
        edge(41, "0 TICK, 1 PHONES, 2 WORDS, 3 LINES", () -> {
            rules("pass;pass;pass;pass;pass;pass;pass;pass;pass;pass if order");
            for (int i = 0; i < 10; i++) {
                x.phone(i, 1000, 12, 0);
            }
            for (int i = 0; i < 30; i++) {
                say(i % 10, 0, 0);
            }
            for (int i = 0; i < 7; i++) {
                x.describe(i, i, i);
            }
            for (int i = 0; i < 5; i++) {
                x.stones(0, 0, 0, 0, 1);
            }
            for (int i = 0; i < 4; i++) {
                x.gang(0, 1);
                x.move(i, 0, 400, 0);
            }
            ticksTo(400);
            int[] due = {400, 10, 30, 10, 0, 0, 0, 3, 7, 5, 4, 4};
            for (int what = 0; what < due.length; what++) {
                is("the most of what " + what, x.count(what), due[what]);
            }
        });
        edge(41, "4 COPIES, 5 HANDED in all, 6 given away in all, 7 WORDS that the TENT HAD", () -> {
            rules("first 1 if number > 0");
            x.phone(0, 100, 1, 0);
            x.phone(0, 100, 1, 0);
            x.phone(0, 100, 1, 0);
            say(0, 0, 0);
            say(1, 0, 1);
            say(2, 0, 0);
            x.ticks(1);
            // 1 goes to the TENT for 0, then from the TENT to 2 for 2.
            is("COPIES", x.count(4), 3);
            is("HANDED", x.count(5), 2);
            is("given away", x.count(6), 2);
            is("HAD", x.count(7), 2);
            x.undo(1, 1, 1);
            is("COPIES, one for one", x.count(4), 3);
            is("an undone WORD is one", x.count(2), 4);
        });
        edge(41, "11 LOTS that have a move", () -> {
            phones(1);
            x.move(3, 0, 1, 0);
            is("one", x.count(11), 1);
            x.move(3, 0, 1, 0);
            is("once", x.count(11), 1);
            x.move(0, 0, 1, 0);
            is("LOT 0 with one", x.count(11), 2);
            x.ticks(9);
            is("though it is behind", x.count(11), 2);
        });
    }
}
