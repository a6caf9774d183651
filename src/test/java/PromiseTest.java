import java.util.NoSuchElementException;

/** Each promise of the document: ordinary inputs, the edges that it names, and wrong inputs. */
public final class PromiseTest {
    private static final Class<IndexOutOfBoundsException> INDEX = IndexOutOfBoundsException.class;
    private static final Class<IllegalArgumentException> ARGUMENT = IllegalArgumentException.class;
    private static final Class<UnsupportedOperationException> UNSUPPORTED = UnsupportedOperationException.class;
    private static final Class<IllegalStateException> STATE = IllegalStateException.class;
    private static final Class<NoSuchElementException> ELEMENT = NoSuchElementException.class;
    private static final int NONE = QuakeNet.NONE;

    private static final Checks CHECKS = new Checks();
    private static QuakeNet x;

    public static void main(String[] args) {
        promise1();
        promise2And3();
        promise4();
        promise5();
        promise6And7();
        promise8();
        promise9();
        promise10();
        promise11();
        promise12();
        promise13();
        promise14To16();
        promise17();
        promise18();
        promise19And20();
        promise21();
        promise22To24();
        promise25To28();
        promise29To32();
        promise33And34();
        promise35();
        promise36();
        promise37And38();
        promise39And40();
        imageOfWays();
        imageOfTheRest();
        promise41();
        CHECKS.finish("PromiseTest");
    }

    private static void same(String what, long got, long due) {
        CHECKS.same(what, got, due);
    }

    private static void refused(String what, Class<? extends RuntimeException> due, Checks.Call call) {
        CHECKS.throwsOf(what, due, call);
    }

    private static void anew(String rules) {
        x = new QuakeNet();
        Tapes.put(x, rules);
        x.rules();
    }

    /** Phones at PLACE 0 with much CHARGE and ROOM, without SWELL. */
    private static void phones(int n) {
        for (int i = 0; i < n; i++) {
            x.phone(0, 1000, 12, 0);
        }
    }

    private static int seen(int phone, int person, int place, int when) {
        return x.say(phone, 1, 200, person, place, when, 0);
    }

    private static void ticksTo(int tick) {
        while (x.count(0) < tick) {
            x.ticks(Math.min(40, tick - x.count(0)));
        }
    }

    private static void promise1() {
        x = new QuakeNet();
        for (int what = 0; what < 12; what++) {
            same("1: count " + what, x.count(what), 0);
        }
        same("1: fault", x.fault(), NONE);
        same("1: check", x.check(), NONE);
        CHECKS.no("1: back", x.back());
        CHECKS.no("1: the TAPE is empty", x.end(1));
        CHECKS.yes("1: the TAPE has no byte", x.end(0));
    }

    private static void promise2And3() {
        x = new QuakeNet();
        same("2: twenty", x.feed(0, 0, 0, 0, 0), 20);
        CHECKS.no("3: below 0", x.end(-1));
        CHECKS.no("3: more than it has", x.end(21));
        CHECKS.yes("3: all of it", x.end(20));
        CHECKS.yes("3: less", x.end(1));
        same("2: behind the one byte", x.feed(0, 0, 0, 0, 0), 21);
        x.end(0);
        for (int i = 1; i <= 20; i++) {
            same("2: feed " + i, x.feed(0x20202020, 0x20202020, 0x20202020, 0x20202020, 0x20202020), 20 * i);
        }
        same("2: above 400", x.feed(0, 0, 0, 0, 0), NONE);
        CHECKS.yes("2: it has 400 still", x.end(400));
        CHECKS.yes("3: 381", x.end(381));
        same("2: 401 is above 400", x.feed(0, 0, 0, 0, 0), NONE);
        same("2: blanks, and none of the zeros", x.rules(), 0);
        // "pass" with the highest byte first, and the last number's bytes at the end.
        x.feed(0x70617373, 0x20202020, 0x3b202020, 0x20202020, 0x70617373);
        same("2: the order of the bytes", x.rules(), 2);
    }

    private static void promise4() {
        x = new QuakeNet();
        refused("4: place", INDEX, () -> x.phone(16, -1, 0, 0));
        refused("4: place below", INDEX, () -> x.phone(-1, 0, 1, 0));
        refused("4: charge", ARGUMENT, () -> x.phone(0, 1001, 1, 0));
        refused("4: charge below", ARGUMENT, () -> x.phone(0, -1, 1, 0));
        refused("4: room", ARGUMENT, () -> x.phone(0, 0, 13, 0));
        refused("4: room below", ARGUMENT, () -> x.phone(0, 0, 0, 0));
        refused("4: swell", ARGUMENT, () -> x.phone(0, 0, 1, 10));
        refused("4: swell below", ARGUMENT, () -> x.phone(0, 0, 1, -1));
        same("4: none came", x.count(1), 0);
        same("4: the least", x.phone(0, 0, 1, 0), 0);
        same("4: the most", x.phone(15, 1000, 12, 9), 1);
        int[] due = {15, 1000, 0, 12, 9, 0, 0, 0};
        for (int what = 0; what < 8; what++) {
            same("4: look " + what, x.look(1, what), due[what]);
        }
        for (int i = 2; i < 10; i++) {
            same("4: number", x.phone(0, 0, 1, 0), i);
        }
        refused("4: an 11th", UNSUPPORTED, () -> x.phone(0, 0, 1, 0));
        x.ticks(1);
        refused("4: an 11th, later", UNSUPPORTED, () -> x.phone(0, 0, 1, 0));
        refused("4: a wrong 11th", ARGUMENT, () -> x.phone(0, 0, 0, 0));
        x = new QuakeNet();
        x.ticks(1);
        refused("4: later", STATE, () -> x.phone(0, 0, 1, 0));
        refused("4: wrong, later", ARGUMENT, () -> x.phone(0, 0, 1, 10));
        refused("4: elsewhere, later", INDEX, () -> x.phone(16, 0, 1, 10));
    }

    private static void promise5() {
        anew("");
        phones(2);
        refused("5: lot", INDEX, () -> x.move(4, 0, 0, 0));
        refused("5: lot below", INDEX, () -> x.move(-1, 0, 1, 0));
        refused("5: phone", INDEX, () -> x.move(0, 2, 0, 0));
        refused("5: place", INDEX, () -> x.move(0, 0, 0, 16));
        refused("5: this tick", ARGUMENT, () -> x.move(0, 0, 0, 0));
        refused("5: tick 401", ARGUMENT, () -> x.move(0, 0, 401, 0));
        same("5: none was told", x.count(11), 0);
        same("5: first", x.move(0, 1, 2, 3), 1);
        same("5: second, of the same TICK", x.move(0, 1, 2, 5), 2);
        same("5: last TICK", x.move(3, 1, 400, 5), 1);
        same("5: earlier, told later", x.move(0, 1, 1, 7), 3);
        same("5: not yet", x.look(1, 0), 0);
        x.ticks(1);
        same("5: TICK 1", x.look(1, 0), 7);
        refused("5: the TICK that is", ARGUMENT, () -> x.move(0, 1, 1, 3));
        x.ticks(1);
        same("5: the one told last", x.look(1, 0), 5);
        same("5: the other stays", x.look(0, 0), 0);
        x.ticks(40);
        same("5: it stays there", x.look(1, 0), 5);
        for (int i = 4; i <= 60; i++) {
            same("5: move " + i, x.move(0, 0, 100, 1), i);
        }
        same("5: a 61st", x.move(0, 0, 100, 9), NONE);
        refused("5: a wrong 61st", ARGUMENT, () -> x.move(0, 0, 42, 9));
        same("5: another LOT", x.move(1, 0, 100, 9), 1);
        ticksTo(100);
        same("5: the 61st is not told", x.look(0, 0), 1);
    }

    private static void reads(String text, int due) {
        x = new QuakeNet();
        Tapes.put(x, text);
        same("6: LINES of '" + text + "'", x.rules(), due);
        same("7: no fault in '" + text + "'", x.fault(), NONE);
        same("6: count of '" + text + "'", x.count(3), due);
        CHECKS.no("6: the TAPE is used up", x.end(1));
    }

    private static void wrongAt(String text, int due) {
        x = new QuakeNet();
        Tapes.put(x, "pass;pass");
        x.rules();
        Tapes.put(x, text);
        refused("6: '" + text + "'", ARGUMENT, () -> x.rules());
        same("7: fault of '" + text + "'", x.fault(), due);
        same("6: the RULES stay", x.count(3), 2);
        CHECKS.no("6: the TAPE is used up", x.end(1));
    }

    private static void promise6And7() {
        reads("", 0);
        reads("   ", 0);
        reads("pass", 1);
        reads("  pass  ;show ; cost 0100;first 9999  ", 4);
        reads("first1if alive or seen and(not need)", 1);
        reads("pass if asked or order or undone or kin", 1);
        reads("show if age<1 and hops>2 and have<3 and charge > 4 and number <9999", 1);
        reads("pass if not not not not not not alive", 1);
        reads("pass if (not(not(not alive)))", 1);
        reads("pass if ((((((alive)))))) and ((((((seen))))))", 1);
        reads("pass;pass;pass;pass;pass;pass;pass;pass;pass;pass", 10);
        reads("cost 100", 1);
        reads("cost 0", 1);
        wrongAt(";", 0);
        wrongAt("  ;", 2);
        wrongAt("pass;", 5);
        wrongAt("pass;  ", 7);
        wrongAt("pass;;pass", 5);
        wrongAt("pass pass", 5);
        wrongAt("passs", 0);
        wrongAt("passif alive", 0);
        wrongAt("passz", 0);
        wrongAt("pas", 0);
        wrongAt("xass", 0);
        wrongAt("pass if alivealive", 8);
        wrongAt("pass if age<1and hops<", 22);
        wrongAt("Pass", 0);
        wrongAt("passX", 4);
        wrongAt("pass" + (char) 233, 4);
        wrongAt("pass" + (char) 0, 4);
        wrongAt("pass\tif alive", 4);
        wrongAt("if alive", 0);
        wrongAt("7", 0);
        wrongAt("first", 5);
        wrongAt("first if alive", 6);
        wrongAt("first 12345", 6);
        wrongAt("first 00001", 6);
        wrongAt("first 1 2", 8);
        wrongAt("first -1", 6);
        wrongAt("cost 101", 5);
        wrongAt("cost 10000", 5);
        wrongAt("cost 1 if alive", 7);
        wrongAt("cost", 4);
        wrongAt("pass if", 7);
        wrongAt("pass if ", 8);
        wrongAt("pass if alive and", 17);
        wrongAt("pass if alive or or seen", 17);
        wrongAt("pass if alive seen", 14);
        wrongAt("pass if alive)", 13);
        wrongAt("pass if (alive", 14);
        wrongAt("pass if (alive;pass", 14);
        wrongAt("pass if ()", 9);
        wrongAt("pass if not", 11);
        wrongAt("pass if age", 11);
        wrongAt("pass if age = 1", 12);
        wrongAt("pass if age <", 13);
        wrongAt("pass if age < hops", 14);
        wrongAt("pass if age < 12345 and", 14);
        wrongAt("pass if alive < 3", 14);
        wrongAt("pass if first", 8);
        wrongAt("pass if undoneX", 14);
        wrongAt("pass if not not not not not not not alive", 32);
        wrongAt("pass if (((((((alive)))))))", 14);
        wrongAt("pass if (not (not (not (alive))))", 23);
        wrongAt("pass;pass;pass;pass;pass;pass;pass;pass;pass;pass; pass", 51);
        wrongAt("pass;pass;pass;pass;pass;pass;pass;pass;pass;pass;", 50);
        manyLongTexts();
        x = new QuakeNet();
        x.ticks(1);
        Tapes.put(x, "x");
        refused("6: wrong, later", ARGUMENT, () -> x.rules());
        same("7: of the wrong one", x.fault(), 0);
        Tapes.put(x, "pass");
        refused("6: later", STATE, () -> x.rules());
        same("6: not told", x.count(3), 0);
        same("7: it was read, and was right", x.fault(), NONE);
        CHECKS.no("6: the TAPE is used up", x.end(1));
    }

    /** A text is read as if it were the first one, however much was read before. */
    private static void manyLongTexts() {
        x = new QuakeNet();
        phones(1);
        x.say(0, 4, 9, 0, 0, 0, 0);
        StringBuilder text = new StringBuilder("first 3 if not kin");
        while (text.length() < 380) {
            text.append(" and not kin");
        }
        for (int i = 0; i < 8; i++) {
            Tapes.put(x, text.toString());
            same("6: a long LINE", x.rules(), 1);
            same("6: it holds", x.copy(0, 0, 4), 3);
            Tapes.put(x, text + " and kin");
            x.rules();
            same("6: it does not", x.copy(0, 0, 4), 0);
        }
        precedence("alive or order and seen", 0);
        precedence("order or alive and seen", 1);
        precedence("(order or alive) and seen", 0);
        precedence("alive and seen or order", 1);
        precedence("alive and seen or order and seen or need or number < 1 and age < 1", 1);
        precedence("not order or order", 1);
        precedence("not (order or order)", 0);
        precedence("not alive and order", 1);
        precedence("not order and alive", 0);
        precedence("not (order and alive)", 1);
        precedence("number < 0", 0);
        precedence("have > 0 and have < 2 and hops < 1", 1);
        precedence("have > 1 or hops > 0", 0);
        precedence("charge < 1001 and charge > 999", 1);
        precedence("charge < 1000 or charge > 1000", 0);
    }

    private static void precedence(String condition, int due) {
        Tapes.put(x, "first 1 if " + condition);
        x.rules();
        same("6: " + condition, x.copy(0, 0, 4), due);
    }

    private static void promise8() {
        anew("");
        phones(2);
        x.ticks(3);
        refused("8: phone", INDEX, () -> x.say(2, 9, 0, 0, 0, 0, 0));
        refused("8: person", INDEX, () -> x.say(0, 9, 1, 16, 0, 0, 0));
        refused("8: person below", INDEX, () -> x.say(0, 2, 1, -1, 0, 0, 0));
        refused("8: place", INDEX, () -> x.say(0, 2, 0, 0, 16, 0, 0));
        refused("8: kind", ARGUMENT, () -> x.say(0, 5, 1, 0, 0, 0, 0));
        refused("8: kind below", ARGUMENT, () -> x.say(0, -1, 1, 0, 0, 0, 0));
        refused("8: life", ARGUMENT, () -> x.say(0, 0, 0, 0, 0, 0, 0));
        refused("8: life above", ARGUMENT, () -> x.say(0, 0, 201, 0, 0, 0, 0));
        refused("8: alive later than now", ARGUMENT, () -> x.say(0, 0, 1, 0, 0, 4, 0));
        refused("8: seen later than now", ARGUMENT, () -> x.say(0, 1, 1, 0, 0, 4, 0));
        refused("8: seen before all", ARGUMENT, () -> x.say(0, 1, 1, 0, 0, -1, 0));
        refused("8: number", ARGUMENT, () -> x.say(0, 0, 1, 0, 0, 0, 10000));
        refused("8: number below", ARGUMENT, () -> x.say(0, 4, 1, 0, 0, 0, -1));
        same("8: none was told", x.count(2), 0);
        same("8: alive", x.say(1, 0, 1, 0, 0, 3, 0), 0);
        same("8: need asks no WHEN", x.say(1, 2, 200, 15, 15, 99, 9999), 1);
        same("8: it has it there", x.copy(1, 0, 1), 0);
        for (int i = 2; i < 30; i++) {
            same("8: number", x.say(0, 3, 200, 0, 0, -7, 0), i);
        }
        refused("8: a 31st", UNSUPPORTED, () -> x.say(0, 3, 200, 0, 0, 0, 0));
        refused("8: a wrong 31st", ARGUMENT, () -> x.say(0, 3, 0, 0, 0, 0, 0));
        promise8OfRoom();
    }

    private static void promise8OfRoom() {
        anew("first 5 if need; first 3 if number > 7");
        x.phone(0, 0, 2, 0);
        x.say(0, 2, 9, 0, 0, 0, 0);
        x.say(0, 3, 9, 0, 0, 0, 8);
        x.say(0, 3, 9, 0, 0, 0, 0);
        same("8: the COPY of the least MARK is given away", x.copy(0, 1, 0), NONE);
        same("8: the new one is there, though its MARK is less", x.copy(0, 2, 0), 0);
        x.say(0, 2, 9, 0, 0, 0, 0);
        x.say(0, 3, 9, 0, 0, 0, 0);
        same("8: of several the greatest number", x.copy(0, 3, 0), NONE);
        same("8: and not the lesser one", x.copy(0, 0, 0), 0);
        same("8: how many it gave away", x.look(0, 7), 3);
        same("8: its COPIES", x.look(0, 2), 2);
    }

    private static void promise9() {
        anew("first 1 if order");
        x.phone(0, 9, 2, 0);
        phones(1);
        x.say(0, 4, 9, 3, 4, 0, 5);
        x.say(0, 0, 9, 3, 4, 0, 5);
        refused("9: phone", INDEX, () -> x.undo(2, 0, 0));
        refused("9: word", INDEX, () -> x.undo(0, 0, 2));
        refused("9: life", ARGUMENT, () -> x.undo(0, 0, 0));
        refused("9: life above", ARGUMENT, () -> x.undo(0, 201, 0));
        same("9: its number", x.undo(0, 200, 0), 2);
        same("9: it takes the WORD away first", x.copy(0, 0, 0), NONE);
        same("9: so there is room", x.copy(0, 1, 0), 5);
        same("9: none was given away", x.look(0, 7), 0);
        refused("9: an undone one", ARGUMENT, () -> x.undo(0, 1, 2));
        same("9: where the WORD is not", x.undo(1, 1, 1), 3);
        same("9: it stays elsewhere", x.copy(0, 1, 0), 5);
        int[] due = {5, 1, 0, 1, 0, 0, 0, 0, 1, 1, 0};
        for (int what = 0; what < 11; what++) {
            same("9: word " + what, x.word(3, what), due[what]);
        }
        same("9: of one with no COPY there, a full PHONE gives one away", x.undo(0, 9, 0), 4);
        same("9: the least MARK of the greatest number", x.copy(0, 2, 0), NONE);
        same("9: once", x.look(0, 7), 1);
        while (x.count(2) < 30) {
            x.undo(1, 1, 0);
        }
        refused("9: a 31st", UNSUPPORTED, () -> x.undo(1, 1, 0));
        refused("9: a wrong 31st", ARGUMENT, () -> x.undo(1, 1, 2));
    }

    private static void promise10() {
        anew("");
        refused("10: below", ARGUMENT, () -> x.ticks(-1));
        refused("10: above", ARGUMENT, () -> x.ticks(41));
        same("10: none", x.ticks(0), 0);
        for (int i = 1; i <= 9; i++) {
            same("10: forty", x.ticks(40), 40 * i);
        }
        same("10: ahead of the last ones", x.ticks(39), 399);
        same("10: as far as TICK may go", x.ticks(40), 400);
        same("10: no further", x.ticks(1), 400);
        meetings();
        meetingsOfRoom();
        meetingsOfUndone();
        meetingsOfHops();
    }

    /** The order of handing, what it costs and whom it leaves. */
    private static void meetings() {
        anew("first 5 if seen; pass if not order; cost 3; cost 2");
        x.phone(0, 9, 12, 1);
        x.phone(0, 6, 12, 0);
        x.phone(1, 9, 12, 0);
        x.say(0, 0, 50, 0, 0, 0, 0);
        x.say(1, 1, 50, 0, 0, 0, 0);
        x.say(0, 1, 50, 0, 0, 0, 0);
        x.say(0, 4, 50, 0, 0, 0, 0);
        x.say(1, 0, 50, 0, 0, 0, 0);
        x.ticks(1);
        // 1 goes to 0 (9 and 6 become 8 and 4), then 2 to 1 (6 and 3), 0 to 1 (4 and 2), 4 to 0 (3 and 0).
        same("10: charge of 0", x.look(0, 1), 3);
        same("10: charge of 1", x.look(1, 1), 0);
        same("10: handed by 0", x.look(0, 5), 2);
        same("10: taken by 0", x.look(0, 6), 2);
        same("10: SWELL of the giver", x.copy(1, 2, 0), 1);
        same("10: alive does not swell", x.copy(1, 0, 0), 0);
        same("10: order may not be PASSED", x.copy(1, 3, 0), NONE);
        same("10: who is elsewhere has nothing", x.look(2, 2), 0);
        x.move(0, 2, 2, 0);
        x.ticks(1);
        same("10: with what 0 has, by MARK and number", x.copy(2, 1, 0), 1);
        same("10: CHARGE 1 less 2 is 0", x.look(0, 1), 0);
        same("10: two were handed", x.look(2, 6), 2);
        same("10: the second", x.copy(2, 2, 0), 1);
        same("10: no CHARGE for the third", x.copy(2, 0, 0), NONE);
        anew("");
        phones(2);
        x.say(1, 0, 2, 0, 0, 0, 0);
        x.ticks(1);
        same("10: COST is 1 without a LINE", x.look(1, 1), 999);
        same("10: as is the taker's", x.look(0, 1), 999);
        anew("first 2 if order; first 3 if need");
        x.phone(0, 1000, 12, 0);
        x.phone(0, 1, 12, 0);
        x.say(0, 4, 2, 0, 0, 0, 0);
        x.say(0, 2, 2, 0, 0, 0, 0);
        x.say(0, 4, 2, 0, 0, 0, 0);
        x.say(0, 2, 2, 0, 0, 0, 0);
        x.ticks(1);
        same("10: the greatest MARK, the least number", x.copy(1, 1, 1), 1);
        same("10: and it alone", x.look(1, 2), 1);
        anew("cost 0");
        x.phone(0, 1, 12, 0);
        x.phone(0, 1, 12, 0);
        x.say(0, 0, 2, 0, 0, 0, 0);
        x.say(0, 0, 2, 0, 0, 0, 0);
        x.ticks(1);
        same("10: the taker's CHARGE is less by 1", x.look(1, 1), 0);
        same("10: and the giver's by none", x.look(0, 1), 1);
        same("10: the least number is handed", x.copy(1, 0, 0), 0);
        x.ticks(1);
        same("10: the dead are gone", x.count(4), 0);
    }

    private static void meetingsOfRoom() {
        anew("first 2 if number > 4; first 1 if number > 2");
        x.phone(0, 100, 2, 0);
        x.phone(0, 100, 2, 0);
        x.say(0, 0, 50, 0, 0, 0, 0);
        x.say(0, 0, 50, 0, 0, 0, 0);
        x.say(1, 0, 50, 0, 0, 0, 3);
        x.say(1, 0, 50, 0, 0, 0, 5);
        x.ticks(1);
        // 3 (MARK 3) to 0 for 1, then 2 (MARK 1) to 0 for 0: nothing of 0 is more than what 1 has.
        same("10: given away", x.look(0, 7), 2);
        same("10: 3 came", x.copy(0, 3, 0), 5);
        same("10: 2 came", x.copy(0, 2, 0), 3);
        same("10: 1 gave none away", x.look(1, 7), 0);
        same("10: of no less a MARK none goes", x.count(5), 2);
        anew("");
        x.phone(0, 100, 1, 0);
        x.phone(0, 100, 1, 0);
        x.say(0, 0, 50, 0, 0, 0, 0);
        x.say(1, 0, 50, 0, 0, 0, 0);
        x.ticks(1);
        same("10: nor of the same one", x.count(5), 0);
        anew("first 1 if number > 2; first 5 if hops > 0");
        x.phone(0, 100, 1, 0);
        x.phone(0, 100, 1, 0);
        x.phone(1, 100, 2, 0);
        x.say(0, 0, 50, 0, 0, 0, 3);
        x.say(1, 0, 50, 0, 0, 0, 0);
        x.ticks(1);
        // 0 to 1 for 1 there; then 0 has MARK 6 on 1 and 1 on 0: both have it, and 1 may not come back.
        same("10: 1 is gone", x.word(1, 9), 0);
        same("10: once handed", x.count(5), 1);
        anew("first 1 if age > 1; first 9 if have < 2");
        x.phone(0, 100, 1, 0);
        x.phone(0, 100, 2, 0);
        x.say(0, 0, 50, 0, 0, 0, 0);
        x.ticks(1);
        x.say(1, 0, 50, 0, 0, 0, 0);
        x.ticks(1);
        // 1 (MARK 9) to 0 for 0 (MARK 1); then 0 has MARK 10 on 1 and 1 has MARK 0: but 0 gave it away.
        same("10: what it gave away it does not take back in this MEETING", x.copy(0, 1, 1), 1);
        same("10: so it has not 0", x.copy(0, 0, 1), NONE);
        x.ticks(1);
        same("10: in the next one it does", x.copy(0, 0, 1), 2);
    }

    private static void meetingsOfUndone() {
        anew("pass if undone or age < 1 or hops > 0");
        phones(2);
        x.phone(5, 1000, 1, 0);
        x.say(0, 0, 50, 0, 0, 0, 0);
        x.say(2, 0, 50, 0, 0, 0, 0);
        x.undo(1, 3, 0);
        x.ticks(1);
        same("10: the undone one is taken", x.copy(0, 2, 1), 1);
        same("10: what it undoes is gone", x.word(0, 9), 0);
        same("10: it was not given away", x.look(0, 7), 0);
        anew("pass if seen or undone; first 4 if seen; first 5 if undone");
        x.phone(0, 1000, 12, 0);
        x.phone(0, 1000, 2, 0);
        x.say(0, 1, 50, 0, 0, 0, 0);
        x.undo(1, 2, 0);
        same("10: both sides have theirs", x.count(4), 2);
        x.ticks(1);
        same("10: one that has the undone one takes no such WORD", x.word(0, 9), 0);
        anew("first 4 if seen; first 5 if undone; first 1 if order");
        x.phone(0, 1000, 12, 0);
        x.phone(0, 1000, 2, 0);
        x.say(1, 1, 50, 0, 0, 0, 0);
        x.say(1, 4, 50, 0, 0, 0, 0);
        x.undo(0, 50, 0);
        x.ticks(1);
        // 1 is given away on PHONE 1 for 2, and with 2 also 0 is gone; 1 has gone to nobody else.
        same("10: the least is given away first", x.look(1, 7), 1);
        same("10: then what is undone is gone too", x.look(1, 2), 1);
        anew("");
        phones(2);
        x.move(0, 1, 1, 5);
        x.move(0, 1, 4, 0);
        x.say(0, 0, 50, 0, 0, 0, 0);
        x.undo(1, 3, 0);
        ticksTo(4);
        same("10: a dead undone one bars nothing", x.copy(1, 0, 1), 1);
    }

    private static void meetingsOfHops() {
        anew("");
        phones(2);
        x.phone(15, 1000, 1, 0);
        x.say(1, 2, 200, 0, 0, 0, 0);
        x.move(0, 1, 1, 1);
        same("10: a WORD at the TENT", x.say(0, 0, 3, 0, 0, 0, 0), 1);
        ticksTo(3);
        same("10: it dies when TICK is told and LIFE together", x.look(0, 2), 0);
        same("10: HAD it all the same", x.had(1), 0);
        // Three PHONES of ROOM 1 hand 0 round, each giving it away behind that, until it has 12 HOPS.
        anew("first 9 if number < 1; pass if number < 1");
        for (int i = 0; i < 3; i++) {
            x.phone(i, 1000, 1, 0);
        }
        x.say(0, 4, 200, 0, 0, 0, 0);
        for (int t = 1; t <= 14; t++) {
            int giver = (t - 1) % 3;
            int taker = t % 3;
            x.move(0, giver, t, giver + 3);
            x.move(0, taker, t, giver + 3);
            x.ticks(1);
            same("10: HOPS at TICK " + t, x.copy(taker, 0, 1), t <= 12 ? t : NONE);
            x.say(giver, 4, 1, 0, 0, 0, 5);
        }
    }

    private static void promise11() {
        anew("");
        x.phone(3, 7, 2, 9);
        refused("11: phone", INDEX, () -> x.look(1, 8));
        refused("11: phone below", INDEX, () -> x.look(-1, 0));
        refused("11: what", ELEMENT, () -> x.look(0, 8));
        refused("11: what below", ELEMENT, () -> x.look(0, -1));
        x.say(0, 2, 9, 0, 0, 0, 0);
        int[] due = {3, 7, 1, 2, 9, 0, 0, 0};
        for (int what = 0; what < 8; what++) {
            same("11: what " + what, x.look(0, what), due[what]);
        }
    }

    private static void promise12() {
        anew("first 7 if age > 0 and charge < 998 and have > 1; first 2 if hops > 0; pass if hops < 1");
        x.phone(0, 1000, 12, 0);
        x.phone(0, 1000, 12, 3);
        x.say(1, 2, 50, 0, 0, 0, 9995);
        refused("12: phone", INDEX, () -> x.copy(2, 0, 6));
        refused("12: word", INDEX, () -> x.copy(0, 1, 6));
        refused("12: what", ELEMENT, () -> x.copy(0, 0, 6));
        refused("12: what below", ELEMENT, () -> x.copy(1, 0, -1));
        for (int what = 0; what < 6; what++) {
            same("12: has it not, " + what, x.copy(0, 0, what), NONE);
        }
        x.ticks(2);
        int[] mouth = {9995, 0, NONE, 0, 0, 1};
        int[] taker = {9998, 1, 1, 1, 2, 0};
        for (int what = 0; what < 6; what++) {
            same("12: at the MOUTH, " + what, x.copy(1, 0, what), mouth[what]);
            same("12: at the taker, " + what, x.copy(0, 0, what), taker[what]);
        }
        x.say(0, 0, 50, 0, 0, 0, 0);
        x.say(0, 0, 50, 0, 0, 0, 0);
        x.ticks(1);
        same("12: CHARGE is below 998 now", x.copy(1, 0, 4), 7);
        same("12: age is from the telling on", x.copy(0, 1, 4), 7);
        ageOfLaterWords();
        x.say(0, 0, 50, 0, 0, 0, 0);
        same("12: and 0 then", x.copy(0, 3, 4), 0);
        anew("");
        x.phone(0, 1000, 12, 0);
        x.phone(0, 1000, 12, 9);
        x.say(1, 1, 50, 0, 0, 0, 9995);
        x.ticks(1);
        same("12: 9999 at most", x.copy(0, 0, 0), 9999);
    }

    private static void ageOfLaterWords() {
        QuakeNet before = x;
        anew("first 1 if age < 3; first 2 if age > 1");
        phones(1);
        x.ticks(7);
        x.say(0, 0, 50, 0, 0, 0, 0);
        int[] due = {1, 1, 3, 2};
        for (int age = 0; age < 4; age++) {
            same("12: MARK at age " + age, x.copy(0, 0, 4), due[age]);
            x.ticks(1);
        }
        x = before;
    }

    private static void promise13() {
        anew("");
        phones(3);
        x.ticks(2);
        x.say(1, 1, 3, 14, 15, 2, 16);
        refused("13: word", INDEX, () -> x.word(1, 11));
        refused("13: what", ELEMENT, () -> x.word(0, 11));
        refused("13: what below", ELEMENT, () -> x.word(0, -1));
        int[] due = {1, 1, 2, 3, 14, 15, 2, 16, NONE, 1, 0};
        for (int what = 0; what < 11; what++) {
            same("13: what " + what, x.word(0, what), due[what]);
        }
        x.ticks(2);
        same("13: all have it", x.word(0, 9), 3);
        same("13: alive still", x.word(0, 10), 0);
        x.ticks(1);
        same("13: none has it", x.word(0, 9), 0);
        same("13: dead", x.word(0, 10), 1);
        same("13: its NUMBER is as told", x.word(0, 7), 16);
    }

    private static void promise14To16() {
        anew("");
        x.phone(0, 100, 12, 0);
        x.phone(1, 100, 12, 0);
        x.phone(2, 100, 12, 0);
        refused("14: word", INDEX, () -> x.had(0));
        refused("15: word", INDEX, () -> x.way(0, 0));
        refused("16: word", INDEX, () -> x.late(0));
        x.ticks(1);
        x.say(2, 4, 4, 0, 0, 0, 0);
        x.say(0, 4, 4, 0, 0, 0, 0);
        same("14: not yet", x.had(0), NONE);
        same("15: not yet", x.way(0, 0), NONE);
        same("16: not yet", x.late(0), NONE);
        same("14: told at the TENT", x.had(1), 1);
        same("15: the TENT alone", x.way(1, 0), 0);
        same("15: and none behind it", x.way(1, 1), NONE);
        same("16: at once", x.late(1), 0);
        x.move(0, 1, 2, 2);
        x.move(0, 1, 4, 0);
        ticksTo(4);
        same("14: TICK 4", x.had(0), 4);
        same("16: three late", x.late(0), 3);
        same("15: MOUTH", x.way(0, 0), 2);
        same("15: the next", x.way(0, 1), 1);
        same("15: no more", x.way(0, 2), NONE);
        same("15: below", x.way(0, -1), NONE);
        ticksTo(40);
        same("14: it is gone, but it HAD it", x.had(0), 4);
        same("15: likewise", x.way(0, 1), 1);
        wayOfAnEarlierCopy();
    }

    /** PHONE 1 handed on what it got from 2, though it has got it anew from 3 since. */
    private static void wayOfAnEarlierCopy() {
        anew("first 5 if seen; first 9 if need");
        x.phone(9, 1000, 12, 0);
        x.phone(1, 1000, 1, 0);
        x.phone(1, 1000, 12, 0);
        x.phone(1, 1000, 12, 0);
        x.say(2, 1, 200, 0, 0, 0, 0);
        x.move(0, 2, 2, 8);
        x.ticks(2);
        same("15: 3 has it from 1", x.copy(3, 0, 2), 1);
        x.say(1, 2, 2, 0, 0, 0, 0);
        same("15: 1 has it no more", x.copy(1, 0, 0), NONE);
        x.ticks(2);
        same("15: 1 has it from 3", x.copy(1, 0, 2), 3);
        same("15: with three HOPS", x.copy(1, 0, 1), 3);
        x.move(0, 3, 5, 9);
        x.ticks(1);
        same("15: way 0", x.way(0, 0), 2);
        same("15: way 1", x.way(0, 1), 1);
        same("15: way 2", x.way(0, 2), 3);
        same("15: way 3", x.way(0, 3), NONE);
    }

    private static void promise17() {
        anew("");
        x.phone(0, 1000, 12, 9);
        x.phone(1, 1000, 12, 2);
        x.phone(2, 1000, 12, 0);
        refused("17: word", INDEX, () -> x.rumour(0));
        for (int kind = 0; kind < 5; kind++) {
            x.say(2, kind, 200, 0, 0, 0, 9997);
        }
        x.say(2, 1, 200, 0, 0, 0, 9999);
        x.say(1, 2, 200, 0, 0, 0, 9998);
        x.say(0, 1, 200, 0, 0, 0, 0);
        same("17: not HAD", x.rumour(1), NONE);
        x.move(0, 1, 1, 2);
        x.move(0, 1, 2, 0);
        x.ticks(2);
        int[] due = {NONE, 1, 1, NONE, NONE, NONE, 1, NONE};
        for (int w = 0; w < 8; w++) {
            same("17: of " + w, x.rumour(w), due[w]);
        }
        same("17: it came with more", x.copy(0, 1, 0), 9999);
        anew("");
        x.phone(0, 1000, 12, 0);
        x.phone(0, 1000, 12, 1);
        x.say(1, 2, 9, 0, 0, 0, 9998);
        x.ticks(1);
        same("17: one more", x.rumour(0), 1);
    }

    private static void promise18() {
        anew("");
        phones(3);
        x.move(0, 1, 1, 3);
        x.move(0, 1, 5, 0);
        seen(0, 7, 0, 0);
        x.say(0, 2, 200, 7, 0, 0, 0);
        x.say(2, 0, 200, 7, 1, 0, 0);
        seen(1, 7, 2, 0);
        seen(0, 8, 2, 0);
        refused("18: person", INDEX, () -> x.sayings(16, 0, false));
        refused("18: person below", INDEX, () -> x.sayings(-1, 0, true));
        same("18: told at the TENT", x.sayings(7, 0, false), 1);
        same("18: ahead of all", x.sayings(7, -1, false), 0);
        x.ticks(1);
        same("18: two", x.sayings(7, 1, false), 2);
        same("18: at TICK 0", x.sayings(7, 0, false), 1);
        seen(0, 7, 0, 0);
        same("18: three", x.sayings(7, 1, false), 3);
        same("18: of two MOUTHS", x.sayings(7, 1, true), 2);
        x.ticks(4);
        same("18: four", x.sayings(7, 5, false), 4);
        same("18: of three MOUTHS", x.sayings(7, 400, true), 3);
        x.undo(2, 200, 0);
        same("18: not undone yet", x.sayings(7, 5, false), 4);
        x.ticks(1);
        same("18: undone", x.sayings(7, 6, false), 3);
        same("18: by what it HAD then", x.sayings(7, 5, false), 4);
        x.ticks(1);
        same("18: though it is gone", x.copy(0, 0, 0), NONE);
        same("18: of another", x.sayings(8, 7, false), 1);
        same("18: of none", x.sayings(9, 7, true), 0);
    }

    private static void promise19And20() {
        anew("");
        phones(1);
        refused("19: below", ARGUMENT, () -> x.speed(0));
        refused("19: above", ARGUMENT, () -> x.speed(9));
        refused("20: person", INDEX, () -> x.could(16, -1, 0));
        refused("20: tick", ARGUMENT, () -> x.could(0, -1, 0));
        refused("20: tick above", ARGUMENT, () -> x.could(0, 401, 0));
        same("20: without any", x.could(0, 400, 0), 65535);
        x.ticks(10);
        seen(0, 0, 0, 4);
        same("20: there", x.could(0, 4, 10), 1);
        same("20: a step", x.could(0, 5, 10), 1 + 2 + 16);
        same("20: a step ahead of it", x.could(0, 3, 10), 1 + 2 + 16);
        same("20: before it was known", x.could(0, 4, 9), 65535);
        x.speed(2);
        same("20: two steps", x.could(0, 5, 10), 1 + 2 + 4 + 16 + 32 + 256);
        seen(0, 0, 15, 6);
        same("20: nowhere", x.could(0, 5, 10), 0);
        x.speed(3);
        same("20: between", x.could(0, 5, 10), 8 + 64 + 512 + 4096);
        x.speed(8);
        same("20: all", x.could(0, 5, 10), 65535);
        same("20: at TICK 0", x.could(0, 0, 10), 65535);
        same("20: at TICK 400", x.could(0, 400, 10), 65535);
        same("20: known later", x.could(0, 4, 1000), 1);
        x.speed(1);
        same("19: 1 again", x.could(0, 3, 10), 0);
    }

    private static void promise21() {
        anew("");
        phones(1);
        x.ticks(40);
        refused("21: person", INDEX, () -> x.least(16, 0, false));
        same("21: of none", x.least(0, 40, true), 0);
        seen(0, 0, 0, 1);
        seen(0, 0, 15, 1);
        same("21: one", x.least(0, 40, false), 1);
        same("21: of two sets the least bits", x.least(0, 40, true), 1);
        seen(0, 0, 0, 1);
        same("21: the other one", x.least(0, 40, true), 2);
        seen(0, 0, 14, 2);
        same("21: two of four", x.least(0, 40, false), 2);
        same("24: AGAINST by the first one too", x.sure(0, 14), 0);
        same("21: 0 and 2 are as many as 1 and 3", x.least(0, 40, true), 5);
        for (int i = 4; i < 10; i++) {
            seen(0, 0, 0, 1);
        }
        same("21: ten", x.least(0, 40, true), 2 + 8);
        for (int i = 0; i < 9; i++) {
            seen(0, 0, 15, 1);
        }
        same("21: those behind are not asked", x.least(0, 40, true), 2 + 8);
        same("21: nor counted", x.least(0, 40, false), 2);
        same("21: nothing was known", x.least(0, 39, false), 0);
        x.speed(6);
        same("21: of one TICK they are AGAINST at any SPEED", x.least(0, 40, true), 2);
    }

    private static void promise22To24() {
        anew("");
        phones(3);
        x.ticks(9);
        refused("22: word", INDEX, () -> x.judge(0, true));
        refused("23: phone", INDEX, () -> x.weight(3));
        refused("24: person", INDEX, () -> x.sure(16, 0));
        refused("24: place", INDEX, () -> x.sure(0, 16));
        same("24: without any", x.sure(0, 0), 0);
        seen(1, 0, 0, 1);
        seen(1, 0, 0, 2);
        seen(2, 0, 0, 3);
        seen(2, 0, 1, 4);
        x.undo(1, 9, 3);
        same("23: none judged", x.weight(1), 500);
        same("24: not HAD yet", x.sure(0, 0), 0);
        x.say(0, 4, 9, 0, 0, 0, 0);
        CHECKS.yes("22: not before", x.judge(0, false));
        CHECKS.no("22: the same", x.judge(0, false));
        same("23: 1 of 3", x.weight(1), 333);
        CHECKS.yes("22: otherwise", x.judge(0, true));
        CHECKS.no("22: the same again", x.judge(0, true));
        same("23: 2 of 3", x.weight(1), 666);
        CHECKS.yes("22: another", x.judge(1, true));
        same("23: 3 of 4", x.weight(1), 750);
        CHECKS.yes("22: an undone one", x.judge(4, false));
        same("23: 3 of 5", x.weight(1), 600);
        same("23: another MOUTH", x.weight(2), 500);
        x.ticks(1);
        same("24: each MOUTH once", x.sure(0, 0), 1100);
        same("24: undone", x.sure(0, 1), 0);
        seen(0, 0, 1, 4);
        same("24: the TENT's own", x.sure(0, 1), 500);
        seen(0, 0, 15, 4);
        same("24: AGAINST, though elsewhere", x.sure(0, 0), 0);
        x.speed(8);
        same("24: no SPEED is enough within a TICK", x.sure(0, 0), 0);
        anew("");
        phones(1);
        x.ticks(20);
        for (int i = 0; i < 10; i++) {
            seen(0, 1, 0, 1);
        }
        same("24: ten", x.sure(1, 0), 500);
        seen(0, 1, 15, 1);
        same("24: an 11th counts too", x.sure(1, 0), 0);
    }

    private static void promise25To28() {
        anew("");
        refused("25: name", ARGUMENT, () -> x.describe(100, 0, 0));
        refused("25: name below", ARGUMENT, () -> x.describe(-2, 0, 0));
        refused("25: age", ARGUMENT, () -> x.describe(0, 100, 0));
        refused("25: age below", ARGUMENT, () -> x.describe(0, -2, 0));
        refused("25: coat", ARGUMENT, () -> x.describe(0, 0, 10));
        refused("25: coat below", ARGUMENT, () -> x.describe(0, 0, -2));
        refused("26: below", ARGUMENT, () -> x.apart(-1));
        refused("26: above", ARGUMENT, () -> x.apart(1001));
        refused("27: what", ELEMENT, () -> x.heaps(2));
        refused("27: what below", ELEMENT, () -> x.heaps(-1));
        refused("28: description", INDEX, () -> x.heap(0));
        same("27: none", x.heaps(0), 0);
        same("25: all missing", x.describe(NONE, NONE, NONE), 0);
        same("27: one", x.heaps(0), 10);
        same("25: the most", x.describe(99, 99, 9), 1);
        same("25: the least", x.describe(0, 0, 0), 2);
        // 99 + 20 + 7 apart: 0 goes with either, and goes with 1 as HEAPS are numbered.
        same("27: two HEAPS", x.heaps(1), 2);
        same("27: their price", x.heaps(0), 20);
        same("28: heap 1", x.heap(1), 0);
        same("28: heap 2", x.heap(2), 1);
        x.apart(126);
        same("27: as dear, so the fewest", x.heaps(1), 1);
        same("27: 126 and 126", x.heaps(0), 252);
        x.apart(125);
        same("27: two", x.heaps(1), 2);
        refused("28: description", INDEX, () -> x.heap(3));
        for (int i = 3; i < 7; i++) {
            same("25: number", x.describe(0, 0, 0), i);
        }
        same("25: an 8th", x.describe(0, 0, 0), NONE);
        refused("25: a wrong 8th", ARGUMENT, () -> x.describe(0, 0, 10));
        same("25: seven", x.count(8), 7);
        prices();
        partings();
    }

    /** Partings as dear as one another: the fewest HEAPS, then the least numbers one behind the other. */
    private static void partings() {
        anew("");
        x.apart(7);
        x.describe(1, 1, 1);
        same("28: alone", x.heap(0), 0);
        x.describe(1, 1, 2);
        same("28: as dear apart", x.heap(1), 0);
        x.describe(1, 1, 3);
        same("28: with neither", x.heap(2), 1);
        same("27: all three", x.heaps(0), 21);
        same("27: fewest of 7 and 14, or 21", x.heaps(1), 2);
        x.apart(6);
        same("28: each alone", x.heap(2), 2);
        same("27: three", x.heaps(0), 18);
        x.apart(8);
        x.describe(1, 1, 1);
        same("28: where it belongs", x.heap(3), 0);
        same("28: apart from it", x.heap(1), 1);
    }

    private static int price(int name, int age, int coat, int otherName, int otherAge, int otherCoat) {
        anew("");
        x.apart(1000);
        x.describe(name, age, coat);
        x.describe(otherName, otherAge, otherCoat);
        return x.heaps(0) - 1000;
    }

    private static void prices() {
        same("27: names", price(1, NONE, NONE, 2, NONE, NONE), 20);
        same("27: a name is missing", price(1, 5, 3, NONE, 5, 3), 0);
        same("27: ages", price(1, 5, 3, 1, 17, 3), 12);
        same("27: ages the other way", price(1, 17, 3, 1, 5, 3), 12);
        same("27: an age is missing", price(1, NONE, 3, 1, 17, 3), 0);
        same("27: coats", price(1, 5, 3, 1, 5, 4), 7);
        same("27: a coat is missing", price(1, 5, NONE, 1, 5, 4), 0);
        same("27: all", price(1, 5, 3, 2, 6, 4), 28);
        anew("");
        x.describe(1, NONE, NONE);
        x.describe(2, NONE, NONE);
        x.describe(NONE, NONE, NONE);
        same("28: it goes with the first", x.heap(2), 0);
        same("27: 10 at first", x.heaps(0), 20);
        x.apart(0);
        same("28: parted anew", x.heap(1), 1);
        same("27: nothing at all", x.heaps(0), 0);
        same("27: the fewest", x.heaps(1), 2);
    }

    private static void promise29To32() {
        anew("");
        refused("29: place", INDEX, () -> x.stones(16, -1, 0, 0, 1));
        refused("29: living", ARGUMENT, () -> x.stones(0, 101, 0, 0, 1));
        refused("29: living below", ARGUMENT, () -> x.stones(0, -1, 0, 0, 1));
        refused("29: odds", ARGUMENT, () -> x.stones(0, 0, 101, 0, 1));
        refused("29: odds below", ARGUMENT, () -> x.stones(0, 0, -1, 0, 1));
        refused("29: fade", ARGUMENT, () -> x.stones(0, 0, 0, 21, 1));
        refused("29: fade below", ARGUMENT, () -> x.stones(0, 0, 0, -1, 1));
        refused("29: dig", ARGUMENT, () -> x.stones(0, 0, 0, 0, 1001));
        refused("29: dig below", ARGUMENT, () -> x.stones(0, 0, 0, 0, 0));
        refused("30: place", INDEX, () -> x.gang(16, 0));
        refused("30: strength", ARGUMENT, () -> x.gang(0, 101));
        refused("30: strength below", ARGUMENT, () -> x.gang(0, 0));
        refused("31: gang", INDEX, () -> x.saved(0, 0));
        refused("32: gang", INDEX, () -> x.send(0));
        refused("32: gang below", INDEX, () -> x.send(-2));
        same("32: none", x.send(NONE), 0);
        x.ticks(5);
        same("29: first", x.stones(5, 100, 100, 1, 11), 0);
        same("30: first", x.gang(0, 5), 0);
        same("31: two steps and three TICKS", x.saved(0, 0), 100 * 95);
        refused("31: stones", INDEX, () -> x.saved(0, 1));
        x.ticks(2);
        same("31: two TICKS later", x.saved(0, 0), 100 * 93);
        same("29: told later", x.stones(5, 3, 50, 20, 1000), 1);
        same("31: 0 at least", x.saved(0, 1), 0);
        same("32: together", x.send(NONE), 9300);
        same("32: the first", x.send(0), 0);
        same("30: as good", x.gang(0, 5), 1);
        same("32: of several the least STONES first", x.send(0), 0);
        same("32: for nothing to the others", x.send(1), 1);
        same("30: no STONES left", x.gang(0, 5), 2);
        same("32: none is the last", x.send(2), NONE);
        same("30: better", x.gang(5, 100), 3);
        refused("30: a 5th", UNSUPPORTED, () -> x.gang(0, 1));
        refused("30: a wrong 5th", ARGUMENT, () -> x.gang(0, 0));
        same("32: the better one goes", x.send(3), 0);
        same("32: 3 comes at once and digs a TICK", x.send(NONE), 100 * 97);
        same("32: and the first to what is left", x.send(0), 1);
        for (int i = 2; i < 5; i++) {
            same("29: number", x.stones(0, 0, 0, 0, 1), i);
        }
        refused("29: a 6th", UNSUPPORTED, () -> x.stones(0, 0, 0, 0, 1));
        refused("29: a wrong 6th", ARGUMENT, () -> x.stones(0, 0, 0, 21, 1));
        same("32: counts stay", x.count(9) * 10 + x.count(10), 54);
        anew("");
        x.stones(0, 2, 100, 1, 7);
        x.gang(0, 1);
        x.gang(0, 7);
        x.gang(0, 8);
        x.gang(0, 6);
        same("31: seven TICKS", x.saved(0, 0), 2 * 93);
        same("31: one", x.saved(1, 0), 2 * 99);
        same("31: one for the strongest too", x.saved(2, 0), 2 * 99);
        same("31: rounded up", x.saved(3, 0), 2 * 98);
        same("32: the first of the best", x.send(1), 0);
        same("32: for the others none", x.send(0), NONE);
        refused("32: a gang too many", INDEX, () -> x.send(4));
        anew("");
        x.stones(0, 0, 0, 0, 1);
        x.gang(0, 1);
        same("32: for nothing", x.send(NONE), 0);
        same("32: rather than nowhere", x.send(0), 0);
        x.gang(0, 1);
        refused("32: a third", INDEX, () -> x.send(2));
    }

    private static void promise33And34() {
        anew("");
        phones(2);
        refused("33: person", INDEX, () -> x.hide(16, true));
        refused("34: person", INDEX, () -> x.ask(16, true));
        x.ticks(3);
        seen(1, 2, 5, 3);
        same("34: HAD none", x.ask(2, true), 0);
        x.ticks(1);
        same("34: a step", x.ask(2, false), 2 + 16 + 32 + 64 + 512);
        CHECKS.no("33: was not", x.hide(2, false));
        CHECKS.yes("33: otherwise", x.hide(2, true));
        CHECKS.no("33: the same", x.hide(2, true));
        same("34: no show LINE", x.ask(2, true), 0);
        same("34: no show LINE, another", x.ask(2, false), 0);
        CHECKS.yes("33: no more", x.hide(2, false));
        same("34: again", x.ask(2, true), 2 + 16 + 32 + 64 + 512);
        x.undo(0, 9, 0);
        same("34: undone", x.ask(2, true), 0);
        factsOfNobody();
        shows("show", true, true);
        shows("show if kin", true, false);
        shows("show if not kin", false, true);
        shows("show if age < 1 and hops < 1 and have < 1 and charge < 1 and number < 1", true, true);
        shows("show if alive or seen or need or asked or order or undone or number > 0", false, false);
        shows("show if order; pass; show if kin", true, false);
        shows("pass if kin; first 3 if kin", false, false);
    }

    /** What was asked of a COPY before does not count for a show LINE. */
    private static void factsOfNobody() {
        anew("show if age > 0 or hops > 0 or have > 0 or charge > 0 or number > 0 or seen");
        phones(2);
        x.say(1, 1, 9, 1, 7, 0, 5);
        x.ticks(1);
        x.hide(1, true);
        same("12: the COPY", x.copy(0, 0, 4), 0);
        same("34: all else is 0 or no", x.ask(1, false), 0);
    }

    private static void shows(String rules, boolean kin, boolean other) {
        anew(rules);
        x.phone(3, 50, 3, 0);
        x.say(0, 0, 9, 1, 7, 0, 5);
        x.hide(1, true);
        same("34: kin, " + rules, x.ask(1, true), kin ? 128 : 0);
        same("34: another, " + rules, x.ask(1, false), other ? 128 : 0);
    }

    private static void promise35() {
        anew("");
        x.phone(0, 1000, 2, 0);
        x.phone(0, 1000, 2, 0);
        x.phone(2, 1000, 2, 0);
        x.say(2, 0, 200, 0, 0, 0, 0);
        refused("35: word", INDEX, () -> x.far(1, -1));
        refused("35: tick", ARGUMENT, () -> x.far(0, -1));
        same("35: now", x.far(0, 0), 1);
        same("35: as of now", x.far(0, 400), 1);
        x.move(1, 2, 1, 0);
        x.move(3, 2, 3, 0);
        same("35: over three LOTS", x.far(0, 0), 3);
        x.ticks(2);
        same("35: at the end of TICK 0", x.far(0, 0), 3);
        same("35: LOT 1 brings it to all", x.far(0, 1), 1 + 3 + 1);
        same("35: LOT 3 is not there yet", x.far(0, 2), 5);
        x.say(1, 3, 200, 0, 0, 0, 0);
        same("35: told at the end of its TICK", x.far(1, 2), 3);
        same("35: ahead of that", x.far(1, 1), 0);
        x.ticks(1);
        same("35: LOT 3", x.far(0, 3), 1 + 3 + 3);
        same("35: as it is in the town on LOT 0", x.word(0, 9), 1);
        same("35: 1 in LOT 0, in 1 and in 3", x.far(1, 400), 2 + 3 + 3);
        same("35: the town is as it was", x.look(2, 0), 2);
        same("35: at its TICK", x.count(0), 3);
        dawnIsByItsOwnRules();
    }

    /** What was given away at TICK 0 was so by the RULES of then. */
    private static void dawnIsByItsOwnRules() {
        anew("first 1 if number > 3");
        x.phone(0, 10, 1, 0);
        x.phone(9, 10, 2, 0);
        x.say(1, 0, 200, 0, 0, 0, 2);
        x.say(1, 0, 200, 0, 0, 0, 5);
        x.say(1, 0, 200, 0, 0, 0, 1);
        same("35: 0 is given away", x.copy(1, 0, 0), NONE);
        Tapes.put(x, "first 1 if number < 4");
        x.rules();
        x.ticks(1);
        same("35: as it was", x.far(1, 1), 1);
        same("35: and gone as it was", x.far(0, 1), 0);
        x.say(1, 0, 200, 0, 0, 0, 1);
        same("35: by the RULES of now", x.far(1, 1), 0);
        same("35: by the RULES of now, the others", x.far(2, 1), 1);
    }

    private static void promise36() {
        anew("pass if order");
        phones(2);
        x.say(1, 0, 200, 0, 0, 0, 0);
        x.say(0, 0, 200, 0, 0, 0, 0);
        x.ticks(3);
        x.say(1, 4, 200, 0, 0, 0, 0);
        x.say(0, 3, 200, 0, 0, 0, 0);
        x.ticks(4);
        same("36: by its own RULES", would("pass if order", 0), NONE);
        same("36: in the town", x.had(0), NONE);
        same("36: without RULES", would("", 0), 1);
        same("36: later", would("pass if age > 4", 0), 5);
        same("36: now", would("pass if age > 6", 0), 7);
        same("36: not by now", would("pass if age > 7", 0), NONE);
        same("36: told at the TENT", would("", 1), 0);
        same("36: told later", would("", 2), 4);
        same("36: told later at the TENT", would("pass if kin", 3), 3);
        x.move(1, 1, 8, 9);
        x.move(0, 1, 9, 9);
        x.ticks(1);
        same("36: on LOT 0", would("pass if age > 7", 0), 8);
        x.ticks(1);
        same("36: LOT 0 has gone away", would("pass if age > 8", 0), NONE);
        same("36: the RULES stay", x.count(3), 1);
        same("36: the town stays", x.word(0, 9), 1);
        Tapes.put(x, "pass if");
        refused("36: text", ARGUMENT, () -> x.would(0));
        same("36: fault", x.fault(), 7);
        CHECKS.no("36: the TAPE is used up", x.end(1));
        Tapes.put(x, "pass");
        refused("36: word", INDEX, () -> x.would(4));
        CHECKS.no("36: the TAPE is used up too", x.end(1));
        same("36: that text was not read", x.fault(), 7);
        same("36: none was read", would("pass", 0), 1);
        same("36: right", x.fault(), NONE);
    }

    private static int would(String rules, int word) {
        Tapes.put(x, rules);
        int answer = x.would(word);
        CHECKS.no("36: the TAPE is used up", x.end(1));
        return answer;
    }

    private static void promise37And38() {
        anew("");
        x.phone(0, 1000, 12, 0);
        x.phone(1, 1000, 12, 0);
        refused("37: no ROW", ELEMENT, () -> x.tear(0, 1));
        same("38: no ROW", x.check(), NONE);
        x.say(0, 0, 6, 0, 0, 0, 0);
        x.say(1, 0, 7, 0, 0, 0, 0);
        x.move(0, 1, 3, 0);
        x.ticks(8);
        // TICKS 1 to 8: 2 2 4 4 4 2 0 0.
        int[] due = {2, 2, 4, 4, 4, 2, 0, 0};
        for (int i = 0; i < 8; i++) {
            same("37: ROW " + i, x.tear(i, 0), due[i]);
        }
        same("38: whole", x.check(), NONE);
        refused("37: a 9th", ELEMENT, () -> x.tear(8, 1));
        refused("37: below", ELEMENT, () -> x.tear(-1, 1));
        same("37: torn", x.tear(4, 5), 1);
        same("38: it", x.check(), 4);
        same("37: an earlier one", x.tear(2, -1), ~4);
        same("38: the first", x.check(), 2);
        x.say(0, 0, 6, 0, 0, 0, 0);
        x.ticks(1);
        same("38: a TICK older", x.check(), 1);
        same("37: the oldest is the second", x.tear(0, 0), 2);
        same("37: the latest", x.tear(7, 0), 2);
        same("37: mended", x.tear(1, -1), 4);
        same("38: the other", x.check(), 3);
        x.ticks(4);
        same("38: gone with the time", x.check(), NONE);
        refused("37: still eight", ELEMENT, () -> x.tear(8, 0));
    }

    private static void promise39And40() {
        anew("pass if order; show");
        phones(2);
        x.say(1, 0, 200, 1, 0, 0, 0);
        CHECKS.no("40: none was kept", x.back());
        x.image();
        long before = print(x);
        change();
        CHECKS.yes("40: it is kept", x.back());
        same("40: all is as it was", print(x), before);
        same("40: but for fault", x.fault(), 1);
        CHECKS.yes("40: and the TAPE", x.end(20));
        x.ticks(3);
        same("40: as if nothing had been", x.word(0, 9), 1);
        same("40: nor is it in the trials", x.far(0, 3), 1);
        CHECKS.yes("40: once more", x.back());
        same("40: all is as it was again", print(x), before);
        change();
        long later = print(x);
        x.image();
        x.ticks(9);
        x.judge(0, false);
        x.back();
        same("40: THE IMAGE is the one kept last", print(x), later);
        same("40: with its dawn, on two LOTS", x.far(0, 0), 2);
        same("40: and its walks", would("", 0), 1);
    }

    /** A COPY that came anew on another WAY since goes back to the WAY of then. */
    private static void imageOfWays() {
        anew("first 5 if seen; first 9 if need");
        x.phone(9, 1000, 12, 0);
        x.phone(1, 1000, 12, 0);
        x.phone(15, 1000, 12, 0);
        x.phone(2, 1000, 12, 0);
        x.phone(2, 1000, 1, 0);
        x.say(3, 1, 200, 0, 0, 0, 0);
        x.move(0, 1, 2, 2);
        x.move(0, 3, 3, 4);
        x.ticks(2);
        same("40: 1 has it from the MOUTH", x.copy(1, 0, 2), 3);
        x.image();
        x.say(4, 2, 2, 0, 0, 0, 0);
        x.ticks(2);
        same("40: it came anew", x.copy(4, 0, 2), 1);
        x.back();
        same("40: it came as then", x.copy(4, 0, 2), 3);
        x.move(0, 4, 3, 9);
        x.ticks(1);
        same("40: its WAY", x.way(0, 0), 3);
        same("40: its WAY, then", x.way(0, 1), 4);
        same("40: no more of it", x.way(0, 2), NONE);
        x.back();
        x.say(2, 2, 9, 7, 8, 2, 6);
        x.judge(1, true);
        x.undo(2, 9, 1);
        x.back();
        x.say(1, 3, 9, 0, 0, 0, 0);
        x.move(0, 2, 3, 2);
        x.ticks(1);
        same("40: nothing undoes it", x.copy(2, 1, 1), 1);
        x.back();
        x.undo(1, 9, 0);
        for (int what = 4; what < 8; what++) {
            same("40: nothing of what was told since", x.word(1, what), 0);
        }
        same("40: nor of what was judged", x.weight(2), 500);
    }

    private static void imageOfTheRest() {
        anew("");
        phones(1);
        seen(0, 1, 5, 0);
        x.describe(1, 1, 1);
        x.describe(1, 9, 1);
        x.ticks(1);
        x.image();
        x.speed(3);
        x.hide(1, true);
        x.apart(0);
        x.ticks(3);
        x.tear(0, 1);
        same("38: the oldest", x.check(), 0);
        x.back();
        same("40: ROWS", x.check(), NONE);
        refused("40: ROWS of later TICKS", ELEMENT, () -> x.tear(1, 0));
        same("40: SPEED and who is HIDDEN", x.ask(1, false), 2 + 16 + 32 + 64 + 512);
        same("40: APART", x.heaps(0), 18);
    }

    private static void change() {
        Tapes.put(x, "first 3;;");
        try {
            x.rules();
        } catch (IllegalArgumentException e) {
            same("39: the text is wrong", x.fault(), 8);
        }
        Tapes.put(x, "first 3 if age > 0");
        x.rules();
        x.phone(0, 5, 5, 5);
        x.move(0, 1, 3, 9);
        x.move(2, 1, 3, 9);
        x.say(1, 1, 50, 2, 3, 0, 4);
        x.undo(1, 9, 1);
        x.speed(3);
        x.apart(3);
        x.describe(1, 2, 3);
        x.stones(1, 50, 90, 1, 7);
        x.gang(2, 3);
        x.hide(1, true);
        x.judge(0, true);
        x.ticks(5);
        x.tear(2, 7);
        x.say(0, 0, 20, 1, 3, 0, 0);
        Tapes.put(x, "+");
        Tapes.put(x, " +");
        try {
            x.would(0);
        } catch (IllegalArgumentException e) {
            same("39: the text is wrong", x.fault(), 1);
        }
        x.feed(0, 0, 0, 0, 0);
    }

    /** Much of what can be seen, as one number. */
    private static long print(QuakeNet net) {
        long sum = 0;
        for (int what = 0; what < 12; what++) {
            sum = 31 * sum + net.count(what);
        }
        for (int p = 0; p < net.count(1); p++) {
            for (int what = 0; what < 8; what++) {
                sum = 31 * sum + net.look(p, what);
            }
            sum = 31 * sum + net.weight(p);
            for (int w = 0; w < net.count(2); w++) {
                for (int what = 0; what < 6; what++) {
                    sum = 31 * sum + net.copy(p, w, what);
                }
            }
        }
        for (int w = 0; w < net.count(2); w++) {
            for (int what = 0; what < 11; what++) {
                sum = 31 * sum + net.word(w, what);
            }
            sum = 31 * sum + net.had(w);
            sum = 31 * sum + net.way(w, 0);
            sum = 31 * sum + net.far(w, 2);
        }
        for (int person = 0; person < 4; person++) {
            sum = 31 * sum + net.ask(person, false);
            sum = 31 * sum + net.could(person, 2, 9);
        }
        return 31 * (31 * (31 * sum + net.check()) + net.heaps(0)) + net.send(NONE);
    }

    private static void promise41() {
        anew("pass if not order; cost 0");
        x.phone(0, 100, 2, 0);
        x.phone(0, 100, 2, 0);
        x.phone(1, 100, 1, 0);
        x.say(0, 0, 50, 0, 0, 0, 0);
        x.say(1, 0, 50, 0, 0, 0, 0);
        x.say(2, 0, 50, 0, 0, 0, 0);
        x.say(2, 0, 50, 0, 0, 0, 0);
        x.describe(1, 1, 1);
        x.stones(1, 1, 1, 1, 1);
        x.stones(1, 1, 1, 1, 1);
        x.gang(1, 1);
        x.move(2, 0, 9, 9);
        x.move(3, 0, 9, 9);
        x.move(3, 0, 9, 9);
        x.ticks(6);
        int[] due = {6, 3, 4, 2, 5, 2, 1, 2, 1, 2, 1, 2};
        for (int what = 0; what < 12; what++) {
            same("41: what " + what, x.count(what), due[what]);
        }
        x.move(0, 0, 9, 9);
        same("41: LOT 0 too", x.count(11), 3);
        x.say(0, 3, 9, 0, 0, 0, 0);
        x.say(2, 3, 9, 0, 0, 0, 0);
        same("41: the TENT HAD three of six", x.count(7), 3);
        same("41: another", x.count(12), NONE);
        same("41: below", x.count(-1), NONE);
    }
}
