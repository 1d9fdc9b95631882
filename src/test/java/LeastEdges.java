/** Promises 18 to 21: told numbers, LEAST, counts, and what can be undone. */
final class LeastEdges extends Edges {
    LeastEdges(Sentences sentences) {
        super(sentences);
    }

    @Override
    void all() {
        toldNumbers();
        lengths();
        choices();
        rightOfAll();
        cheapest();
        lateKinds();
        fewerSteps();
        byKindAndX();
        byY();
        looks();
        least();
        looksAgain();
        leastRefused();
        leastFull();
        counts();
        undo();
        undoneForms();
        undoneSettings();
        latest50();
        fallenOut();
        notActs();
        names();
    }

    private static DivideSmith telling(long... numbers) {
        DivideSmith s = new DivideSmith();
        for (int place = 0; place < numbers.length; place++) s.tell(place, numbers[place]);
        return s;
    }

    /** prices: KIND, price, ..; rows: KIND, x, y of each step, none if no form is RIGHT. */
    private void dueLeast(String why, int[] asking, long[] told, int[] prices, long... rows) {
        DivideSmith s = telling(told);
        for (int i = 0; i + 1 < prices.length; i += 2) s.price(prices[i], prices[i + 1]);
        due(why, s.least(asking[0], asking[1], asking[2], asking[3]), rows.length == 0 ? NONE : 0);
        if (rows.length > 0) dueSteps(why, s, 0, rows);
    }

    private static int[] asking(int signed, int wish, int d, int most) {
        return new int[] {signed, wish, d, most};
    }

    private static long[] told(long... numbers) {
        return numbers;
    }

    private static int[] prices(int... pairs) {
        return pairs;
    }

    private static int[] allOf50(int... pairs) {
        int[] all = new int[26 + pairs.length];
        for (int kind = 0; kind < 13; kind++) {
            all[2 * kind] = kind;
            all[2 * kind + 1] = 50;
        }
        System.arraycopy(pairs, 0, all, 26, pairs.length);
        return all;
    }

    private void toldNumbers() {
        says(TERMS, "TOLD NUMBERS: four, at places 0 .. 3, 0 at first.");
        for (int place = 0; place < 4; place++) due("at first", new DivideSmith().tell(place, 7), 0);
        dueLeast("told 0 at first", asking(0, 0, 1, 1), told(), prices(), 0, 0, 0);
        for (int place = 0; place < 4; place++) {
            DivideSmith s = telling(8, 8, 8, 8);
            s.tell(place, 3);
            due("place " + place + " is looked at", s.least(0, 0, 8, 1), 0);
        }
        says(18, "The told number at a place: what it was.");
        for (int place = 0; place < 4; place++) {
            DivideSmith s = new DivideSmith();
            due("first", s.tell(place, Long.MIN_VALUE), 0);
            due("second", s.tell(place, -1), Long.MIN_VALUE);
            due("third", s.tell(place, 300), -1);
            due("all its bits", s.tell(place, 1L << 32), 300);
            for (int other = 0; other < 4; other++) {
                if (other != place) due("another place", s.tell(other, 0), 0);
            }
            due("it stays", s.tell(place, 0), 1L << 32);
        }
        says(18, "0 if there is no such place (0 .. 3).");
        DivideSmith s = telling(5, 6, 7, 8);
        for (int place : new int[] {LOWEST, -1, 4, 5, GREATEST}) due("place " + place, s.tell(place, 9), 0);
        due("no act", s.count(1), 4);
        for (int place = 0; place < 4; place++) due("nothing changed", s.tell(place, 0), place + 5);
    }

    private void lengths() {
        says(TERMS, "LEAST, of an asking of width 8 and a greatest count of steps 1 .. 3, looks at all forms of at least one and "
            + "so many steps,");
        // the number itself is right, but has no step
        dueLeast("at least one", asking(0, 0, 1, 1), told(0, 0, 0, 0), prices(), 0, 0, 0);
        dueLeast("none of one", asking(0, 0, 1, 1), told(3, 5, 6, 7), prices());
        dueLeast("of two", asking(0, 0, 1, 2), told(3, 5, 6, 7), prices(), 5, 0, 0, 6, 1, 0);
        dueLeast("by 3: none of one", asking(0, 0, 3, 1), told(171, 1, 8, 8), prices());
        dueLeast("by 3: one of two", asking(0, 0, 3, 2), told(171, 1, 8, 8), prices(), 2, 0, 171, 0, 1, 1);
        dueLeast("by 3: the same of three", asking(0, 0, 3, 3), told(171, 1, 8, 8), prices(), 2, 0, 171, 0, 1, 1);
        dueLeast("SIGNED by 2: none of two", asking(1, 0, 2, 2), told(3, 171, 1, 7), prices());
        dueLeast("SIGNED by 2: one of three", asking(1, 0, 2, 3), told(3, 171, 1, 7), prices(),
            0, 0, 7, 5, 0, 1, 1, 2, 1);
        dueLeast("by 7: none of three, as it takes five", asking(0, 0, 7, 3), told(37, 1, 2, 0), prices());
    }

    private void choices() {
        says(TERMS, "whose y is, in KINDS 5, 6, 8, 12, any operand ahead,");
        dueLeast("5, operands 0 and 1", asking(0, 2, 128, 2), told(64, 0, 128, 171), prices(1, 6), 9, 0, 128, 5, 0, 1);
        dueLeast("6, operands 1 and 0", asking(0, 0, 1, 2), told(3, 5, 6, 7), prices(), 5, 0, 0, 6, 1, 0);
        dueLeast("6, operands 1 and 2", asking(1, 5, 127, 3), told(255, 129, 64, 85), prices(9, 5),
            4, 0, 129, 5, 0, 0, 6, 1, 2);
        dueLeast("8, operands 1 and 2", asking(0, 0, 200, 3), told(199, 129, 255, 171), prices(6, 3, 7, 2, 12, 3),
            11, 0, 199, 11, 0, 255, 8, 1, 2);
        dueLeast("12, operands 2 and 0", asking(1, 2, 128, 3), told(255, 5, 8, 5), prices(5, 2, 6, 6, 9, 4),
            4, 0, 255, 8, 0, 1, 12, 2, 0);
        says(TERMS, "else a told number's lowest 8 bits (for a count only if that is one).");
        dueLeast("a number", asking(0, 2, 8, 1), told(1024 + 7, 0, 0, 0), prices(), 9, 0, 7);
        dueLeast("a number of all bits", asking(0, 4, 1, 1), told(-1, 1, 1, 1), prices(), 11, 0, 255);
        dueLeast("a number that was not told", asking(0, 2, 8, 1), told(6, 8, 0, 0), prices());
        dueLeast("count 7", asking(0, 0, 128, 1), told(7, 7, 7, 7), prices(), 0, 0, 7);
        dueLeast("count 7 by its lowest 8 bits", asking(0, 0, 128, 1), told(8, 8, 8, 263), prices(), 0, 0, 7);
        dueLeast("count 7 of a long below 0", asking(0, 0, 128, 1), told(8, 8, 8, -249), prices(), 0, 0, 7);
        dueLeast("count 0", asking(0, 0, 1, 1), told(8, 8, 256, 8), prices(), 0, 0, 0);
        // moved down or rolled by 8 a number would be 0 or itself, and KINDS 0, 1, 10 come first and are cheaper
        dueLeast("8 is no count", asking(0, 2, 1, 1), told(8, 9, 8, 8), prices(6, 9, 8, 9), 6, 0, 0);
        dueLeast("8 is no count", asking(0, 0, 1, 1), told(8, 16, 8, 8), prices());
        dueLeast("255 is no count", asking(0, 4, 1, 3), told(255, 255, 255, 255), prices(), 11, 0, 255);
    }

    /** A form that is wrong of one number alone is not RIGHT, whichever it is, however cheap. */
    private void rightOfAll() {
        says(TERMS, "Of those that are RIGHT");
        // KIND 11 with 0 makes 1 of 0 alone, which is wrong of d alone
        for (int d = 129; d < 256; d++) dueLeast("wrong of " + d, asking(0, 4, d, 1), told(), prices());
        dueLeast("wrong of 0", asking(0, 1, 177, 2), told(129, 254, 255, 79), prices());
        dueLeast("wrong of 1", asking(1, 4, 224, 2), told(223, 8, 86, 5), prices(), 4, 0, 8, 11, 1, 5);
        dueLeast("wrong of 2", asking(0, 4, 3, 2), told(171, 3, 3, 86), prices());
        dueLeast("wrong of 64", asking(0, 4, 128, 2), told(5, 2, 6, 86), prices());
        dueLeast("wrong of 85", asking(1, 1, 85, 2), told(3, 3, 85, 171), prices());
        dueLeast("wrong of 127", asking(1, 0, 129, 2), told(127, 127, 129, 1), prices());
        dueLeast("wrong of 128", asking(0, 1, 129, 2), told(128, 2, 255, 6), prices(), 2, 0, 255, 2, 1, 2);
        dueLeast("wrong of 255", asking(0, 2, 255, 1), told(), prices());
        dueLeast("only multiples are asked of", asking(0, 5, 255, 1), told(1, 1, 1, 1), prices(), 9, 0, 1);
    }

    private void cheapest() {
        says(TERMS, "Of those that are RIGHT it finds the one of the least COST;");
        dueLeast("two of 1 are less than one of 3", asking(0, 0, 1, 3), told(1, 3, 5, 7), prices(), 5, 0, 0, 6, 1, 0);
        dueLeast("one of 1 is less than two", asking(0, 0, 1, 3), told(1, 3, 5, 7), prices(4, 1), 4, 0, 1);
        dueLeast("three of 1 are less than one of 4", asking(0, 0, 4, 3), told(2, 64, 8, 8), prices(0, 50),
            1, 0, 2, 9, 1, 64, 5, 1, 2);
        dueLeast("one of 2 is less than three of 1", asking(0, 0, 4, 3), told(2, 64, 8, 8), prices(0, 2), 0, 0, 2);
        dueLeast("all of the greatest price", asking(0, 0, 1, 3), told(0, 0, 0, 0), allOf50(), 0, 0, 0);
        dueLeast("one step of 1 less", asking(0, 0, 1, 3), told(0, 0, 0, 0), allOf50(1, 49), 1, 0, 0);
        dueLeast("the greatest COST there is", asking(1, 0, 2, 3), told(7, 1, 7, 1), allOf50(),
            0, 0, 7, 5, 0, 1, 1, 2, 1);
        dueLeast("two steps of 1 less", asking(1, 0, 2, 3), told(7, 1, 7, 1), allOf50(1, 49),
            1, 0, 7, 6, 0, 1, 1, 2, 1);
        // 2 with 64 is as right, as are 0 by 2 and 10 by 2 of multiples alone
        dueLeast("by the prices of now", asking(0, 5, 4, 1), told(2, 64, 8, 8), prices(0, 9, 1, 9, 10, 8, 2, 7), 2, 0, 64);
    }

    /** Four counts are told, so that all the steps there are stand in the list; the last of them are looked at, too. */
    private void lateKinds() {
        says(TERMS, "looks at all forms of at least one and so many steps,");
        dueLeast("11 of 2 with the last told number", asking(1, 4, 64, 3), told(4, 5, 7, 1),
            prices(0, 5, 1, 5, 2, 5, 4, 4, 6, 5, 7, 7, 8, 5), 5, 0, 0, 5, 1, 1, 11, 2, 1);
        dueLeast("12 of 2 and 0", asking(1, 2, 128, 3), told(3, 5, 0, 7), allOf50(11, 3, 12, 2), 7, 0, 0, 8, 0, 1, 12, 2, 0);
        dueLeast("12 of 2 and 1", asking(0, 1, 192, 3), told(4, 6, 2, 7), prices(3, 8, 5, 9, 6, 4, 7, 6, 8, 2),
            0, 0, 7, 10, 0, 7, 12, 2, 1);
    }

    /** What an earlier look found, or was told, does not stay for a later one. */
    private void looksAgain() {
        says(19, "the LEAST for an asking with at most so many steps:");
        DivideSmith s = telling(171, 1, 8, 8);
        due("by 3", s.least(0, 0, 3, 2), 0);
        due("by 5", s.least(0, 0, 5, 2), NONE);
        s.tell(0, 205);
        s.tell(1, 2);
        due("by 3 with other numbers", s.least(0, 0, 3, 2), NONE);
        due("by 5 with other numbers", s.least(0, 0, 5, 2), 1);
        dueSteps("by 5", s, 1, 2, 0, 205, 0, 1, 2);
        DivideSmith t = telling(2, 64, 8, 8);
        due("by 4", t.least(0, 0, 4, 3), 0);
        dueSteps("by 4", t, 0, 0, 0, 2);
        t.price(0, 50);
        due("by 4 at another price", t.least(0, 0, 4, 3), 1);
        dueSteps("by 4 at another price", t, 1, 1, 0, 2, 9, 1, 64, 5, 1, 2);
        t.undo();
        t.undo();
        due("by 4 at the price that came back", t.least(0, 0, 4, 3), 1);
        dueSteps("by 4 at the price that came back", t, 1, 0, 0, 2);
        DivideSmith u = telling(1, 1, 1, 1);
        due("asked of all", u.least(0, 0, 255, 1), NONE);
        due("asked of multiples", u.least(0, 5, 255, 1), 0);
        dueSteps("asked of multiples", u, 0, 9, 0, 1);
        due("asked of all again", u.least(0, 0, 1, 1), 1);
        dueSteps("asked of all again", u, 1, 4, 0, 1);
    }

    private void fewerSteps() {
        says(TERMS, "of several the one that comes first: with fewer steps,");
        dueLeast("one before two", asking(0, 0, 1, 3), told(0, 0, 0, 0), prices(0, 2, 1, 2, 10, 2), 0, 0, 0);
        dueLeast("one before two, of less", asking(0, 0, 1, 3), told(0, 0, 0, 0), prices(0, 3, 1, 3, 10, 3), 5, 0, 0, 6, 1, 0);
        dueLeast("one before two", asking(0, 1, 64, 2), told(64, 129, 4, 86), prices(3, 3), 2, 0, 4);
        dueLeast("one before two", asking(1, 0, 255, 3), told(0, 171, 129, 1), prices(0, 2, 7, 2, 11, 4), 7, 0, 0);
        dueLeast("one before three", asking(0, 5, 127, 3), told(85, 85, 85, 127), prices(), 4, 0, 127);
        dueLeast("one before three", asking(0, 1, 16, 3), told(128, 128, 7, 16), prices(2, 6, 7, 3, 11, 2), 2, 0, 16);
        dueLeast("two before three", asking(0, 5, 6, 3), told(5, 128, 85, 64), prices(2, 3, 7, 4), 4, 0, 85, 3, 1, 128);
        dueLeast("two before three", asking(0, 5, 127, 3), told(2, 129, 128, 255), prices(6, 6, 7, 3, 12, 4),
            5, 0, 0, 3, 1, 128);
    }

    private void byKindAndX() {
        says(TERMS, "then by the first step that differs: by KIND,");
        dueLeast("0 before 1 and 10", asking(1, 1, 1, 1), told(254, 128, 3, 0), prices(), 0, 0, 0);
        dueLeast("1 before 10", asking(1, 1, 1, 1), told(254, 128, 3, 0), prices(0, 2), 1, 0, 0);
        dueLeast("6 before 8", asking(1, 2, 1, 3), told(128, 171, 129, 254), prices(), 6, 0, 0);
        dueLeast("the first step, though the second comes later", asking(0, 0, 16, 3), told(15, 3, 8, 128),
            prices(5, 4, 6, 4, 12, 6), 0, 0, 3, 2, 1, 128);
        dueLeast("the second step", asking(0, 5, 16, 2), told(5, 32, 8, 1), prices(), 0, 0, 1, 2, 1, 32);
        dueLeast("the third step", asking(0, 0, 64, 3), told(128, 1, 64, 63), prices(), 2, 0, 64, 2, 1, 64, 2, 2, 64);
        says(TERMS, "then by x,");
        dueLeast("of a sum: the second step", asking(0, 2, 128, 2), told(64, 0, 128, 171), prices(1, 6), 9, 0, 128, 5, 0, 1);
        dueLeast("the second step of three", asking(1, 2, 128, 3), told(255, 5, 8, 5), prices(5, 2, 6, 6, 9, 4),
            4, 0, 255, 8, 0, 1, 12, 2, 0);
        dueLeast("the second step of three", asking(0, 4, 128, 3), told(129, 127, 6, 254), prices(1, 5, 11, 6),
            4, 0, 127, 8, 0, 1, 11, 2, 6);
        dueLeast("the third step", asking(0, 0, 200, 3), told(199, 129, 255, 171), prices(6, 3, 7, 2, 12, 3),
            11, 0, 199, 11, 0, 255, 8, 1, 2);
    }

    private void byY() {
        says(TERMS, "then by y (an operand by its number,");
        dueLeast("operand 0 before 1", asking(1, 5, 127, 3), told(255, 129, 64, 85), prices(9, 5),
            4, 0, 129, 5, 0, 0, 6, 1, 2);
        says(TERMS, "a told number by its place;");
        dueLeast("4 at place 0", asking(0, 5, 64, 1), told(4, 5, 192, 254), prices(), 2, 0, 4);
        dueLeast("5 at place 0", asking(0, 5, 64, 1), told(5, 4, 192, 254), prices(), 2, 0, 5);
        dueLeast("5 at place 2, 4 at place 3", asking(0, 5, 64, 1), told(192, 254, 5, 4), prices(), 2, 0, 5);
        dueLeast("the second step", asking(0, 1, 4, 2), told(3, 3, 129, 128), prices(1, 5, 3, 1, 5, 4), 2, 0, 128, 2, 1, 129);
        dueLeast("the third step", asking(1, 4, 4, 3), told(2, 252, 128, 4), prices(2, 6), 9, 0, 252, 6, 1, 0, 11, 2, 2);
        dueLeast("counts, too", asking(1, 5, 200, 3), told(4, 1, 200, 85), prices(2, 3, 12, 5), 4, 0, 4, 1, 1, 4, 1, 2, 1);
        says(TERMS, "a y that stands at two places: the first one).");
        dueLeast("4 at places 0, 2, 3", asking(0, 5, 64, 1), told(4, 5, 4, 4), prices(), 2, 0, 4);
        dueLeast("5 at places 0, 3", asking(0, 5, 64, 1), told(5, 4, 4, 5), prices(), 2, 0, 5);
        dueLeast("by the lowest 8 bits", asking(0, 5, 64, 1), told(256 + 4, 5, 4, 4), prices(), 2, 0, 4);
        dueLeast("four times", asking(0, 5, 64, 1), told(4, 260, 4, -252), prices(), 2, 0, 4);
    }

    private void looks() {
        says(TERMS, "At most 12 times.");
        DivideSmith s = new DivideSmith();
        for (int i = 0; i < 11; i++) due("found", s.least(0, 0, 1, 1), i);
        due("the 12th, not found", s.least(0, 0, 3, 1), NONE);
        due("the 13th", s.least(0, 0, 1, 1), FULL);
        due("the 14th", s.least(0, 0, 1, 1), FULL);
        due("looked", s.count(2), 12);
        due("another object", new DivideSmith().least(0, 0, 1, 1), 0);
    }

    private void least() {
        says(19, "A new FORM of width 8: the LEAST for an asking with at most so many steps: its number.");
        DivideSmith s = withForms(3, 64);
        due("its number", s.least(0, 0, 1, 1), 3);
        due("its width", s.width(3), 8);
        dueSteps("its steps", s, 3, 0, 0, 0);
        due("it is RIGHT", s.fails(3, 0, 0, 1), NONE);
        due("it can get more steps", s.step(3, 7, 1, 0), 1);
        due("by the lowest bits of d", s.least(0, 0, 256 + 1, 1), 4);
        due("SIGNED, d by its sign", s.least(1, 0, 255, 1), 5);
        dueSteps("by -1", s, 5, 7, 0, 0);
        says(19, "NONE: no form is RIGHT (it was looked).");
        DivideSmith t = new DivideSmith();
        for (int most = 1; most <= 3; most++) {
            due("by 7", t.least(0, 0, 7, most), NONE);
            due("looked", t.count(2), most);
        }
        due("no form", t.count(0), 0);
        due("no act", t.count(1), 0);
    }

    private void leastRefused() {
        says(19, "BAD: most is not 1 .. 3;");
        DivideSmith s = new DivideSmith();
        for (int most : new int[] {LOWEST, -1, 0, 4, 5, GREATEST}) due("most " + most, s.least(0, 0, 1, most), BAD);
        due("it was not looked", s.count(2), 0);
        for (int most = 1; most <= 3; most++) due("most " + most, s.least(0, 0, 1, most), most - 1);
        says(19, "as make() with width 8.");
        DivideSmith t = new DivideSmith();
        for (int signed : new int[] {LOWEST, -1, 2, GREATEST}) due("signed " + signed, t.least(signed, 0, 1, 1), BAD);
        for (int wish : new int[] {LOWEST, -1, 6, GREATEST}) due("wish " + wish, t.least(0, wish, 1, 1), BAD);
        for (int asking = 0; asking < 12; asking++) {
            due("d 0", t.least(asking / 6, asking % 6, 0, 1), BAD);
            due("d 2^8", t.least(asking / 6, asking % 6, 256, 1), BAD);
        }
        for (int wish : new int[] {1, 3}) {
            due("SIGNED, d -1", t.least(1, wish, -1, 1), BAD);
            due("SIGNED, d -128", t.least(1, wish, 128, 1), BAD);
            due("SIGNED, d 200 is below 0 at width 8", t.least(1, wish, 200, 1), BAD);
        }
        due("it was not looked", t.count(2), 0);
        due("SIGNED, d 127", t.least(1, 1, 127, 1), NONE);
        due("PLAIN, d 200", t.least(0, 1, 200, 1), NONE);
        due("looked", t.count(2), 2);
    }

    private void leastFull() {
        says(19, "FULL: there are 60 forms, or it was looked 12 times.");
        DivideSmith full = withForms(60, 8);
        due("60 forms", full.least(0, 0, 1, 1), FULL);
        due("60 forms, none would be RIGHT", full.least(0, 0, 7, 1), FULL);
        due("it was not looked", full.count(2), 0);
        due("BAD most comes first", full.least(0, 0, 1, 4), BAD);
        due("BAD d comes first", full.least(0, 0, 0, 1), BAD);
        due("the 60th", withForms(59, 8).least(0, 0, 1, 1), 59);
        DivideSmith looked = new DivideSmith();
        for (int i = 0; i < 12; i++) looked.least(0, 0, 7, 1);
        due("12 times", looked.least(0, 0, 1, 1), FULL);
        due("12 times, none would be RIGHT", looked.least(0, 0, 7, 1), FULL);
        due("BAD wish comes first", looked.least(0, 6, 1, 1), BAD);
        due("BAD most comes first", looked.least(0, 0, 1, 0), BAD);
        due("looked", looked.count(2), 12);
        due("forms", looked.count(0), 0);
    }

    private void counts() {
        says(20, "How many: 0 forms, 1 acts that can be undone, 2 how often LEAST was looked for.");
        DivideSmith s = new DivideSmith();
        for (int what = 0; what < 3; what++) due("of a new object", s.count(what), 0);
        s.form(8);
        s.tell(0, 1);
        s.least(0, 0, 7, 1);
        due("count(0)", s.count(0), 1);
        due("count(1)", s.count(1), 2);
        due("count(2)", s.count(2), 1);
        DivideSmith full = withForms(60, 8);
        due("60 forms", full.count(0), 60);
        due("acts of 60", full.count(1), 50);
        says(20, "BAD: another what.");
        for (int what : new int[] {LOWEST, -1, 3, 4, GREATEST}) due("count(" + what + ")", s.count(what), BAD);
    }

    private void undo() {
        says(21, "The latest act that can be undone is undone: how many are left.");
        DivideSmith s = new DivideSmith();
        for (int i = 1; i <= 50; i++) s.tell(0, i);
        for (int left = 49; left >= 0; left--) due("undo()", s.undo(), left);
        due("all were undone", s.tell(0, 9), 0);
        DivideSmith t = telling(1, 2);
        t.undo();
        due("the latest one went", t.tell(1, 0), 0);
        due("the one ahead stayed", t.tell(0, 0), 1);
        says(21, "BAD: there is none.");
        due("of a new object", new DivideSmith().undo(), BAD);
        DivideSmith u = telling(5);
        u.undo();
        due("after the last", u.undo(), BAD);
        due("and again", u.undo(), BAD);
        due("count(1)", u.count(1), 0);
        DivideSmith v = withForms(2, 8);
        v.drop();
        v.drop();
        due("after all were dropped", v.undo(), BAD);
        says(21, "(How often LEAST was looked for stays.)");
        DivideSmith w = new DivideSmith();
        for (int i = 0; i < 12; i++) {
            w.least(0, 0, 1, 1);
            due("undo", w.undo(), 0);
            due("looked", w.count(2), i + 1);
        }
        due("the 13th", w.least(0, 0, 1, 1), FULL);
    }

    private void undoneForms() {
        says(TERMS, "Acts that can be UNDONE: form, make, least (if it finds one: the form goes), step (the step goes),");
        for (int made = 0; made < 3; made++) {
            DivideSmith s = withForms(1, 8);
            due("the act", made == 0 ? s.form(16) : made == 1 ? s.make(16, 0, 0, 7) : s.least(0, 0, 1, 1), 1);
            due("undo", s.undo(), 1);
            due("the form is gone", s.steps(1), BAD);
            due("forms", s.count(0), 1);
            due("the next has its number", s.form(32), 1);
            due("and no steps", s.steps(1), 0);
            due("and its width", s.width(1), 32);
        }
        DivideSmith none = withForms(1, 8);
        due("least that finds none", none.least(0, 0, 7, 1), NONE);
        due("is no act", none.count(1), 1);
        DivideSmith s = withSteps(8, 7, 0, 1, 7, 1, 2);
        due("undo", s.undo(), 2);
        dueSteps("the step is gone", s, 0, 7, 0, 1);
        due("its operand, too", s.step(0, 7, 2, 0), BAD);
        due("another in its place", s.step(0, 9, 1, 3), 1);
        dueSteps("another in its place", s, 0, 7, 0, 1, 9, 1, 3);
        s.make(8, 0, 2, 8);
        s.step(1, 7, 1, 0);
        due("a step on what make made", s.undo(), 4);
        dueSteps("make's own stay", s, 1, 9, 0, 7);
    }

    private void undoneSettings() {
        says(TERMS, "price, tell, hook, and use that changes a row;");
        DivideSmith s = withMade(5, 6);
        s.price(7, 50);
        s.price(7, 2);
        due("cost", s.cost(0), 4);
        due("undo price", s.undo(), 4);
        due("cost", s.cost(0), 100);
        due("undo price", s.undo(), 3);
        due("cost", s.cost(0), 2);
        s.tell(3, Long.MIN_VALUE);
        s.tell(3, 4);
        due("undo tell", s.undo(), 4);
        due("the number", s.tell(3, 9), Long.MIN_VALUE);
        due("undo tell", s.undo(), 4);
        due("undo tell", s.undo(), 3);
        s.hook(7, 2, 0, 2);
        s.use(7, 6, 0, 77);
        s.use(7, 6, 0, 78);
        s.hook(7, 1, 0, 0);
        s.hook(7, 0, 0, 0);
        due("acts", s.count(1), 8);
        due("undo hook", s.undo(), 7);
        due("the step", s.use(7, 0, 0, 0), 7);
        due("undo hook", s.undo(), 6);
        due("the row as it was changed", s.use(7, 2, 0, 0), 78);
        due("undo use", s.undo(), 5);
        due("the row", s.use(7, 2, 0, 0), 77);
        due("undo use", s.undo(), 4);
        due("the row as it was made", s.use(7, 2, 0, 0), 5);
        due("its other place", s.use(7, 2, 1, 0), 6);
        due("undo hook", s.undo(), 3);
        due("NOTHING", s.held(7), 0);
    }

    private void latest50() {
        says(TERMS, "the latest 50 that were carried out and not undone.");
        DivideSmith s = new DivideSmith();
        for (int i = 1; i <= 49; i++) s.tell(0, i);
        due("49", s.count(1), 49);
        s.tell(0, 50);
        due("50", s.count(1), 50);
        s.tell(0, 51);
        due("51", s.count(1), 50);
        for (int left = 49; left >= 0; left--) due("undo()", s.undo(), left);
        due("the 51st from the end", s.undo(), BAD);
        due("the first stays", s.tell(0, 0), 1);
        DivideSmith t = new DivideSmith();
        for (int i = 1; i <= 50; i++) t.tell(0, i);
        for (int i = 0; i < 20; i++) t.undo();
        for (int i = 0; i < 20; i++) t.tell(0, 100 + i);
        due("what was undone counts no more", t.count(1), 50);
        for (int left = 49; left >= 0; left--) due("undo()", t.undo(), left);
        due("all", t.tell(0, 0), 0);
        DivideSmith u = new DivideSmith();
        for (int i = 0; i < 200; i++) u.price(i % 13, 1 + i % 50);
        for (int left = 49; left >= 0; left--) due("of 200 prices", u.undo(), left);
        due("the 150th stays", u.price(149 % 13, 1), 1 + 149 % 50);
    }

    /** Acts of each kind fall out alike; what they did stays, and can still be worked with. */
    private void fallenOut() {
        says(TERMS, "the latest 50 that were carried out and not undone.");
        DivideSmith s = withSteps(8, 7, 0, 1);
        s.hook(0, 2, 0, 1);
        s.use(0, 6, 0, 5);
        for (int i = 0; i < 50; i++) s.tell(0, i);
        for (int i = 0; i < 50; i++) s.undo();
        due("undo", s.undo(), BAD);
        due("the form", s.count(0), 1);
        due("the step", s.steps(0), 1);
        due("the hook", s.held(0), 2);
        due("the row", s.use(0, 2, 0, 0), 5);
        s.step(0, 7, 0, 2);
        due("a new step on it", s.undo(), 0);
        due("steps", s.steps(0), 1);
        due("drop", s.drop(), 0);
        due("undo", s.undo(), BAD);
    }

    private void notActs() {
        says(TERMS, "Answers, of several the one named first: BAD (-1): there is no such thing, or a number is not as said; "
            + "FULL (-2); NONE (-3): as the call says.");
        due("BAD", DivideSmith.BAD, BAD);
        due("FULL", DivideSmith.FULL, FULL);
        due("NONE", DivideSmith.NONE, NONE);
        DivideSmith s = withForms(60, 8);
        for (int k = 0; k < 12; k++) s.step(0, 7, 0, 0);
        due("form: FULL", s.form(8), FULL);
        due("form: BAD and FULL", s.form(0), BAD);
        due("step: FULL", s.step(0, 7, 0, 0), FULL);
        due("step: BAD and FULL", s.step(0, 7, 13, 0), BAD);
        due("make: BAD and FULL", s.make(8, 1, 3, -1), BAD);
        due("least: FULL and NONE", s.least(0, 0, 7, 3), FULL);
        due("least: BAD, FULL and NONE", s.least(0, 0, 7, 4), BAD);
        due("use: BAD and NOTHING", s.use(0, 9, 101, 0), BAD);
        due("use: BAD and NOTHING", s.use(0, 11, 0, 0), BAD);
    }

    private void names() {
        saysOnly(TERMS, "Ahead of the calls `steps`, `told`, `width`, `cost`, `price`, `run`, `end`, `fails`, `plain` "
            + "the interface says: ---- what forms are.");
        saysOnly(TERMS, "Ahead of the calls `proof`, `check`, `inverse` the interface says: ---- proofs.");
        saysOnly(TERMS, "Ahead of the calls `tell`, `least`, `count`, `undo` the interface says: ---- the cheapest.");
        saysOnly(TERMS, "Ahead of the calls `hook`, `held`, `use` the interface says: ---- hooks.");
    }
}
