/** What is refused, or only asked, changes nothing; what is undone leaves nothing behind. */
final class StateEdges extends Edges {
    private static final int CALLS = 67;

    StateEdges(Sentences sentences) {
        super(sentences);
    }

    @Override
    void all() {
        refusals();
        fullForms();
        undone();
        ownMemory();
    }

    /** A form with one step of each KIND, whose costs show the prices; rows and steps in hooks; told numbers. */
    private static DivideSmith sample() {
        DivideSmith s = new DivideSmith();
        for (int kind = 0; kind < 13; kind++) {
            s.form(WIDTHS[kind % 4]);
            s.step(kind, kind, 0, 0);
        }
        for (int h = 1; h < 6; h++) s.hook(h, h, 3, h == 1 ? 0 : 1);
        s.use(2, 6, 0, 77);
        s.price(3, 8);
        for (int place = 0; place < 4; place++) s.tell(place, 1000 + place);
        return s;
    }

    /** All that can be asked of an object without changing it. */
    private static String state(DivideSmith s) {
        StringBuilder sb = new StringBuilder();
        for (int what = 0; what < 3; what++) sb.append(s.count(what)).append(' ');
        for (int f = 0; f < 14; f++) {
            sb.append("; ").append(s.width(f)).append(' ').append(s.steps(f)).append(' ').append(s.cost(f));
            for (int what = 0; what < 3; what++) sb.append(' ').append(s.told(f, 0, what));
            sb.append(' ').append(s.run(f, -3));
        }
        for (int h = 0; h < 8; h++) {
            sb.append("; ").append(s.held(h)).append(' ').append(s.use(h, 0, 0, 0)).append(' ').append(s.use(h, 1, 0, 0));
            for (int how = 2; how < 6; how++) sb.append(' ').append(s.use(h, how, 0, 0));
        }
        return sb.toString();
    }

    /** Call i: refused, or one that only asks; each must leave the sample as it is. */
    private static long call(DivideSmith s, int i) {
        switch (i) {
            case 0: return s.form(9);
            case 1: return s.step(13, 0, 0, 0);
            case 2: return s.step(0, 13, 0, 0);
            case 3: return s.step(0, 0, 2, 0);
            case 4: return s.step(0, 5, 0, 2);
            case 5: return s.step(0, 0, 0, 8);
            case 6: return s.make(9, 0, 0, 3);
            case 7: return s.make(8, 2, 0, 3);
            case 8: return s.make(8, 0, 6, 3);
            case 9: return s.make(8, 0, 0, 256);
            case 10: return s.make(8, 1, 1, -3);
            case 11: return s.steps(13);
            case 12: return s.told(0, 1, 0);
            case 13: return s.width(-1);
            case 14: return s.cost(13);
            case 15: return s.price(13, 1);
            case 16: return s.price(0, 51);
            case 17: return s.price(0, 0);
            case 18: return s.run(13, 1);
            case 19: return s.end(0, 1, 1);
            case 20: return s.end(0, 1, 0);
            case 21: return s.fails(2, 0, 0, 1);
            case 22: return s.fails(0, 0, 0, 0);
            case 23: return s.fails(0, 0, 0, 7);
            case 24: return s.fails(1, 1, 1, 7);
            case 25: return s.plain(8, 0, 0, 0, 1);
            case 26: return s.plain(8, 0, 0, 7, 100);
            case 27: return s.proof(8, 0, 0);
            case 28: return s.proof(8, 7, 1);
            case 29: return s.check(8, 7, 9, 1, 1);
            case 30: return s.check(8, 7, 3, 37, 1);
            case 31: return s.inverse(8, 2);
            case 32: return s.inverse(64, 3);
            default: return lateCall(s, i);
        }
    }

    private static long lateCall(DivideSmith s, int i) {
        switch (i) {
            case 33: return s.tell(4, 1);
            case 34: return s.tell(-1, 1);
            case 35: return s.least(0, 0, 1, 0);
            case 36: return s.least(0, 0, 1, 4);
            case 37: return s.least(0, 6, 1, 1);
            case 38: return s.least(2, 0, 1, 1);
            case 39: return s.least(0, 0, 256, 1);
            case 40: return s.least(1, 3, 200, 1);
            case 41: return s.count(3);
            case 42: return s.count(1);
            case 43: return s.hook(8, 0, 0, 0);
            case 44: return s.hook(2, 6, 0, 0);
            case 45: return s.hook(2, 1, 13, 0);
            case 46: return s.hook(2, 1, 0, 1);
            case 47: return s.hook(2, 2, 0, 2);
            case 48: return s.hook(2, 3, 0, -1);
            case 49: return s.held(8);
            case 50: return s.held(2);
            case 51: return s.use(8, 0, 0, 0);
            case 52: return s.use(2, 11, 0, 0);
            case 53: return s.use(2, 9, 101, 0);
            case 54: return s.use(0, 6, 0, 1);
            case 55: return s.use(3, 6, 0, 1);
            case 56: return s.use(2, 6, 1, 1);
            case 57: return s.use(2, 6, -1, 1);
            case 58: return s.use(2, 7, 0, 0);
            case 59: return s.use(2, 7, 0, 1);
            case 60: return s.use(3, 8, 0, 0);
            case 61: return s.use(2, 9, 50, 1);
            case 62: return s.use(2, 9, -1, 1);
            case 63: return s.use(2, 9, 0, 1);
            case 64: return s.use(2, 10, 0, 0);
            case 65: return s.use(0, 10, 0, 0);
            default: return s.use(1, 1, 0, 0);
        }
    }

    private void refusals() {
        says(TERMS, "What is answered so changes nothing.");
        String before = state(sample());
        for (int i = 0; i < CALLS; i++) {
            DivideSmith s = sample();
            call(s, i);
            due("the state after call " + i + " is the one before", state(s).equals(before) ? 1 : 0, 1);
            due("the latest act is the same after call " + i, s.undo(), 36);
            due("it was the telling of place 3", s.tell(3, 1), 0);
            for (int place = 0; place < 3; place++) due("told number after call " + i, s.tell(place, 0), 1000 + place);
        }
        DivideSmith s = sample();
        due("NONE", s.least(0, 0, 7, 1), NONE);
        due("but for that it was looked", s.count(2), 1);
        due("NONE", state(s).equals(before.replaceFirst("^13 37 0 ", "13 37 1 ")) ? 1 : 0, 1);
    }

    private void fullForms() {
        says(TERMS, "What is answered so changes nothing.");
        DivideSmith s = withForms(48, 16);
        for (int k = 0; k < 12; k++) s.step(47, 7, k, k);
        for (int f = 48; f < 60; f++) s.form(16);
        due("form", s.form(8), FULL);
        due("make", s.make(8, 0, 0, 3), FULL);
        due("least", s.least(0, 0, 1, 1), FULL);
        due("step", s.step(47, 7, 0, 0), FULL);
        due("forms", s.count(0), 60);
        due("acts", s.count(1), 50);
        due("looked", s.count(2), 0);
        due("steps", s.steps(47), 12);
        due("the last step", s.told(47, 11, 2), 11);
        due("the last form", s.width(59), 16);
        due("its steps", s.steps(59), 0);
        due("undo of the last form", s.undo(), 49);
        due("forms", s.count(0), 59);
    }

    /** Act i of each kind that can be undone. */
    private static long act(DivideSmith s, int i) {
        switch (i) {
            case 0: return s.form(64);
            case 1: return s.make(16, 1, 3, 7);
            case 2: return s.least(0, 0, 1, 3);
            case 3: return s.step(0, 7, 1, 3);
            case 4: return s.step(12, 4, 0, -1);
            case 5: return s.price(3, 50);
            case 6: return s.price(12, 2);
            case 7: return s.tell(0, 9);
            case 8: return s.tell(3, -9);
            case 9: return s.hook(0, 1, 4, 0);
            case 10: return s.hook(2, 2, 7, 1);
            case 11: return s.hook(5, 0, 0, 0);
            case 12: return s.use(2, 6, 0, -5);
            default: return s.use(2, 6, 0, 77);
        }
    }

    private static final int ACTS = 14;

    private void undone() {
        says(21, "The latest act that can be undone is undone: how many are left.");
        for (int i = 0; i < ACTS; i++) {
            DivideSmith s = sample();
            s.tell(0, 3);
            s.tell(2, 0);
            String before = state(s);
            act(s, i);
            due("act " + i + " is one", s.count(1), 40);
            due("undo of act " + i, s.undo(), 39);
            String after = state(s).replaceFirst("^13 39 1 ", "13 39 0 ");
            due("the state after act " + i + " and its undo is the one before", after.equals(before) ? 1 : 0, 1);
            for (int place = 0; place < 4; place++) {
                due("told number " + place, s.tell(place, 7), place == 0 ? 3 : place == 2 ? 0 : 1000 + place);
            }
        }
        DivideSmith s = sample();
        String before = state(s);
        for (int i = 0; i < ACTS - 1; i++) act(s, i);
        for (int left = 49; left >= 37; left--) due("undo of all acts in turn", s.undo(), left);
        due("the state after all were undone", state(s).replaceFirst("^13 37 1 ", "13 37 0 ").equals(before) ? 1 : 0, 1);
    }

    private void ownMemory() {
        says(TERMS, "All memory is the class's own.");
        DivideSmith one = sample();
        DivideSmith other = new DivideSmith();
        due("forms", other.count(0), 0);
        due("acts", other.count(1), 0);
        due("hooks", other.held(2), 0);
        due("prices", other.price(3, 9), 4);
        due("told numbers", other.tell(0, 9), 0);
        other.form(64);
        other.hook(2, 0, 0, 0);
        due("the first object", state(one).equals(state(sample())) ? 1 : 0, 1);
    }
}
