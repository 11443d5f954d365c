/** Runs of calls that look random, and are the same each time, on SundialSpans and on Model side by side. */
final class ModelTest {
    private static final int RUNS = 350, CALLS = 490, KINDS = 23;
    private static final int[] EXTREMES = {
        Integer.MIN_VALUE, -100000, -99999, -1, 0, 1, 14, 15, 16, 60, 61, 300, 301, 1440, 1441, 9999, 10000, 299999, 300000,
        Integer.MAX_VALUE};
    private static final String[] PIECES = {
        "d", ";", "a", "t", "r", "=", "~", "0", "1", "9", "60", "d;d;", "r0=600", "r1=60", "~5", ";a", ";a;a", "t60", "t1440",
        ";r2=620", ";r3=9", ";r4=8", "x", ";d"};

    private final Check check = new Check("model");
    private final int style;
    private final int run;
    private long seed;
    private int calls;
    private final SundialSpans court = new SundialSpans();
    private final Model model = new Model();

    private ModelTest(int run) {
        this.run = run;
        this.seed = 7919L * run + 1;
        this.style = run % 6;
    }

    public static void main(String[] args) {
        for (int run = 0; run < RUNS; run++) {
            ModelTest test = new ModelTest(run);
            test.startWithDials();
            while (test.calls < CALLS) {
                test.callOnBoth();
            }
            test.check.end();
        }
    }

    private void startWithDials() {
        int often = 1 + below(20);
        due("set(1, " + often + ")", court.set(1, often), model.set(1, often));
        for (int dials = below(16); dials > 0; dials--) {
            due("dial()", court.dial(), model.dial());
        }
    }

    private int below(int bound) {
        seed = seed * 6364136223846793005L + 1442695040888963407L;
        return (int) ((seed >>> 33) % bound);
    }

    /** Mostly a number from low to high, seldom one of the extremes. */
    private int pick(int low, int high) {
        return below(40) == 0 ? EXTREMES[below(EXTREMES.length)] : low + below(high - low + 1);
    }

    private void due(String call, long got, long want) {
        calls++;
        check.due("run " + run + ": " + call, got, want);
    }

    private void callOnBoth() {
        int kind = below(KINDS + 8);
        if (kind < 5 || kind >= KINDS) {
            change(kind < KINDS ? kind : 2 + below(3));
        } else if (kind < 12) {
            ask(kind);
        } else if (kind < 16) {
            askWhatIf(kind);
        } else if (kind < 20) {
            text(kind);
        } else {
            takeBack(kind);
        }
    }

    private void change(int kind) {
        if (kind == 0) {
            int setting = pick(0, 1);
            int value = setting == 0 ? pick(0, style == 3 ? 60 : 4) : pick(1, 20);
            due("set(" + setting + ", " + value + ")", court.set(setting, value), model.set(setting, value));
        } else if (kind == 1) {
            due("dial()", court.dial(), model.dial());
        } else if (kind == 2) {
            int dial = pick(0, style < 2 ? 4 : 14);
            int time = style % 2 == 0 ? pick(590, 640) : style == 1 ? pick(0, 9999) : pick(0, 30);
            int doubt = style == 5 ? pick(0, 300) : pick(0, 12);
            due("read(" + dial + ", " + time + ", " + doubt + ")", court.read(dial, time, doubt), model.read(dial, time, doubt));
        } else if (kind == 3) {
            int minutes = style < 3 ? pick(1, 90) : pick(1, 1440);
            due("pass(" + minutes + ")", court.pass(minutes), model.pass(minutes));
        } else {
            due("agree()", court.agree(), model.agree());
        }
    }

    private void ask(int kind) {
        int what = pick(0, 4);
        if (kind == 5) {
            int dial = pick(0, 14);
            int about = pick(0, 6);
            due("of(" + dial + ", " + about + ")", court.of(dial, about), model.of(dial, about));
        } else if (kind == 6) {
            due("best(" + what + ")", court.best(what), model.best(what));
        } else if (kind == 7) {
            int rank = pick(0, 12);
            due("end(" + rank + ", " + what + ")", court.end(rank, what), model.end(rank, what));
        } else if (kind == 8) {
            int low = model.best(1);
            int time = low > 0 ? low - 100000 + pick(-30, 30) : pick(-300, 20000);
            due("overlap(" + time + ")", court.overlap(time), model.overlap(time));
        } else if (kind == 9) {
            int number = pick(0, 9);
            due("count(" + number + ")", court.count(number), model.count(number));
        } else if (kind == 10) {
            due("mean()", court.mean(), model.mean());
        } else {
            due("share()", court.share(), model.share());
        }
    }

    private void askWhatIf(int kind) {
        if (kind == 12) {
            int liars = pick(0, 14);
            int what = pick(0, 1);
            due("allowing(" + liars + ", " + what + ")", court.allowing(liars, what), model.allowing(liars, what));
        } else if (kind == 13) {
            due("fewest()", court.fewest(), model.fewest());
        } else if (kind == 14) {
            int many = pick(1, 15);
            due("widerIn(" + many + ")", court.widerIn(many), model.widerIn(many));
        } else {
            int dial = pick(0, 14);
            due("without(" + dial + ")", court.without(dial), model.without(dial));
        }
    }

    private void text(int kind) {
        if (kind == 16 || kind == 17 && below(2) == 0) {
            for (int pieces = below(4); pieces >= 0; pieces--) {
                long characters = below(30) == 0 ? seed : Check.packed(PIECES[below(PIECES.length)]);
                due("put(" + characters + ")", court.put(characters), model.put(characters));
            }
            due("fault()", court.fault(), model.fault());
        } else if (kind == 17) {
            due("wipe()", court.wipe(), model.wipe());
        } else if (kind == 18) {
            due("fault()", court.fault(), model.fault());
        } else {
            if (below(4) > 0) {
                putOrders();
            }
            due("carryOut()", court.carryOut(), model.carryOut());
        }
    }

    /** Puts a right text in place of what the pad holds. */
    private void putOrders() {
        due("wipe()", court.wipe(), model.wipe());
        StringBuilder text = new StringBuilder(order());
        for (int orders = below(10); orders > 0; orders--) {
            text.append(';').append(order());
        }
        for (int from = 0; from < text.length(); from += 8) {
            long characters = Check.packed(text.substring(from, Math.min(text.length(), from + 8)));
            due("put(" + characters + ")", court.put(characters), model.put(characters));
        }
    }

    private String order() {
        int kind = below(10);
        if (kind == 0) {
            return "d";
        }
        if (kind == 1) {
            return "a";
        }
        if (kind < 4) {
            return "t" + (below(15) == 0 ? below(10000) : 1 + below(100));
        }
        String reading = "r" + below(below(8) == 0 ? 16 : 5) + "=" + (below(5) == 0 ? below(10000) : 600 + below(30));
        return kind < 6 ? reading : reading + "~" + (below(15) == 0 ? below(10000) : below(20));
    }

    private void takeBack(int kind) {
        int slot = pick(0, 1);
        if (below(2) == 0) {
            return;
        }
        if (kind == 20) {
            due("undo()", court.undo(), model.undo());
        } else if (kind == 21) {
            due("save(" + slot + ")", court.save(slot), model.save(slot));
        } else {
            due("restore(" + slot + ")", court.restore(slot), model.restore(slot));
        }
    }
}
