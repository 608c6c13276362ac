import java.util.function.Supplier;
import java.util.function.ToLongFunction;

/**
 * What the edge tests share: a tally, and twins. Two objects are made alike, one of them gets a
 * call more; then both are asked for all that can be asked. So it is seen that the call changed
 * nothing, also where no call tells it at once (bytes on THE TAPE, CELLS, what IMAGES hold).
 */
final class Twins {
    static final int BAD = -1, STATE = -2, FULL = -3, NONE = -4;
    static final int MIN = Integer.MIN_VALUE, MAX = Integer.MAX_VALUE;
    /** An object has 512 calls: so many are left for how it is made. */
    private static final int MOST_CALLS = 200;

    private final String test;
    private int wrong = 0, made = 0;

    Twins(String test) {
        this.test = test;
    }

    void due(String what, long got, long want) {
        made++;
        if (got != want) {
            wrong++;
            System.out.println(test + ": " + what + " answered " + got + ", due is " + want);
        }
    }

    void end() {
        System.out.println(test + ": " + made + " answers, " + wrong + " not as due");
        if (wrong != 0 || made == 0) System.exit(1);
    }

    static void put(YesterStreet x, String text) {
        for (char c : text.toCharArray()) x.feed(c);
    }

    /**
     * An object where something of each kind is: RULES, a ONE at HOME, a NOTE of TODAY that is STOPPED,
     * DAYS gone, two SEEN, one IMAGE, SHEETS of each lane, bytes on THE TAPE, a FAULT of a text and of a read.
     */
    static YesterStreet rich() {
        YesterStreet x = new YesterStreet();
        put(x, "street 4 3;rule 0 0 not 1;rule 1 1 not 0;rule 2 2 0 not 3;rule 0 2 1;home 2;today 1;worth 0 5;debt 1 9;");
        x.text();
        x.see(0, false);
        x.see(2, true);
        x.day(2);
        x.keep(1);
        x.day(1);
        x.pay(3, 7);
        x.need(3, 3, true);
        x.write(0, true);
        x.write(1, false);
        x.write(2, false);
        x.write(3, true);
        x.stop(3, true);
        x.sheet(1, 0, 6);
        x.sheet(2, 1, 5);
        x.sheet(3, 2, 0);
        int[] cells = {0, 1, 1, 1, 2, 5};
        for (int i = 0; i < 6; i++) x.lay(1, i, cells[i]);
        x.lay(2, 0, 2);
        x.lay(2, 1, 1);
        x.read(2, 1, 4, 1);
        put(x, "stop 6;");
        x.text();
        put(x, "stop 1;today 2;rule 1 0;");
        return x;
    }

    /** A new object that was told by a text; the text has to be taken. */
    YesterStreet told(String text) {
        YesterStreet x = new YesterStreet();
        put(x, text);
        int lines = x.text();
        due("text() of '" + text + "'", lines, text.chars().filter(c -> c == ';').count());
        return x;
    }

    /** The call answers so and changes nothing. */
    void same(String name, Supplier<YesterStreet> recipe, ToLongFunction<YesterStreet> call, long want) {
        for (Probe probe : Probe.values()) {
            YesterStreet touched = recipe.get();
            due(name, call.applyAsLong(touched), want);
            String after = probe.ask(touched);
            String plain = probe.ask(recipe.get());
            made++;
            if (!after.equals(plain)) {
                wrong++;
                System.out.println(test + ": " + name + " changed something, by " + probe + ": " + after + ", was " + plain);
            }
        }
    }

    /** Each of these numbers is refused as BAD, and changes nothing. */
    void bad(String name, Supplier<YesterStreet> recipe, IntCall call, int... numbers) {
        for (int number : numbers) {
            same(name.replace("#", "" + number), recipe, x -> call.of(x, number), BAD);
        }
    }

    interface IntCall {
        long of(YesterStreet x, int number);
    }

    /** What can be asked; some of it changes the object, so each is asked of an object of its own. */
    enum Probe {
        PLAIN {
            @Override void go(Talk t) {
                t.state();
                for (int i = 0; i < 5; i++) t.say(t.x.days(i));
                for (int i = 0; i < 1 << Math.max(0, t.x.rule(0)); i++) t.say(t.x.brings(i));
            }
        },
        SEEN {
            @Override void go(Talk t) {
                for (int n = t.x.count(0); n >= 0; n--) {
                    t.say(t.x.forget(n));
                    for (int i = 0; i < 4; i++) t.say(t.x.fits(i));
                }
                for (int n = 0; n < 9; n++) t.say(t.x.see(0, true));
            }
        },
        IMAGES {
            @Override void go(Talk t) {
                for (int k = 0; k < 2; k++) {
                    t.say(t.x.back(k));
                    t.state();
                }
            }
        },
        SHEETS {
            @Override void go(Talk t) {
                for (int k = 0; k < 4; k++) {
                    for (int lane = 0; lane < 3; lane++) {
                        for (int f = 0; f < 5; f++) {
                            t.say(t.x.read(k, lane, f, 1));
                            t.say(t.x.rule(5));
                        }
                        t.say(t.x.torn());
                    }
                    for (int i = 0; i < 8; i++) t.say(t.x.lay(k, i, 0));
                }
            }
        },
        TAPE {
            @Override void go(Talk t) {
                t.say(t.x.text());
                t.say(t.x.fault());
                t.state();
            }
        };

        abstract void go(Talk t);

        String ask(YesterStreet x) {
            Talk talk = new Talk(x);
            go(talk);
            if (talk.calls > MOST_CALLS) throw new IllegalStateException(this + " asks too often");
            return talk.story.toString();
        }
    }

    private static final class Talk {
        final YesterStreet x;
        final StringBuilder story = new StringBuilder();
        int calls = 0;

        Talk(YesterStreet x) {
            this.x = x;
        }

        void say(long answer) {
            calls++;
            story.append(answer).append(' ');
        }

        void state() {
            for (int i = 0; i < 7; i++) say(x.rule(i));
            for (int n = 0; n < 6; n++) say(x.worth(n));
            for (int k = 0; k < 8; k++) for (int i = 0; i < 5; i++) say(x.law(k, i));
            for (int i = 0; i < 6; i++) say(x.count(i));
            say(x.fault());
            say(x.torn());
        }
    }
}
