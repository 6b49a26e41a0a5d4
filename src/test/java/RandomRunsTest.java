/** All promises: long runs of calls, the same ones on HeadDots and on the model. */
public final class RandomRunsTest {
    private static final int RUNS = 120;
    /** What an object answers behind so many calls is free. */
    private static final int CALLS = 512;
    /** A round is a change, of at most 60 characters and 3 calls, 10 looks and a digest. */
    private static final int CALLS_OF_A_ROUND = 74;
    private static final String[] TEXTS = {
        "line00ff0f", "line00ff0f*20", "line123456*3", "lineffffff*19", "empty", "rest1", "rest999",
        "paper:plain", "paper:fine", "paper:label", "line0000f*", "lineabcdeg", "rest0", "rest1000",
        "rest", "line000001*0", "line000001*21", "line000001*30", "paper", "paper:blank", "emptyy",
        "lin", "e", "paper:lab", "rest12a", "LINE000000", "line00FF00", "line000001*", "", "l;",
    };

    private long seed;
    private int calls;

    private int roll(int below) {
        seed = seed * 6364136223846793005L + 1442695040888963407L;
        return (int) ((seed >>> 33) % below);
    }

    private int anyDots() {
        switch (roll(8)) {
            case 0: return 16777215;
            case 1: return 0;
            case 2: return 1 << roll(24);
            case 3: return roll(2) == 0 ? 5592405 : 11184810;
            case 4: return 7 << roll(22);
            case 5: return roll(6) == 0 ? (roll(2) == 0 ? -1 : 16777216) : 65535;
            default: return roll(16777216);
        }
    }

    private int anySetting(int setting) {
        int[][] range = {{50, 300}, {5, 200}, {330, 900}, {1, 20}, {1, 200}, {0, 1}, {0, 50}};
        if (setting < 0 || setting > 6) {
            return 100;
        }
        int least = range[setting][0];
        int most = range[setting][1];
        switch (roll(6)) {
            case 0: return least - roll(2);
            case 1: return most + roll(2);
            default: return least + roll(most - least + 1);
        }
    }

    private void same(String what, Check.Call model, Check.Call head) {
        calls++;
        Check.dueText(what, Check.outcome(model), Check.outcome(head));
    }

    private void type(Model model, HeadDots head) {
        StringBuilder text = new StringBuilder();
        for (int parts = 1 + roll(4); parts > 0; parts--) {
            int likely = roll(4) == 0 ? TEXTS.length : 10;
            text.append(TEXTS[roll(likely)]);
            if (parts > 1) {
                text.append(roll(12) == 0 ? "," : ";");
            }
        }
        for (int i = 0; i < text.length(); i++) {
            int code = text.charAt(i);
            same("append " + code, () -> model.append(code), () -> head.append(code));
        }
        same("firstError of " + text, model::firstError, head::firstError);
        if (roll(3) > 0) {
            same("print of " + text, model::print, head::print);
        }
        if (roll(3) > 0) {
            same("clearBuffer", model::clearBuffer, head::clearBuffer);
        }
    }

    private void change(Model model, HeadDots head) {
        int dots = anyDots();
        int times = roll(23) - 1;
        int time = roll(4) == 0 ? roll(1003) - 1 : 1 + roll(30);
        int paper = roll(5) - 1;
        int setting = roll(9) - 1;
        int value = anySetting(setting);
        switch (roll(12)) {
            case 0: case 1: case 2:
                same("line " + dots, () -> model.line(dots), () -> head.line(dots));
                break;
            case 3: case 4:
                same("lines " + dots + " " + times, () -> model.lines(dots, times),
                    () -> head.lines(dots, times));
                break;
            case 5:
                same("rest " + time, () -> model.rest(time), () -> head.rest(time));
                break;
            case 6:
                same("paper " + paper, () -> model.paper(paper), () -> head.paper(paper));
                break;
            case 7: case 8:
                same("set " + setting + " " + value, () -> model.set(setting, value),
                    () -> head.set(setting, value));
                break;
            case 9:
                type(model, head);
                break;
            case 10:
                same("undo", model::undo, head::undo);
                break;
            default:
                if (roll(2) == 0) {
                    same("keep", model::keep, head::keep);
                } else {
                    same("restore", model::restore, head::restore);
                }
        }
    }

    private void look(Model model, HeadDots head) {
        int back = roll(14) - 1;
        int index = roll(50) - 1;
        int dot = roll(26) - 1;
        int what = roll(21) - 1;
        int small = roll(9) - 1;
        int dots = anyDots();
        int heat = roll(903) - 1;
        same("told " + back + " " + index, () -> model.told(back, index), () -> head.told(back, index));
        same("kept " + back + " " + small, () -> model.kept(back, small), () -> head.kept(back, small));
        same("dot " + dot + " " + small, () -> model.dot(dot, small), () -> head.dot(dot, small));
        same("count " + what, () -> model.count(what), () -> head.count(what));
        same("ifPrinted " + dots + " " + small, () -> model.ifPrinted(dots, small),
            () -> head.ifPrinted(dots, small));
        same("betterWay " + dots, () -> model.betterWay(dots), () -> head.betterWay(dots));
        same("coolIn " + heat, () -> model.coolIn(heat), () -> head.coolIn(heat));
        same("darkFrom " + dot, () -> model.darkFrom(dot), () -> head.darkFrom(dot));
        calls += 2;
        Check.dueDouble("darkness", model.darkness(), head.darkness());
        Check.dueFloat("meanHeat", model.meanHeat(), head.meanHeat());
    }

    private void run(int number) {
        seed = 7919L * number + 1;
        Model model = new Model();
        HeadDots head = new HeadDots();
        calls = 0;
        while (calls + CALLS_OF_A_ROUND <= CALLS) {
            change(model, head);
            look(model, head);
            calls++;
            Check.due("run " + number + ", digest", model.digest(), head.digest());
        }
    }

    public static void main(String[] args) {
        RandomRunsTest test = new RandomRunsTest();
        for (int number = 0; number < RUNS; number++) {
            test.run(number);
        }
        Check.end();
    }
}
