import java.util.ArrayDeque;
import java.util.ArrayList;
import java.util.Deque;
import java.util.List;
import java.util.regex.Matcher;
import java.util.regex.Pattern;

/**
 * The document once more, by other means: time goes by the millisecond for all dots at once, texts
 * are read by a pattern, states are copied whole. RandomRunsTest compares it with HeadDots.
 */
final class Model {
    private static final String NUMBER_20 = "(?:1[0-9]|20|[1-9])";
    private static final String PART = "(?:line[0-9a-f]{6}(?:\\*" + NUMBER_20 + ")?"
        + "|paper:(?:plain|fine|label)|rest[1-9][0-9]{0,2}|empty)";
    private static final Pattern TEXT = Pattern.compile(PART + "(?:;" + PART + ")*");
    private static final List<String> PAPERS = List.of("plain", "fine", "label");

    private static final class Line {
        String signs;
        int parts;
    }

    private static final class World {
        int[] heat = new int[24];
        List<Integer> history = new ArrayList<>(List.of(0, 0));
        int[] setting = {120, 40, 500, 8, 100, 0, 5};
        int[] printed = new int[24];
        int[] faint = new int[24];
        int paper;
        int time;
        int lines;
        int parts;
        int waits;
        int hottest;
        List<Line> strip = new ArrayList<>();

        World copy() {
            World w = new World();
            w.heat = heat.clone();
            w.history = new ArrayList<>(history);
            w.setting = setting.clone();
            w.printed = printed.clone();
            w.faint = faint.clone();
            w.paper = paper;
            w.time = time;
            w.lines = lines;
            w.parts = parts;
            w.waits = waits;
            w.hottest = hottest;
            w.strip = new ArrayList<>(strip);
            return w;
        }

        void millisecond() {
            for (int d = 0; d < 24; d++) {
                heat[d] = Math.max(0, heat[d] - (heat[d] / setting[1] + 1));
            }
            time++;
        }

        void pass(int ms) {
            for (int i = 0; i < ms; i++) {
                millisecond();
            }
        }

        int ago(int lines) {
            return history.get(history.size() - lines);
        }

        boolean bit(int dots, int d) {
            return d >= 0 && d < 24 && (dots & (1 << d)) != 0;
        }

        int pulse(int dots, int d) {
            int p = setting[0];
            if (paper == 1) {
                p -= 15;
            }
            if (paper == 2) {
                p += 25;
            }
            if (bit(ago(1), d)) {
                p -= 20;
            }
            if (bit(ago(2), d)) {
                p -= 10;
            }
            if (bit(dots, d - 1)) {
                p -= 5;
            }
            if (bit(dots, d + 1)) {
                p -= 5;
            }
            return p < 20 ? 20 : p;
        }

        List<List<Integer>> parts(int dots) {
            int most = Math.max(1, setting[4] / setting[3]);
            List<Integer> all = new ArrayList<>();
            for (int d = 0; d < 24; d++) {
                if (bit(dots, d)) {
                    all.add(d);
                }
            }
            int many = (int) Math.ceil(all.size() / (double) most);
            List<List<Integer>> result = new ArrayList<>();
            for (int i = 0; i < many; i++) {
                result.add(new ArrayList<>());
            }
            if (setting[5] == 1) {
                for (int i = 0; i < all.size(); i++) {
                    result.get(i % many).add(all.get(i));
                }
            } else {
                int next = 0;
                for (List<Integer> part : result) {
                    while (part.size() < most && next < all.size()) {
                        part.add(all.get(next++));
                    }
                }
            }
            return result;
        }

        boolean fits(List<Integer> part, int dots) {
            for (int d : part) {
                if (heat[d] + pulse(dots, d) > setting[2]) {
                    return false;
                }
            }
            return true;
        }

        boolean dark(int d) {
            return heat[d] >= (paper == 0 ? 110 : paper == 1 ? 90 : 150);
        }

        void line(int dots) {
            char[] signs = "........................".toCharArray();
            List<List<Integer>> all = parts(dots);
            for (List<Integer> part : all) {
                while (!fits(part, dots)) {
                    millisecond();
                    waits++;
                }
                int longest = 0;
                for (int d : part) {
                    int p = pulse(dots, d);
                    heat[d] += p;
                    hottest = Math.max(hottest, heat[d]);
                    longest = Math.max(longest, p);
                    signs[d] = dark(d) ? '#' : '+';
                    printed[d]++;
                    faint[d] += dark(d) ? 0 : 1;
                }
                pass(longest / 10 + 1);
            }
            pass(setting[6]);
            history.add(dots);
            lines++;
            parts += all.size();
            Line line = new Line();
            line.signs = new String(signs);
            line.parts = all.size();
            strip.add(0, line);
            if (strip.size() > 12) {
                strip.remove(12);
            }
        }

        int sum(int[] row) {
            int sum = 0;
            for (int x : row) {
                sum += x;
            }
            return sum;
        }

        int max() {
            int max = 0;
            for (int x : heat) {
                max = Math.max(max, x);
            }
            return max;
        }
    }

    private World w = new World();
    private World snapshot;
    private final Deque<World> saved = new ArrayDeque<>();
    private String buffer = "";

    private void save() {
        saved.addLast(w.copy());
        if (saved.size() > 6) {
            saved.removeFirst();
        }
    }

    private static void need(boolean fine) {
        if (!fine) {
            throw new IllegalArgumentException();
        }
    }

    private static void needDots(int dots) {
        need(dots >= 0 && dots < 1 << 24);
    }

    int line(int dots) {
        needDots(dots);
        save();
        int before = w.time;
        w.line(dots);
        return w.time - before;
    }

    int lines(int dots, int times) {
        needDots(dots);
        need(times >= 1 && times <= 20);
        save();
        int before = w.sum(w.faint);
        for (int i = 0; i < times; i++) {
            w.line(dots);
        }
        return w.sum(w.faint) - before;
    }

    int rest(int time) {
        need(time >= 1 && time <= 999);
        save();
        w.pass(time);
        return w.max();
    }

    int paper(int paper) {
        need(paper >= 0 && paper <= 2);
        save();
        int old = w.strip.size();
        w.paper = paper;
        w.strip.clear();
        return old;
    }

    int set(int setting, int value) {
        if (setting < 0 || setting > 6) {
            throw new IndexOutOfBoundsException();
        }
        int[][] range = {{50, 300}, {5, 200}, {330, 900}, {1, 20}, {1, 200}, {0, 1}, {0, 50}};
        need(value >= range[setting][0] && value <= range[setting][1]);
        save();
        int old = w.setting[setting];
        w.setting[setting] = value;
        return old;
    }

    int append(int code) {
        need(code >= 33 && code <= 126);
        if (buffer.length() == 60) {
            throw new IllegalStateException();
        }
        buffer += (char) code;
        return buffer.length();
    }

    int clearBuffer() {
        int length = buffer.length();
        buffer = "";
        return length;
    }

    int firstError() {
        for (int i = 1; i <= buffer.length(); i++) {
            Matcher m = TEXT.matcher(buffer.substring(0, i));
            if (!m.matches() && !m.hitEnd()) {
                return i - 1;
            }
        }
        return buffer.length();
    }

    int print() {
        need(TEXT.matcher(buffer).matches());
        save();
        int before = w.lines;
        for (String part : buffer.split(";")) {
            if (part.startsWith("line")) {
                String[] of = part.substring(4).split("\\*");
                int times = of.length > 1 ? Integer.parseInt(of[1]) : 1;
                for (int i = 0; i < times; i++) {
                    w.line(Integer.parseInt(of[0], 16));
                }
            } else if (part.startsWith("paper:")) {
                w.paper = PAPERS.indexOf(part.substring(6));
                w.strip.clear();
            } else if (part.startsWith("rest")) {
                w.pass(Integer.parseInt(part.substring(4)));
            } else {
                w.line(0);
            }
        }
        buffer = "";
        return w.lines - before;
    }

    private String text(int back) {
        Line line = w.strip.get(back);
        return line.signs + "|".repeat(Math.max(0, line.parts - 1));
    }

    int told(int back, int index) {
        need(back >= 0 && back <= 11 && index >= 0);
        if (back >= w.strip.size() || index >= text(back).length()) {
            return -1;
        }
        return text(back).charAt(index);
    }

    int undo() {
        if (saved.isEmpty()) {
            throw new IllegalStateException();
        }
        w = saved.removeLast();
        return saved.size();
    }

    int keep() {
        snapshot = w.copy();
        return w.lines;
    }

    int restore() {
        if (snapshot == null) {
            throw new IllegalStateException();
        }
        save();
        w = snapshot.copy();
        return w.lines;
    }

    int dot(int dot, int what) {
        if (dot < 0 || dot > 23) {
            throw new IndexOutOfBoundsException();
        }
        need(what >= 0 && what <= 6);
        switch (what) {
            case 0: return w.heat[dot];
            case 1: return w.bit(w.ago(1), dot) ? 1 : 0;
            case 2: return w.bit(w.ago(2), dot) ? 1 : 0;
            case 3: return w.printed[dot];
            case 4: return w.faint[dot];
            case 5: return w.pulse(1 << dot, dot);
            default:
                World then = w.copy();
                then.line(1 << dot);
                return then.waits - w.waits;
        }
    }

    int kept(int back, int what) {
        need(back >= 0 && back <= 11 && what >= 0 && what <= 2);
        if (back >= w.strip.size()) {
            return -1;
        }
        Line line = w.strip.get(back);
        if (what == 2) {
            return line.parts;
        }
        int dots = 0;
        for (int d = 23; d >= 0; d--) {
            dots = dots * 2 + (line.signs.charAt(d) == (what == 0 ? '#' : '+') ? 1 : 0);
        }
        return dots;
    }

    int count(int what) {
        need(what >= 0 && what <= 18);
        int dots = w.sum(w.printed);
        int[] low = {w.time, w.lines, w.parts, w.waits, dots, dots, w.sum(w.faint), w.max(),
            w.hottest, w.paper, w.strip.size()};
        if (what == 18) {
            return saved.size();
        }
        return what < 11 ? low[what] : w.setting[what - 11];
    }

    int ifPrinted(int dots, int what) {
        needDots(dots);
        need(what >= 0 && what <= 4);
        World then = w.copy();
        then.hottest = 0;
        then.line(dots);
        switch (what) {
            case 0: return then.time - w.time;
            case 1: return then.waits - w.waits;
            case 2: return then.parts - w.parts;
            case 3: return then.sum(then.faint) - w.sum(w.faint);
            default: return Math.max(w.max(), then.hottest);
        }
    }

    int betterWay(int dots) {
        needDots(dots);
        int[] took = new int[2];
        for (int way = 0; way < 2; way++) {
            World then = w.copy();
            then.setting[5] = way;
            then.line(dots);
            took[way] = then.time - w.time;
        }
        return took[1] < took[0] ? 1 : 0;
    }

    int coolIn(int heat) {
        need(heat >= 0 && heat <= 900);
        World then = w.copy();
        while (then.max() > heat) {
            then.millisecond();
        }
        return then.time - w.time;
    }

    int darkFrom(int dot) {
        if (dot < 0 || dot > 23) {
            throw new IndexOutOfBoundsException();
        }
        for (int value = 50; value <= 300; value++) {
            World then = w.copy();
            then.setting[0] = value;
            then.line(1 << dot);
            if (then.strip.get(0).signs.charAt(dot) == '#') {
                return value;
            }
        }
        return -1;
    }

    double darkness() {
        int dots = w.sum(w.printed);
        return dots == 0 ? 1.0 : (double) (dots - w.sum(w.faint)) / dots;
    }

    float meanHeat() {
        return (float) w.sum(w.heat) / 24;
    }

    long digest() {
        List<Long> values = new ArrayList<>();
        for (int i = 0; i <= 18; i++) {
            values.add((long) count(i));
        }
        for (int d = 0; d < 24; d++) {
            for (int i = 0; i <= 6; i++) {
                values.add((long) dot(d, i));
            }
        }
        for (int back = 0; back < w.strip.size(); back++) {
            for (int i = 0; i <= 2; i++) {
                values.add((long) kept(back, i));
            }
            text(back).chars().forEach(c -> values.add((long) c));
        }
        for (int dots : new int[] {16777215, 5592405}) {
            for (int i = 0; i <= 4; i++) {
                values.add((long) ifPrinted(dots, i));
            }
        }
        values.add((long) betterWay(65535));
        values.add((long) coolIn(50));
        values.add((long) darkFrom(0));
        values.add(Double.doubleToLongBits(darkness()));
        values.add((long) Float.floatToIntBits(meanHeat()));
        values.add((long) buffer.length());
        buffer.chars().forEach(c -> values.add((long) c));
        long hash = 3833;
        for (long v : values) {
            hash = 31 * hash + v;
        }
        return hash;
    }
}
