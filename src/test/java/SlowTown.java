import java.util.ArrayList;
import java.util.HashMap;
import java.util.List;
import java.util.Map;
import java.util.TreeSet;
import java.util.regex.Matcher;
import java.util.regex.Pattern;

/** The document once more, written another way and without thrift, to be held against FewerLamps. */
final class SlowTown {
    static final int BAD = -1, STATE = -2, FULL = -3, NONE = -9, NO = -1000000;

    record Lamp(int rule, boolean on) { }

    record Street(int a, int b) { }

    record Moment(List<Boolean> on, TreeSet<Integer> fog, int bells, int left) { }

    record Image(Moment moment, List<Moment> past) { }

    private final StringBuilder text = new StringBuilder();
    private List<Lamp> lamps = new ArrayList<>();
    private List<Street> streets = new ArrayList<>();
    private Moment now = new Moment(List.of(), new TreeSet<>(), 0, 3);
    private List<Moment> past = new ArrayList<>();
    private final Map<Integer, Image> images = new HashMap<>();
    private long trace;

    long call(String name, int... a) {
        switch (name) {
            case "type": return type(a[0]);
            case "clear": { int had = text.length(); text.setLength(0); return had; }
            case "town": return town();
            case "lamp": return lamp(a[0], a[1]);
            case "street": return street(a[0], a[1]);
            case "bell": return bell();
            case "turn": return turn(a[0]);
            case "fog": return fog(a[0], a[1]);
            case "undo": return undo();
            case "now": return now(a[0]);
            case "after": return a[0] < 0 || a[0] > 600 ? BAD : bits(walk(now.on, a[0]));
            case "round": return round(a[0]);
            case "again": return again();
            case "ahead": return ahead(a[0], a[1]);
            case "eden": return eden();
            case "lit": return lit(a[0], a[1], a[2]);
            case "who": return who(a[0], a[1], a[2]);
            case "thief": return thief(a[0], a[1]);
            case "still": return still(a[0]);
            case "mist": return mist(a[0]);
            case "flickers": return flickers(a[0], a[1]);
            case "mark": return mark(a[0], a[1]);
            case "keep": return keep(a[0]);
            case "back": return back(a[0]);
            case "count": return count(a[0]);
            case "trace": return trace;
            default: throw new IllegalArgumentException(name);
        }
    }

    private int type(int c) {
        if (c < 0 || c > 255) return BAD;
        if (text.length() == 200) return FULL;
        return text.append((char) c).length();
    }

    // ---- the text: all tokens first, then what may stand where

    private int town() {
        List<String> tokens = new ArrayList<>();
        List<Integer> places = new ArrayList<>();
        Matcher m = Pattern.compile("[a-z]+|[0-9]+|[^ ]", Pattern.DOTALL).matcher(text);
        while (m.find()) {
            tokens.add(m.group());
            places.add(m.start());
        }
        places.add(text.length());
        List<Lamp> l = new ArrayList<>();
        List<Street> s = new ArrayList<>();
        int at = 0;
        while (at < tokens.size()) {
            int good = item(tokens.subList(at, tokens.size()), l, s);
            if (good < 4) return -10 - places.get(at + good);
            at += 4;
        }
        lamps = l;
        streets = s;
        List<Boolean> on = new ArrayList<>();
        for (Lamp lamp : l) on.add(lamp.on);
        now = new Moment(on, new TreeSet<>(), 0, 3);
        past = new ArrayList<>();
        images.clear();
        text.setLength(0);
        return l.size() + s.size();
    }

    /** How many of an item's four tokens are good. */
    private static int item(List<String> t, List<Lamp> l, List<Street> s) {
        boolean lamp = t.get(0).equals("l") && l.size() < 9;
        boolean street = t.get(0).equals("s") && s.size() < 15;
        if (!lamp && !street) return 0;
        int a = t.size() > 1 ? number(t.get(1)) : -1;
        if (a < 0 || a >= (lamp ? 4 : l.size())) return 1;
        int b = t.size() > 2 ? number(t.get(2)) : -1;
        if (b < 0 || b >= (lamp ? 2 : l.size())) return 2;
        Street way = new Street(Math.min(a, b), Math.max(a, b));
        if (street && (a == b || s.contains(way))) return 2;
        if (t.size() < 4 || !t.get(3).equals(";")) return 3;
        if (lamp) l.add(new Lamp(a, b == 1)); else s.add(way);
        return 4;
    }

    private static int number(String t) {
        return t.matches("0|[1-9][0-9]?") ? Integer.parseInt(t) : -1;
    }

    // ---- stands

    private static int bits(List<Boolean> on) {
        int bits = 0;
        for (int i = 0; i < on.size(); i++) if (on.get(i)) bits += 1 << i;
        return bits;
    }

    private List<Boolean> stand(int bits) {
        List<Boolean> on = new ArrayList<>();
        for (int i = 0; i < lamps.size(); i++) on.add((bits >> i) % 2 == 1);
        return on;
    }

    private boolean isStand(int bits) {
        return bits >= 0 && bits < 1 << lamps.size();
    }

    private boolean isLamp(int l) {
        return l >= 0 && l < lamps.size();
    }

    private boolean isStreet(int s) {
        return s >= 0 && s < streets.size();
    }

    private List<Street> clearStreets(TreeSet<Integer> fog) {
        List<Street> clear = new ArrayList<>();
        for (int s = 0; s < streets.size(); s++) if (!fog.contains(s)) clear.add(streets.get(s));
        return clear;
    }

    private static int neighbours(List<Street> ways, List<Boolean> on, int l, boolean are) {
        int n = 0;
        for (Street w : ways) {
            if (w.a == l && on.get(w.b) == are) n++;
            if (w.b == l && on.get(w.a) == are) n++;
        }
        return n;
    }

    private List<Boolean> strike(List<Street> ways, List<Boolean> on) {
        List<Boolean> then = new ArrayList<>();
        for (int l = 0; l < lamps.size(); l++) {
            int more = neighbours(ways, on, l, true) - neighbours(ways, on, l, false);
            boolean was = on.get(l);
            switch (lamps.get(l).rule) {
                case 0: then.add(more < 0 || more == 0 && was); break;
                case 1: then.add(more > 0 || more == 0 && was); break;
                case 2: then.add(!was); break;
                default: then.add(was); break;
            }
        }
        return then;
    }

    private List<Boolean> strikeNow(List<Boolean> on) {
        return strike(clearStreets(now.fog), on);
    }

    private List<Boolean> walk(List<Boolean> on, int bells) {
        for (int b = 0; b < bells; b++) on = strikeNow(on);
        return on;
    }

    /** The stands from one on, until one comes again; that one is the last. */
    private List<Integer> path(List<Street> ways, List<Boolean> on) {
        List<Integer> path = new ArrayList<>();
        while (!path.contains(bits(on))) {
            path.add(bits(on));
            on = strike(ways, on);
        }
        path.add(bits(on));
        return path;
    }

    private int lamp(int l, int what) {
        if (!isLamp(l) || what < 0 || what > 4) return BAD;
        if (what == 0) return lamps.get(l).rule;
        if (what == 1) return now.on.get(l) ? 1 : 0;
        if (what == 2) return degree(l);
        return neighbours(clearStreets(now.fog), now.on, l, what == 3);
    }

    private int degree(int l) {
        int n = 0;
        for (Street w : streets) if (w.a == l || w.b == l) n++;
        return n;
    }

    private int street(int s, int what) {
        if (!isStreet(s) || what < 0 || what > 2) return BAD;
        Street w = streets.get(s);
        return what == 0 ? w.a : what == 1 ? w.b : now.fog.contains(s) ? 1 : 0;
    }

    // ---- bells

    private void become(Moment then) {
        past.add(now);
        if (past.size() > 10) past.remove(0);
        now = then;
    }

    private int bell() {
        if (now.bells == 999) return STATE;
        become(new Moment(strikeNow(now.on), now.fog, now.bells + 1, 3));
        return bits(now.on);
    }

    private int turn(int l) {
        if (!isLamp(l)) return BAD;
        if (now.left == 0) return STATE;
        become(new Moment(stand(bits(now.on) ^ 1 << l), now.fog, now.bells, now.left - 1));
        return bits(now.on);
    }

    private int fog(int s, int is) {
        if (!isStreet(s) || is != 0 && is != 1) return BAD;
        TreeSet<Integer> fog = new TreeSet<>(now.fog);
        if (!(is == 1 ? fog.add(s) : fog.remove(s))) return STATE;
        become(new Moment(now.on, fog, now.bells, now.left));
        return fog.size();
    }

    private int undo() {
        if (past.isEmpty()) return STATE;
        now = past.remove(past.size() - 1);
        return past.size();
    }

    private int now(int what) {
        switch (what) {
            case 0: return now.bells;
            case 1: return bits(now.on);
            case 2: return Integer.bitCount(bits(now.on));
            case 3: { int b = 0; for (int s : now.fog) b |= 1 << s; return b; }
            case 4: return now.left;
            default: return BAD;
        }
    }

    // ---- what comes

    private int round(int what) {
        if (what != 0 && what != 1) return BAD;
        List<Integer> p = path(clearStreets(now.fog), now.on);
        int first = p.indexOf(p.get(p.size() - 1));
        return what == 0 ? first : p.size() - 1 - first;
    }

    private int again() {
        List<Boolean> on = now.on;
        for (int b = 1; b <= 512; b++) {
            on = strikeNow(on);
            if (on.equals(now.on)) return b;
        }
        return NONE;
    }

    private int ahead(int stand, int what) {
        if (!isStand(stand) || what != 0 && what != 1) return BAD;
        List<Integer> from = new ArrayList<>();
        for (int s = 0; s < 1 << lamps.size(); s++) if (bits(strikeNow(stand(s))) == stand) from.add(s);
        return what == 0 ? from.size() : from.isEmpty() ? NONE : from.get(0);
    }

    private int eden() {
        TreeSet<Integer> made = new TreeSet<>();
        for (int s = 0; s < 1 << lamps.size(); s++) made.add(bits(strikeNow(stand(s))));
        return (1 << lamps.size()) - made.size();
    }

    // ---- hands

    private int lit(int some, int k, int what) {
        if (!isStand(some) || some == 0 || k < 0 || k > 60 || what < 0 || what > 2) return BAD;
        List<Street> ways = clearStreets(now.fog);
        for (int size = 0; size <= 3; size++) {
            List<Integer> sets = new ArrayList<>();
            for (int set = 0; set < 1 << lamps.size(); set++) {
                if (Integer.bitCount(set) != size) continue;
                boolean all = true;
                for (int s : path(ways, walk(stand(bits(now.on) ^ set), k))) all &= (s & some) == some;
                if (all) sets.add(set);
            }
            if (!sets.isEmpty()) return what == 0 ? size : what == 1 ? sets.size() : sets.get(0);
        }
        return NONE;
    }

    private int who(int n, int stand, int what) {
        if (n < 0 || n > 60 || !isStand(stand) || what != 0 && what != 1) return BAD;
        List<Integer> sets = new ArrayList<>();
        for (int set = 0; set < 1 << lamps.size(); set++) {
            if (Integer.bitCount(set) <= 3 && bits(walk(stand(bits(now.on) ^ set), n)) == stand) sets.add(set);
        }
        return what == 0 ? sets.size() : sets.isEmpty() ? NONE : sets.get(0);
    }

    private int thief(int from, int to) {
        if (!isLamp(from) || !isLamp(to)) return BAD;
        TreeSet<Integer> at = new TreeSet<>(List.of(from));
        List<Boolean> on = now.on;
        for (int b = 0; b <= 99; b++) {
            List<Boolean> lit = on;
            at.removeIf(l -> lit.get(l));
            if (at.contains(to)) return b;
            TreeSet<Integer> go = new TreeSet<>(at);
            for (Street w : streets) {
                if (at.contains(w.a)) go.add(w.b);
                if (at.contains(w.b)) go.add(w.a);
            }
            at = go;
            on = strikeNow(on);
        }
        return NONE;
    }

    private int still(int what) {
        if (what != 0 && what != 1) return BAD;
        for (int pair = 0; pair < 100; pair++) {
            Street w = new Street(pair / 10, pair % 10);
            if (w.a >= w.b || !isLamp(w.b) || streets.contains(w)) continue;
            List<Street> ways = clearStreets(now.fog);
            ways.add(w);
            List<Integer> p = path(ways, now.on);
            if (p.get(p.size() - 1).equals(p.get(p.size() - 2))) return what == 0 ? pair : p.size() - 2;
        }
        return NONE;
    }

    private int mist(int stand) {
        if (!isStand(stand)) return BAD;
        int bits = 0;
        for (int s = 0; s < streets.size(); s++) {
            TreeSet<Integer> fog = new TreeSet<>(now.fog);
            if (fog.add(s) && bits(strike(clearStreets(fog), now.on)) == stand) bits |= 1 << s;
        }
        return bits;
    }

    private int flickers(int l, int n) {
        if (l != -1 && !isLamp(l) || n < 0 || n > 60) return BAD;
        if (l >= 0) {
            int times = 0;
            for (int b = 0; b < n; b++) if (walk(now.on, b).get(l) != walk(now.on, b + 1).get(l)) times++;
            return times;
        }
        int most = -1;
        int who = NONE;
        for (int i = 0; i < lamps.size(); i++) {
            if (flickers(i, n) > most) {
                most = flickers(i, n);
                who = i;
            }
        }
        return who;
    }

    // ---- kinds, images

    private int mark(int kind, int l) {
        if (kind < 0 || kind > 5 || !isLamp(l)) return NO;
        int on = now.on.get(l) ? 1 : 0;
        switch (kind) {
            case 0: trace += 1; return on;
            case 1: trace += 11; return on + degree(l);
            case 2: trace += 101; return on - lamps.get(l).rule;
            case 3: trace += 1011; return (on + degree(l)) * 2;
            case 4: trace += 10101; return on - lamps.get(l).rule + l;
            default: trace += 100001; return on + now(2);
        }
    }

    private int keep(int image) {
        if (image != 0 && image != 1) return BAD;
        images.put(image, new Image(now, new ArrayList<>(past)));
        return now.bells;
    }

    private int back(int image) {
        if (image != 0 && image != 1) return BAD;
        if (!images.containsKey(image)) return STATE;
        now = images.get(image).moment;
        past = new ArrayList<>(images.get(image).past);
        return now.bells;
    }

    private int count(int what) {
        switch (what) {
            case 0: return lamps.size();
            case 1: return streets.size();
            case 2: return past.size();
            case 3: return text.length();
            default: return BAD;
        }
    }
}
