/** The calls of FewerLamps by their names. */
final class Calls {
    private Calls() {
    }

    static long answer(FewerLamps x, String name, int... a) {
        switch (name) {
            case "type": return x.type(a[0]);
            case "clear": return x.clear();
            case "town": return x.town();
            case "lamp": return x.lamp(a[0], a[1]);
            case "street": return x.street(a[0], a[1]);
            case "bell": return x.bell();
            case "turn": return x.turn(a[0]);
            case "fog": return x.fog(a[0], a[1]);
            case "undo": return x.undo();
            case "now": return x.now(a[0]);
            case "after": return x.after(a[0]);
            case "round": return x.round(a[0]);
            case "again": return x.again();
            case "ahead": return x.ahead(a[0], a[1]);
            case "eden": return x.eden();
            case "lit": return x.lit(a[0], a[1], a[2]);
            case "who": return x.who(a[0], a[1], a[2]);
            case "thief": return x.thief(a[0], a[1]);
            case "still": return x.still(a[0]);
            case "mist": return x.mist(a[0]);
            case "flickers": return x.flickers(a[0], a[1]);
            case "mark": return x.mark(a[0], a[1]);
            case "keep": return x.keep(a[0]);
            case "back": return x.back(a[0]);
            case "count": return x.count(a[0]);
            case "trace": return x.trace();
            default: throw new IllegalArgumentException(name);
        }
    }
}
