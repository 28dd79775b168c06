/** A call by its name and numbers, so that calls can stand in tables and be drawn by lot. */
final class Calls {
    private Calls() {
    }

    static String told(String name, long... a) {
        StringBuilder text = new StringBuilder(name).append('(');
        for (int i = 0; i < a.length; i++) {
            text.append(i == 0 ? "" : ", ").append(a[i]);
        }
        return text.append(')').toString();
    }

    /** A boolean is told as 0 or 1. */
    static long answer(BorderHarp harp, String name, long... a) {
        int x = a.length > 0 ? (int) a[0] : 0;
        int y = a.length > 1 ? (int) a[1] : 0;
        int z = a.length > 2 ? (int) a[2] : 0;
        switch (name) {
            case "posts": return harp.posts(x);
            case "wire": return harp.wire(x, y, z);
            case "frost": return harp.frost(x);
            case "guard": return harp.guard(x, y != 0);
            case "wind": return harp.wind(x, y);
            case "calm": return harp.calm();
            case "pass": return harp.pass(x, y, z);
            case "undo": return harp.undo();
            case "type": return harp.type(a[0], y);
            case "clear": return harp.clear();
            case "read": return harp.read();
            case "sounds": return harp.sounds(x, y, z);
            case "away": return harp.away(x, y);
            case "heard": return harp.heard(x, y);
            case "alarm": return harp.alarm(x);
            case "which": return harp.which(x, y, z, (int) a[3], (int) a[4]);
            case "cover": return harp.cover(x);
            case "clashes": return harp.clashes();
            case "retune": return harp.retune();
            case "slip": return harp.slip(x);
            case "lot": return harp.lot(x, y, z);
            case "surest": return harp.surest(x, y);
            case "whence": return harp.whence(x, y, z);
            case "doubled": return harp.doubled();
            case "doubt": return harp.doubt(x, y);
            case "part": return harp.part(x);
            case "image": return harp.image(x);
            case "from": return harp.from(x);
            case "status": return harp.status(x);
            case "count": return harp.count(x);
            case "digest": return harp.digest();
            default: throw new IllegalArgumentException(name);
        }
    }
}
