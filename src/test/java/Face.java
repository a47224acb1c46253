/** Any call of PhaseCells by its name. */
final class Face {
    /** The name of each call, and how many numbers it takes. */
    static final String[] NAMES = {
        "grid", "wave", "sets", "sample", "echo", "shines", "clears", "raw", "of", "bits", "wraps", "away", "mark",
        "cell", "glow", "motion", "marks", "moved", "mean", "told", "type", "clear", "does", "back", "refused", "digest"
    };

    private Face() {
    }

    static long call(PhaseCells c, String name, int... n) {
        switch (name) {
            case "grid": return c.grid(n[0], n[1]);
            case "wave": return c.wave(n[0], n[1]);
            case "sets": return c.sets(n[0], n[1]);
            case "sample": return c.sample(n[0], n[1], n[2], n[3], n[4], n[5]);
            case "echo": return c.echo(n[0], n[1], n[2], n[3], n[4]);
            case "shines": return c.shines(n[0], n[1], n[2], n[3]);
            case "clears": return c.clears(n[0], n[1], n[2]);
            case "raw": return c.raw(n[0], n[1], n[2], n[3], n[4]);
            case "of": return c.of(n[0], n[1], n[2], n[3], n[4]);
            case "bits": return c.bits(n[0], n[1], n[2], n[3], n[4]);
            case "wraps": return c.wraps(n[0], n[1], n[2], n[3]);
            case "away": return c.away(n[0], n[1], n[2], n[3], n[4]);
            case "mark": return c.mark(n[0], n[1], n[2]);
            case "cell": return c.cell(n[0], n[1], n[2], n[3]);
            case "glow": return c.glow(n[0], n[1], n[2]);
            case "motion": return c.motion(n[0], n[1]);
            case "marks": return c.marks(n[0], n[1]);
            case "moved": return c.moved();
            case "mean": return c.mean(n[0]);
            case "told": return c.told(n[0]);
            case "type": return c.type(n[0]);
            case "clear": return c.clear();
            case "does": return c.does();
            case "back": return c.back();
            case "refused": return c.refused(n[0]);
            case "digest": return c.digest();
            default: throw new IllegalArgumentException(name);
        }
    }
}
