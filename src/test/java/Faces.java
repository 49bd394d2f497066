import java.util.NoSuchElementException;

/** Calls SixDew by a call's name: a boolean counts 1 or 0, a NoSuchElementException THROWS. */
final class Faces {
    private Faces() {
    }

    static long call(SixDew d, String name, int... a) {
        return switch (name) {
            case "feed" -> d.feed(a[0], a[1], a[2], a[3], a[4]);
            case "end" -> d.end(a[0]) ? 1 : 0;
            case "ground" -> d.ground();
            case "fault" -> d.fault();
            case "cell" -> Check.cell(d, a[0], a[1], a[2]);
            case "night" -> d.night(a[0]);
            case "sky" -> d.sky(a[0], a[1], a[2]);
            case "begin" -> d.begin(a[0]) ? 1 : 0;
            case "on" -> d.on(a[0]);
            case "is" -> Check.is(d, a[0], a[1], a[2]);
            case "now" -> d.now(a[0]);
            case "plan" -> d.plan();
            case "go" -> d.go(a[0]);
            case "went" -> d.went(a[0]);
            case "image" -> d.image(a[0]) ? 1 : 0;
            case "restore" -> d.restore(a[0]) ? 1 : 0;
            case "count" -> d.count(a[0]);
            default -> ask(d, name, a);
        };
    }

    private static long ask(SixDew d, String name, int[] a) {
        return switch (name) {
            case "much" -> d.much(a[0], a[1], a[2], a[3]);
            case "where" -> d.where(a[0], a[1], a[2]);
            case "begins" -> d.begins(a[0], a[1], a[2]);
            case "gone" -> d.gone(a[0], a[1], a[2]);
            case "wet" -> d.wet(a[0], a[1], a[2]);
            case "spell" -> d.spell(a[0], a[1], a[2]);
            case "sick" -> d.sick(a[0], a[1]);
            case "frost" -> d.frost(a[0], a[1], a[2]);
            case "slugs" -> d.slugs(a[0], a[1], a[2], a[3]);
            case "walk" -> d.walk(a[0], a[1], a[2], a[3]);
            case "unlike" -> d.unlike(a[0], a[1]);
            case "bench" -> d.bench(a[0], a[1]);
            case "lawn" -> d.lawn();
            case "clouded" -> d.clouded(a[0]);
            case "came" -> d.came(a[0], a[1], a[2], a[3]);
            case "cameAt" -> d.cameAt(a[0]);
            case "roof" -> d.roof(a[0], a[1], a[2]);
            case "driest" -> d.driest(a[0], a[1]);
            case "catcher" -> d.catcher(a[0], a[1], a[2]);
            case "story" -> d.story(a[0], a[1], a[2], a[3], a[4]);
            case "part" -> d.part(a[0], a[1], a[2], a[3], a[4]);
            case "tries" -> d.tries(a[0], a[1]);
            case "hay" -> d.hay(a[0], a[1]);
            case "drawn" -> d.drawn(a[0], a[1], a[2], a[3], a[4]);
            case "drawnBy" -> d.drawnBy(a[0]);
            default -> throw new NoSuchElementException(name);
        };
    }
}
