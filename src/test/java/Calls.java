/** A call by its name, for tests that draw or list the calls. */
final class Calls {
    private Calls() {
    }

    static long call(TakenUp x, String name, long[] args) {
        int a = args.length > 0 ? (int) args[0] : 0;
        int b = args.length > 1 ? (int) args[1] : 0;
        int c = args.length > 2 ? (int) args[2] : 0;
        int d = args.length > 3 ? (int) args[3] : 0;
        int e = args.length > 4 ? (int) args[4] : 0;
        switch (name) {
            case "worker": return x.worker(a);
            case "workerIs": return x.workerIs(a, b);
            case "setWorker": return x.setWorker(a, b, c);
            case "step": return x.step(a, b, c);
            case "stepIs": return x.stepIs(a, b, c);
            case "rest": return x.rest(a, b, c, d);
            case "restIs": return x.restIs(a, b);
            case "as": return x.as(a, b);
            case "setRest": return x.setRest(a, b, c);
            case "quiet": return x.quiet(a, b);
            case "feed": return x.feed(args[0], b);
            case "text": return x.text(a);
            case "untell": return x.untell(a);
            case "minutes": return x.minutes(a);
            case "loose": return x.loose(a);
            case "seed": return x.seed(a);
            case "then": return x.then(a, b, c);
            case "waits": return x.waits(a);
            case "cost": return x.cost(a, b);
            case "refuse": return x.refuse(a, b);
            case "best": return x.best(a, b);
            case "heap": return x.heap(a);
            case "odds": return x.odds(a, b, c, d);
            case "voice": return x.voice(a, b, c);
            case "body": return x.body(a);
            case "sheet": return x.sheet(a, b, c);
            case "put": return x.put(a, b, c);
            case "move": return x.move(a, b, c, d, e);
            case "steps": return x.steps(a, b);
            case "off": return x.off(a, b);
            case "fits": return x.fits(a, b);
            case "image": return x.image();
            case "restore": return x.restore();
            case "tell": return x.tell(a);
            case "check": return x.check();
            case "count": return x.count(a);
            case "told": return x.told(a);
            default: throw new IllegalArgumentException(name);
        }
    }
}
