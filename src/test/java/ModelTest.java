/** Long mixed runs of calls: each answer, or exception, is compared with the one of the model. */
public final class ModelTest {
    private static final int RUNS = 400;
    private static final int CALLS = 512;
    private static final int[] FAR = {Integer.MIN_VALUE, Integer.MAX_VALUE, -2, 11};

    private static long seed;

    private ModelTest() {
    }

    public static void main(String[] args) {
        for (int run = 0; run < RUNS; run++) {
            seed = run;
            // Small lands too, and lands in which nearly every call is a wish.
            compare(run, 1 + run % 10, 10 + run % 7 * 12);
        }
        Check.end("ModelTest");
    }

    private static void compare(int run, int keepers, int wishes) {
        HutRings land = new HutRings();
        Model model = new Model();
        for (int call = 0; call < CALLS; call++) {
            int method = call < keepers ? 0 : next(100) < wishes ? 1 : next(13);
            if (method == 0 && call >= keepers && call < CALLS / 2) {
                method = 11;
            }
            int a = number(keepers);
            int b = number(keepers);
            int c = number(keepers);
            String text = "run " + run + ", call " + call + ": method " + method + " of " + a + ", " + b + ", " + c;
            int chosen = method;
            Check.same(text, Check.outcome(() -> ofModel(model, chosen, a, b, c)),
                    Check.outcome(() -> ofLand(land, chosen, a, b, c)));
        }
    }

    private static int next(int end) {
        seed = seed * 6364136223846793005L + 1442695040888963407L;
        return (int) ((seed >>> 33) % end);
    }

    private static int number(int keepers) {
        int kind = next(40);
        return kind == 0 ? FAR[next(FAR.length)] : kind < 4 ? next(keepers + 2) - 1 : next(keepers);
    }

    private static long ofLand(HutRings land, int method, int a, int b, int c) {
        switch (method) {
            case 0: return land.come();
            case 1: return land.wish(a, c % 3, b);
            case 2: return land.drop(a, b);
            case 3: return land.list(a, b);
            case 4: return land.told(a, b);
            case 5: return land.points(a, b);
            case 6: return land.rank(a, b);
            case 7: return land.count(a);
            case 8: return land.swaps(a, b) ? 1 : 0;
            case 9: return land.without(a, b);
            case 10: return land.feign(a, b);
            case 11: return c % 4 == 0 ? land.move() : Double.doubleToLongBits(land.mean());
            default: return land.digest();
        }
    }

    private static long ofModel(Model model, int method, int a, int b, int c) {
        switch (method) {
            case 0: return model.come();
            case 1: return model.wish(a, c % 3, b);
            case 2: return model.drop(a, b);
            case 3: return model.list(a, b);
            case 4: return model.told(a, b);
            case 5: return model.points(a, b);
            case 6: return model.rank(a, b);
            case 7: return model.count(a);
            case 8: return model.swaps(a, b) ? 1 : 0;
            case 9: return model.without(a, b);
            case 10: return model.feign(a, b);
            case 11: return c % 4 == 0 ? model.move() : Double.doubleToLongBits(model.mean());
            default: return model.digest();
        }
    }
}
