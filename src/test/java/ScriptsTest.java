import java.util.ArrayList;
import java.util.List;
import java.util.Random;

/** Promises 30 and 31: scripts, simulations. */
public final class ScriptsTest {
    public static void main(String[] args) {
        arguments();
        rideAndPay();
        lineRunCopy();
        questions();
        order();
        everyCommand();
        manyScripts();
        boundariesOfCommands();
        lettingThrough();
        simulate();
        firstTurns();
        countsOfTurns();
        Check.end();
    }

    private static void script(OfflineGates x, int n, long script, int want) {
        Check.due("runScript(" + n + ", " + script + ")", x.runScript(n, script), want);
    }

    // Promise 30
    private static void arguments() {
        OfflineGates x = new OfflineGates();
        Check.badArgument("n 0", () -> x.runScript(0, 0));
        Check.badArgument("n 4", () -> x.runScript(4, 0));
        Check.badArgument("n -1", () -> x.runScript(-1, 0));
        Check.badArgument("below 0", () -> x.runScript(1, -1));
        Check.badArgument("MIN", () -> x.runScript(3, Long.MIN_VALUE));
        Check.badArgument("5 digits", () -> x.runScript(1, 10000));
        Check.badArgument("9 digits", () -> x.runScript(2, 100000000L));
        Check.badArgument("13 digits", () -> x.runScript(3, 1000000000000L));
        Check.badArgument("MAX", () -> x.runScript(3, Long.MAX_VALUE));
        script(x, 1, 9999, 0);
        script(x, 2, 99999999L, 0);
        script(x, 3, 999999999999L, 0);
        script(x, 1, 0, 0);
        script(x, 3, 0, 0);
        script(x, 1, 4001, -1);
        script(x, 2, 4001, 0);
        script(x, 2, 40014001, -1);
    }

    private static void rideAndPay() {
        OfflineGates x = Check.day("Oi30i00c0r00o2");
        String before = Check.picture(x);
        script(x, 1, 1000, 0);
        script(x, 2, 40051000, -1);
        script(x, 2, 40041000, 1);
        script(x, 1, 1020, -1);
        script(x, 1, 1021, 0);
        script(x, 1, 1040, 0);
        script(x, 1, 1300, 0);
        script(x, 1, 1100, 0);
        script(x, 2, 21021100, -1);
        script(x, 2, 21011100, 1);
        script(x, 1, 2000, 0);
        script(x, 1, 2001, -1);
        script(x, 1, 2199, -1);
        script(x, 1, 2201, 0);
        script(x, 1, 2801, 0);
        script(x, 2, 12009001, -1);
        script(x, 2, 12009000, 1);
        script(x, 3, 120060016000L, 2);
        Check.same("scripts change nothing", Check.picture(x), before);
    }

    private static void lineRunCopy() {
        OfflineGates x = Check.day("Oi50d1r01");
        String before = Check.picture(x);
        script(x, 1, 3000, -1);
        script(x, 1, 3001, 0);
        script(x, 1, 3100, 0);
        script(x, 1, 3101, -1);
        script(x, 1, 3102, 0);
        script(x, 1, 3002, 0);
        script(x, 1, 3111, 0);
        script(x, 1, 3010, 0);
        script(x, 1, 3400, 0);
        script(x, 1, 3401, 0);
        script(x, 3, 300030013000L, -1);
        script(x, 3, 300030003001L, 1);
        script(x, 2, 31017100, -1);
        script(x, 1, 4000, 0);
        script(x, 1, 4001, -1);
        script(x, 1, 4060, -1);
        script(x, 1, 4061, 0);
        script(x, 1, 4101, 0);
        script(x, 1, 5000, -1);
        script(x, 1, 5001, 0);
        script(x, 1, 5010, 0);
        script(x, 1, 5100, 0);
        script(x, 3, 500051005200L, -1);
        script(x, 3, 500051005300L, 2);
        Check.same("scripts change nothing", Check.picture(x), before);
        for (int i = 0; i < 9; i++) {
            x.copy(0);
        }
        script(x, 1, 5000, 0);
    }

    private static void questions() {
        OfflineGates x = Check.day("Oi05c0r00r10i09d1r21");
        script(x, 1, 6001, -1);
        script(x, 1, 6000, 0);
        script(x, 1, 6100, -1);
        script(x, 1, 6101, 0);
        script(x, 1, 6002, 0);
        script(x, 1, 6102, 0);
        script(x, 1, 6110, 0);
        script(x, 1, 6200, 0);
        script(x, 1, 6201, 0);
        script(x, 1, 7100, 0);
        script(x, 1, 7101, -1);
        script(x, 1, 7199, -1);
        script(x, 1, 7000, -1);
        script(x, 1, 7400, 0);
        script(x, 1, 7499, 0);
        script(x, 1, 8003, -1);
        script(x, 1, 8004, 0);
        script(x, 1, 8207, -1);
        script(x, 1, 8300, 0);
        script(x, 1, 9000, 0);
        script(x, 1, 9001, -1);
        script(x, 1, 9099, -1);
        script(x, 1, 9101, 0);
        script(x, 1, 100, 0);
        OfflineGates y = Check.day("Oi01d0r00");
        script(y, 1, 8000, 0);
    }

    private static void order() {
        OfflineGates x = Check.day("Oi50");
        script(x, 3, 100010004005L, 1);
        script(x, 3, 100040051000L, -1);
        script(x, 3, 600080486001L, 2);
        script(x, 3, 100080486000L, -1);
        script(x, 3, 100080490000L, 1);
        script(x, 3, 10004005L, 0);
        script(x, 3, 500011001000L, -1);
        script(x, 3, 500010001100L, -1);
    }

    /** States in which each command succeeds with some digits, and fails with others. */
    private static List<Check.Maker> makers() {
        List<Check.Maker> all = new ArrayList<>();
        all.add(OfflineGates::new);
        all.add(() -> Check.day("Oi50i00c0d1r01o2m07"));
        all.add(() -> Check.day("Oi30c0r00r10i09d1r21d3u1r20m06"));
        all.add(() -> Check.day("Oi10i11i12i13i14i15i16i98c6c7d0d3r00r33"));
        all.add(() -> {
            OfflineGates x = Check.day("Oi99c0i00i01d0d1o1");
            x.set(1, 0);
            x.set(3, 1);
            for (int i = 0; i < 4; i++) {
                x.ride(i < 2 ? 1 : 0, 3);
                if (x.account(0, 3) == 1) {
                    x.pardon(0);
                }
            }
            for (int i = 0; i < 12; i++) {
                x.ride(0, 0);
            }
            x.set(2, 1);
            return x;
        });
        return all;
    }

    /** Does a command by calls of the face, and tells whether it succeeds. */
    private static boolean succeeds(OfflineGates x, int group) {
        int d2 = group / 100 % 10;
        int d3 = group / 10 % 10;
        int d4 = group % 10;
        int two = group % 100;
        try {
            switch (group / 1000) {
                case 1: return d4 == 0 && isThrough(x.ride(d2, d3));
                case 2: return x.pay(d2, two) == x.account(d2, 0);
                case 3: return d3 == 0 && d4 <= 1 && (d4 == 1 ? x.up(d2) : x.down(d2)) >= 0;
                case 4: return d2 == 0 && x.run(two) == x.about(2);
                case 5: return two == 0 && x.copy(d2) == x.about(0) - 1;
                case 6: return d3 == 0 && x.account(d2, 4) == d4;
                case 7: return x.gate(d2, 3) <= two;
                case 8: return x.card(d2, 1) >= two;
                case 9: return d2 == 0 && x.about(5) <= two;
                default: return false;
            }
        } catch (IndexOutOfBoundsException | IllegalArgumentException | IllegalStateException e) {
            return false;
        }
    }

    private static boolean isThrough(int outcome) {
        return outcome == 0 || outcome == 1 || outcome == 2 || outcome == 7;
    }

    // Promise 30: "and so does any other group (also one with another digit where a 0 is written, or a u or b above 1)"
    private static void everyCommand() {
        for (Check.Maker maker : makers()) {
            OfflineGates x = maker.make();
            for (int group = 0; group <= 9999; group++) {
                if (group % 400 == 0) {
                    x = maker.make();
                }
                script(x, 1, group, succeeds(maker.make(), group) ? -1 : 0);
            }
        }
    }

    // Promise 30: "the index, from 0, of the first command that fails; NONE if all succeed"
    private static void manyScripts() {
        Random random = new Random(7);
        int[] ends = new int[4];
        for (Check.Maker maker : makers()) {
            List<Integer> good = new ArrayList<>();
            for (int group = 1000; group <= 9999; group++) {
                if (succeeds(maker.make(), group)) {
                    good.add(group);
                }
            }
            for (int i = 0; i < 1500 && !good.isEmpty(); i++) {
                int n = 2 + i % 2;
                long script = 0;
                int want = -1;
                OfflineGates y = maker.make();
                for (int k = 0; k < n; k++) {
                    int group = random.nextInt(8) == 0 ? random.nextInt(10000) : good.get(random.nextInt(good.size()));
                    script = 10000 * script + group;
                    if (want == -1 && !succeeds(y, group)) {
                        want = k;
                    }
                }
                script(maker.make(), n, script, want);
                ends[want + 1]++;
            }
        }
        for (int end : ends) {
            Check.isTrue("some scripts end at each command", end > 100);
        }
    }

    private static void boundariesOfCommands() {
        OfflineGates x = Check.day("Oi99i50c1c1c1c1c1c1c1c1r00");
        script(x, 1, 2099, -1);
        script(x, 1, 2199, -1);
        script(x, 1, 2200, 0);
        script(x, 1, 4060, -1);
        script(x, 1, 4099, 0);
        script(x, 1, 5900, 0);
        script(x, 1, 8950, -1);
        script(x, 1, 8951, 0);
        script(x, 1, 8097, -1);
        script(x, 1, 8098, 0);
        OfflineGates y = Check.day("Oi99t099d3");
        y.ride(0, 0);
        script(y, 1, 8099, -1);
        script(y, 1, 7300, -1);
        y.set(1, 0);
        for (int i = 1; i <= 12; i++) {
            y.ride(0, 3);
            script(y, 1, 7300 + i - 1, 0);
            script(y, 1, 7300 + i, -1);
        }
        script(y, 2, 30017312L, 0);
        script(y, 2, 33007312L, 0);
        script(y, 2, 33017300L, -1);
    }

    private static void lettingThrough() {
        OfflineGates x = Check.day("Oi99d1o2");
        script(x, 1, 1000, -1);
        script(x, 1, 1010, -1);
        script(x, 1, 1020, -1);
        script(x, 2, 10001000L, 1);
        script(x, 3, 100010201020L, -1);
        script(x, 3, 100040051000L, -1);
        script(x, 3, 100040041000L, 2);
        script(x, 3, 101070017100L, 2);
        script(x, 3, 101030017100L, 1);
        script(x, 3, 101031017100L, -1);
        x.set(1, 0);
        for (int i = 0; i < 12; i++) {
            x.ride(0, 1);
        }
        script(x, 1, 1010, 0);
        x.set(2, 1);
        script(x, 3, 101010101010L, -1);
        script(x, 3, 101010107112L, -1);
        script(x, 3, 101010107111L, 2);
    }

    // Promise 31
    private static void simulate() {
        OfflineGates empty = new OfflineGates();
        Check.badArgument("m 0", () -> empty.simulate(1, 0));
        Check.badArgument("m 81", () -> empty.simulate(1, 81));
        Check.badArgument("m -1", () -> empty.simulate(1, -1));
        String[] days = {"O", "Oi50i40i30c0c1", "Oi99i99c0c1d0d1r00r11r20r31m09", "Oi50i50c0o1d2r02r12u2"};
        long[] seeds = {0, 1, -1, 42, 77777, Long.MIN_VALUE, Long.MAX_VALUE, 123456789012345L, -987654321L};
        for (long seed = 100; seed < 300; seed++) {
            OfflineGates x = Check.day("Oi30c0i20c2r00r10");
            x.fare(1, 7);
            x.fare(2, 9);
            x.set(3, 1);
            x.set(0, 0);
            x.pardon(0);
            Check.due("simulate(" + seed + ", 80)", x.simulate(seed, 80), byCalls(x, seed, 80));
        }
        int most = 0;
        for (String day : days) {
            for (long seed : seeds) {
                for (int m : new int[] {1, 2, 17, 79, 80}) {
                    OfflineGates x = Check.day(day);
                    x.set(1, 1);
                    String before = Check.picture(x);
                    int got = x.simulate(seed, m);
                    Check.same("simulate changes nothing", Check.picture(x), before);
                    Check.due("simulate(" + seed + ", " + m + ") of " + day, got, byCalls(x, seed, m));
                    most = Math.max(most, got % 1000);
                }
            }
        }
        Check.isTrue("some simulation had doubles", most > 0);
    }

    // Promise 31: "m: number of turns, 1 to 80", "seed: any long"
    private static void firstTurns() {
        int[] kinds = new int[16];
        long[] seeds = new long[600];
        for (int i = 0; i < seeds.length; i++) {
            seeds[i] = i < 200 ? i - 100 : i < 400 ? Long.MIN_VALUE + i * 77777777777777L : Long.MAX_VALUE - i * 99999999999L;
        }
        for (long seed : seeds) {
            for (int m = 1; m <= 3; m++) {
                OfflineGates x = Check.day("Oi30c0i20r00r10d1m09r21t001");
                Check.due("simulate(" + seed + ", " + m + ")", x.simulate(seed, m), byCalls(x, seed, m));
            }
            kinds[(int) (seed * 6364136223846793005L + 1442695040888963407L >>> 33) % 16]++;
        }
        for (int kind : kinds) {
            Check.isTrue("each kind of turn is the first one sometimes", kind > 10);
        }
    }

    /**
     * States in which little else than one kind of turn can change the answer: 10 cards, money that is just not
     * enough, marks, gates that are open or down.
     */
    private static void countsOfTurns() {
        String[] days = {"Oi00i00i00i00i00i00i00i00c0c0", "Oi01i01i01i01i01i01i01i01c0c1o0o1o2o3", "Oi02c0c0c0c0c0c0c0c0c0d0d1d2d3",
            "Oi99c0c0c0c0c0c0c0c0c0", "Oi00c0c0c0c0c0c0c0c0c0t001", "Oi09r00d0d1d2m60", "Oi03c0r00r10t099i00"};
        for (String day : days) {
            for (long seed = 1; seed <= 120; seed++) {
                OfflineGates x = Check.day(day);
                x.set(1, (int) seed % 4);
                x.fare(1, 1);
                x.set(3, (int) seed % 3);
                int m = (int) (seed * 7 % 80) + 1;
                Check.due("simulate(" + seed + ", " + m + ") of " + day, x.simulate(seed, m), byCalls(x, seed, m));
            }
        }
    }

    /** The same turns by calls of the face. */
    private static int byCalls(OfflineGates x, long seed, int m) {
        int settled = x.about(3);
        int doubles = x.about(5);
        long s = seed;
        for (int i = 0; i < m; i++) {
            s = s * 6364136223846793005L + 1442695040888963407L;
            int r = (int) (s >>> 33);
            try {
                turn(x, r);
            } catch (IndexOutOfBoundsException | IllegalArgumentException | IllegalStateException e) {
                continue;
            }
        }
        return 1000 * (x.about(3) - settled) + x.about(5) - doubles;
    }

    private static void turn(OfflineGates x, int r) {
        int kind = r % 16;
        if (kind == 0) {
            x.issue(r / 16 % 40);
        } else if (kind == 1) {
            x.copy(r / 16 % 10);
        } else if (kind == 2) {
            x.down(r / 16 % 4);
        } else if (kind == 3) {
            x.up(r / 16 % 4);
        } else if (kind == 4) {
            x.pay(r / 16 % 8, 1 + r / 128 % 30);
        } else if (kind == 5) {
            x.open(r / 16 % 4);
        } else if (kind == 6) {
            x.pardon(r / 16 % 8);
        } else if (kind == 7 || kind == 8) {
            x.run(1 + r / 16 % 20);
        } else {
            x.ride(r / 16 % 10, r / 256 % 4);
        }
    }
}
