/**
 * Whole tables, each folded into one number. The numbers due were made by a second program, written along the document
 * in another language (by one who had read the class before): a slip of the class and the Oracle alike would show here.
 */
public final class TablesTest {
    private static final int MOST_CALLS = 500;
    /** OUT, then SIDE and R of PLAYER 0, of PLAYER 1. */
    private static final int[][] HANDS = {
        {1, 60, 80, 60, 80}, {0, 200, 200, 35, 120}, {2, 0, 7, 150, 0}, {1, 13, 190, 101, 44}, {0, 0, 0, 90, 90},
        {2, 60, 80, 200, 0}};
    private static final String[] TABLES = {
        "8 darts", "9 dartsCut", "10 thousandths", "11 aim", "12 chance", "13 chanceAim", "14 race", "15 raceAim",
        "16 settled", "17 percent", "18 ways", "19 way", "20 spell, 32 paper", "21 to 27 the leg"};
    private static final long[][] WANTS = {
        {-8436534571416723623L, 3856263797514553981L, -1045424048765692703L, -7570117188041200023L,
            3790044761104013233L, -2518659255703887445L, 82854429336069715L, 1427488004758166641L,
            3850563165928128610L, 7741047341380743891L, 4110851898592580473L, -6586938020540799957L,
            -860665225721749502L, 6550239399860962281L},
        {-2247817909568762152L, -1920140662306004821L, 7629176506899432102L, -7126615471350678535L,
            -3579091410729596538L, -407012693793054422L, -1875810842181032344L, 4861895048341973049L,
            1409349398399741672L, 7841602287892560977L, 2504097002875662697L, 3175248905752446469L,
            -5072985047134058319L, 2510199319026734857L},
        {4044355556557117654L, -1207678521493337008L, 2897727153352375380L, -5087032483833834565L,
            126448045669873950L, -3932160698827495433L, 7336161320962701888L, -1911180453597490901L,
            -3449609207711053397L, 1300645710212344309L, 5238495425945792857L, -1843484558998724353L,
            -465568409219249133L, -7218665943076959718L},
        {8774953478910616563L, -8693372795983852702L, -1793334030627888021L, -8207676420646411491L,
            -6390841389484454643L, -6142196396912441544L, 7585020092835713296L, 3211439481004995375L,
            5648496397945753023L, 5935788899108907420L, 4110851898592580473L, -6586938020540799957L,
            -860665225721749502L, 4761535026914222557L},
        {2390241033593131669L, -632475754631184299L, -4337948619922208133L, 4599365451723754494L,
            5825429081326499745L, 3866030744841669727L, 464514269712101561L, -4042655447997057941L,
            -8037925800555591943L, -4764845693561765447L, 2504097002875662697L, 3175248905752446469L,
            -5072985047134058319L, 152266975242467605L},
        {7215427251744345852L, 3294668483652713211L, 6180779926077267187L, 3479861283915862810L, 7685372464911695657L,
            7536900606602669966L, 1504548136834337340L, 2104807781821562350L, 7229991270976172011L,
            -8739871318904760297L, 5238495425945792857L, -1843484558998724353L, -465568409219249133L,
            881218859211198034L},
    };

    private final int[] hands;
    private DartMind x;
    private int calls;
    private long sum;

    private TablesTest(int[] hands) {
        this.hands = hands;
    }

    public static void main(String[] args) {
        Checks checks = new Checks("TablesTest");
        for (int i = 0; i < HANDS.length; i++) {
            for (int table = 0; table < TABLES.length; table++) {
                long got = new TablesTest(HANDS[i]).fold(table);
                checks.due("Promise " + TABLES[table] + ", hands " + i, got, WANTS[i][table]);
            }
        }
        checks.end();
    }

    private long fold(int table) {
        sum = 17;
        x = made();
        switch (table) {
            case 0: case 1: case 2: case 3: foldDarts(table); break;
            case 4: case 5: foldChances(table); break;
            case 6: case 7: case 8: case 9: foldRaces(table); break;
            case 10: foldWays(); break;
            case 11: foldFinishes(); break;
            case 12: foldTexts(); break;
            default: foldLegs();
        }
        return sum;
    }

    private DartMind made() {
        DartMind made = new DartMind();
        made.hand(0, 0, hands[1]);
        made.hand(0, 1, hands[2]);
        made.hand(1, 0, hands[3]);
        made.hand(1, 1, hands[4]);
        made.out(hands[0]);
        calls = 5;
        return made;
    }

    /** The object, or a like one, if it would be worn out by so many calls more. */
    private DartMind fresh(int more) {
        if (calls + more > MOST_CALLS) {
            x = made();
        }
        calls += more;
        return x;
    }

    private void add(long answer) {
        sum = sum * 1000003 + answer;
    }

    private void foldDarts(int table) {
        for (int player = 0; player < 2; player++) {
            for (int rest = 0; rest <= 502; rest++) {
                DartMind y = fresh(1);
                switch (table) {
                    case 0: add(y.darts(player, rest)); break;
                    case 1: add(y.dartsCut(player, rest)); break;
                    case 2: add(y.thousandths(player, rest)); break;
                    default: add(y.aim(player, rest));
                }
            }
        }
    }

    private void foldChances(int table) {
        for (int player = 0; player < 2; player++) {
            for (int rest = 0; rest <= 181; rest++) {
                for (int k = -1; k <= 4; k++) {
                    DartMind y = fresh(1);
                    add(table == 4 ? y.chance(player, rest, k) : y.chanceAim(player, rest, k));
                }
            }
        }
    }

    private void foldRaces(int table) {
        for (int r = 0; r <= 25; r++) {
            for (int q = 0; q <= 25; q++) {
                DartMind y = fresh(2);
                switch (table) {
                    case 6: add(y.race(r, q, 0)); add(y.race(r, q, 1)); break;
                    case 7: add(y.raceAim(r, q, 0)); add(y.raceAim(r, q, 1)); break;
                    case 8: add(y.settled(r, q)); break;
                    default: add(y.percent(r, q));
                }
            }
        }
    }

    private void foldWays() {
        for (int rest = 0; rest <= 181; rest++) {
            for (int k = -1; k <= 4; k++) {
                add(fresh(1).ways(rest, k));
            }
        }
    }

    private void foldFinishes() {
        for (int rest = 0; rest <= 181; rest++) {
            int all = fresh(1).ways(rest, 0);
            for (int i = 0; i <= all; i += all < 200 ? 1 : 13) {
                for (int j = -1; j <= 3; j++) {
                    add(fresh(1).way(rest, i, j));
                }
            }
        }
    }

    private void foldTexts() {
        for (int rest = 0; rest <= 181; rest++) {
            int all = fresh(1).ways(rest, 0);
            for (int i = 0; i <= all; i += all < 200 ? 1 : 29) {
                DartMind y = fresh(12);
                int length = y.spell(rest, i);
                add(length);
                for (int at = 0; at < length; at++) {
                    add(y.paper(at));
                }
            }
        }
    }

    private void foldLegs() {
        for (int leg = 0; leg < 12; leg++) {
            x = made();
            x.start(2 + leg * leg * 4);
            x.seed(leg % 2 == 1 ? leg * 7654321 - 2000000000 : leg);
            for (int i = 0; i < 14; i++) {
                add(x.minds(1 + (i * 5 + leg) % 12));
                add(x.throwsAt(1 + (i * 17 + leg * 3) % 62));
                for (int what = 0; what < 26; what++) {
                    add(x.told(what));
                }
                add(x.average(0));
                add(x.average(1));
            }
        }
    }
}
