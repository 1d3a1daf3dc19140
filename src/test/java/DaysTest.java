/** Promises 53 to 55: ODDS, BEST DAY, what ICE BEARS on the mean. */
public final class DaysTest {
    public static void main(String[] args) {
        refused();
        odds();
        bounds();
        bestDays();
        means();
        Check.end();
    }

    private static GooseIce small() {
        return Check.on("shore s;ice a bears 8;ice b bears 0;way s a;walker v weighs 3 at s;");
    }

    private static void refused() {
        GooseIce x = small();
        Check.no("odds of a SHORE", x, x.odds(0, 1, 1, 1, 1), 1);
        Check.no("odds of no CELL", x, x.odds(3, 1, 1, 1, 1), 1);
        Check.no("odds of less than 0", x, x.odds(1, -1, 1, 1, 1), 1);
        Check.no("odds of 1000", x, x.odds(1, 1000, 1, 1, 1), 1);
        Check.no("odds in -1", x, x.odds(1, 1, -1, 1, 1), 1);
        Check.no("odds in 11", x, x.odds(1, 1, 11, 1, 1), 1);
        Check.no("odds by f -1", x, x.odds(1, 1, 1, -1, 1), 1);
        Check.no("odds by t -1", x, x.odds(1, 1, 1, 1, -1), 1);
        Check.no("odds by 17 sixteenths", x, x.odds(1, 1, 1, 9, 8), 1);
        Check.no("odds by very many", x, x.odds(1, 1, 1, Integer.MAX_VALUE, Integer.MAX_VALUE), 1);
        Check.none("bestDay of a SHORE", x, x.bestDay(0, 1, 1, 1, 1), 1);
        Check.none("bestDay of 1000", x, x.bestDay(1, 1000, 1, 1, 1), 1);
        Check.none("bestDay of the next 11", x, x.bestDay(1, 1, 11, 1, 1), 1);
        Check.none("bestDay by 17", x, x.bestDay(1, 1, 1, 17, 0), 1);
        Check.no("meanIn of a SHORE", x, x.meanIn(0, 1, 1, 1), 1);
        Check.no("meanIn 11", x, x.meanIn(1, 11, 1, 1), 1);
        Check.no("meanIn by 17", x, x.meanIn(1, 1, 0, 17), 1);
        Check.due("top()", x.top(), 0);
        Check.due("bottom()", x.bottom(), 1);
    }

    private static void odds() {
        GooseIce x = small();
        Check.fraction("odds of what it BEARS, today", x, x.odds(1, 8, 0, 5, 5), 1, 1);
        Check.fraction("odds of more, today", x, x.odds(1, 9, 0, 5, 5), 0, 1);
        Check.fraction("odds of 9 tomorrow", x, x.odds(1, 9, 1, 6, 5), 3, 8);
        Check.fraction("odds of 8 tomorrow", x, x.odds(1, 8, 1, 6, 5), 11, 16);
        Check.fraction("odds of 18 in 10 by 1", x, x.odds(1, 18, 10, 1, 0), 1, 1L << 40);
        Check.fraction("odds of 18 in 10 by 16", x, x.odds(1, 18, 10, 16, 0), 1, 1);
        Check.fraction("odds of 19 in 10 by 16", x, x.odds(1, 19, 10, 16, 0), 0, 1);
        // Two DAYS of 8 and 8 sixteenths: 10, 8, 8 or 6.
        Check.fraction("odds of 8 in 2", x, x.odds(1, 8, 2, 8, 8), 3, 4);
        x.sendTo(0, 1);
        x.step(1);
        Check.fraction("odds by what it BEARS, not STRENGTH", x, x.odds(1, 8, 0, 0, 0), 1, 1);
        x.melt(1);
        Check.fraction("odds of BROKEN ICE", x, x.odds(1, 1, 1, 4, 0), 1, 4);
    }

    private static void bounds() {
        GooseIce x = small();
        // From 0: less is 0 still; then 1 by a half of what is left.
        Check.fraction("odds of 1 from 0 in 2 by 8, 8", x, x.odds(2, 1, 2, 8, 8), 1, 2);
        Check.fraction("odds of 0 from 0", x, x.odds(2, 0, 10, 0, 16), 1, 1);
        Check.fraction("meanIn from 0", x, x.meanIn(2, 10, 0, 16), 0, 1);
        for (int k = 0; k < 50; k++) {
            x.frost(20);
        }
        Check.well("ice(1, 0)", x, x.ice(1, 0), 999);
        Check.fraction("odds of 999 in 10 by 16", x, x.odds(1, 999, 10, 16, 0), 1, 1);
        Check.fraction("meanIn from 999 by 8, 8", x, x.meanIn(1, 1, 8, 8), 1997, 2);
        Check.fraction("odds of 999 in 2 by 8, 8", x, x.odds(1, 999, 2, 8, 8), 1, 2);
    }

    private static void bestDays() {
        GooseIce x = small();
        Check.fraction("odds ahead of bestDay", x, x.odds(1, 9, 1, 4, 4), 1, 4);
        Check.well("bestDay of what it BEARS: today", x, x.bestDay(1, 8, 10, 4, 4), 0);
        Check.well("bestDay of 1 more by 16", x, x.bestDay(1, 9, 10, 16, 0), 1);
        Check.well("bestDay of 3 more by 16", x, x.bestDay(1, 11, 10, 16, 0), 3);
        Check.well("bestDay of 3 more of 2", x, x.bestDay(1, 11, 2, 16, 0), 0);
        Check.well("bestDay of what can't be", x, x.bestDay(1, 999, 10, 8, 8), 0);
        // By 8, 8: 1 more is 1/2 on DAY 1, 1/4 on DAY 2, 1/2 again on DAY 3.
        Check.well("bestDay of several: the first", x, x.bestDay(1, 9, 3, 8, 8), 1);
        Check.well("bestDay of 0 days", x, x.bestDay(1, 9, 0, 8, 8), 0);
        Check.well("bestDay of the last", x, x.bestDay(1, 9, 10, 1, 0), 10);
        Check.due("top() stays", x.top(), 1);
        Check.due("bottom() stays", x.bottom(), 4);
    }

    private static void means() {
        GooseIce x = small();
        Check.fraction("meanIn(1, 0, 3, 5)", x, x.meanIn(1, 0, 3, 5), 8, 1);
        Check.fraction("meanIn(1, 4, 8, 4)", x, x.meanIn(1, 4, 8, 4), 9, 1);
        Check.fraction("meanIn(1, 3, 3, 0)", x, x.meanIn(1, 3, 3, 0), 137, 16);
        // Nine or ten times 1 less would be below 0, so it is a bit above 8 - 10/16.
        Check.fraction("meanIn(1, 10, 0, 1)", x, x.meanIn(1, 10, 0, 1), 1013612281875L, 137438953472L);
    }
}
