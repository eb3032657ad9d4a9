/** Promises 5 role and 6 needs, and what they mean for events. */
public final class RightsTest {
    public static void main(String[] args) {
        roleTakesUsersAndRoles();
        needsTakesKindsAndRoles();
        rolesStartAtZero();
        aGreaterRoleIsEnough();
        anyKindCanNeedARole();
        changesUntilTheFirstEvent();
        roleInAConditionIsExact();
        Check.end("RightsTest");
    }

    private static void roleTakesUsersAndRoles() {
        IssueFold x = new IssueFold();
        for (int a = -2; a <= 6; a++) {
            for (int b = -2; b <= 6; b++) {
                int first = a;
                int second = b;
                boolean fine = a >= 0 && a <= 3 && b >= 0 && b <= 3;
                String due = fine ? "nothing" : "IllegalArgumentException";
                Check.due("role " + a + " " + b, Check.thrownBy(() -> x.role(first, second)), due);
                Check.due("needs " + a + " " + b, Check.thrownBy(() -> x.needs(first, second)), due);
            }
        }
        Check.illegalArgument("role", () -> x.role(Integer.MIN_VALUE, 0));
        Check.illegalArgument("role", () -> x.role(0, Integer.MAX_VALUE));
    }

    private static void needsTakesKindsAndRoles() {
        IssueFold x = new IssueFold();
        Check.illegalArgument("needs", () -> x.needs(Integer.MAX_VALUE, 0));
        Check.illegalArgument("needs", () -> x.needs(0, Integer.MIN_VALUE));
        Check.illegalArgument("needs", () -> x.needs(4, 0));
        Check.illegalArgument("needs", () -> x.needs(3, 4));
    }

    private static void rolesStartAtZero() {
        IssueFold x = Use.with("A>B:r=0;");
        for (int user = 0; user < 4; user++) {
            int code = x.act(0, Use.OPEN, user, 0, 0);
            Check.due("open", code, 3 * user);
            Check.due("move with role 0", x.act(0, Use.MOVE, user, code, 1), code + 1);
            Check.due("rank", x.act(0, Use.RANK, user, code, 1), code + 2);
        }
    }

    private static void aGreaterRoleIsEnough() {
        for (int role = 0; role < 4; role++) {
            for (int need = 0; need < 4; need++) {
                IssueFold x = Use.with("A>B;");
                x.role(2, role);
                x.needs(Use.OPEN, need);
                Check.due("role " + role + " where " + need + " is needed",
                    Check.thrownBy(() -> x.act(1, Use.OPEN, 2, 0, 0)),
                    role >= need ? "nothing" : "UnsupportedOperationException");
            }
        }
    }

    private static void anyKindCanNeedARole() {
        int[] value = {5, 1, 6, 3};
        for (int kind = 0; kind < 4; kind++) {
            IssueFold x = Use.with("A>B;");
            x.role(1, 2);
            x.role(3, 1);
            x.needs(kind, 2);
            x.act(0, Use.OPEN, 1, 0, 0);
            int k = kind;
            Check.unsupported("kind " + kind + " by 0", () -> x.act(0, k, 0, 0, value[k]));
            Check.unsupported("kind " + kind + " by 3", () -> x.act(0, k, 3, 0, value[k]));
            Check.due("kind " + kind + " by 1", x.act(0, k, 1, 0, value[k]), 1);
            Check.due("another kind by 0", x.act(0, kind == 2 ? 3 : 2, 0, 0, 2), 2);
        }
    }

    private static void changesUntilTheFirstEvent() {
        IssueFold x = new IssueFold();
        x.role(0, 3);
        x.needs(Use.OPEN, 3);
        x.role(0, 1);
        Use.write(x, "A>B;");
        x.compile();
        Check.unsupported("the latest role counts", () -> x.act(0, Use.OPEN, 0, 0, 0));
        x.role(0, 2);
        x.needs(Use.OPEN, 1);
        x.needs(Use.OPEN, 2);
        x.act(2, Use.OPEN, 0, 0, 0);
        Check.illegalState("role after an event", () -> x.role(0, 0));
        Check.illegalState("needs after an event", () -> x.needs(0, 0));
        Check.illegalArgument("role of no user after an event", () -> x.role(4, 0));
        Check.illegalArgument("role of no role after an event", () -> x.role(0, -1));
        Check.illegalArgument("needs of no kind after an event", () -> x.needs(-1, 0));
        Check.illegalArgument("needs of no role after an event", () -> x.needs(0, 4));
        Check.due("nothing has changed", x.act(2, Use.OPEN, 0, 0, 0), 33);
        Check.unsupported("nothing has changed", () -> x.act(2, Use.OPEN, 1, 0, 0));
    }

    private static void roleInAConditionIsExact() {
        for (int role = 0; role < 4; role++) {
            for (int asked = 0; asked < 10; asked++) {
                IssueFold x = Use.with("A>B:r=" + asked + ";");
                x.role(3, role);
                x.act(0, Use.OPEN, 3, 0, 0);
                Check.due("r=" + asked + " with role " + role,
                    Check.thrownBy(() -> x.act(0, Use.MOVE, 3, 0, 1)),
                    role == asked ? "nothing" : "UnsupportedOperationException");
            }
        }
    }
}
