set_option maxRecDepth 20000 in
theorem uw_addEnvelope : (Jvm.Cond.codeWith ({ cls := "EnvelopePlannerLaw", name := "addEnvelope", desc := "(LEnvelopePlanner;II[J)I" } : Jvm.MethodName) method_3_code (5 : Nat) (Option.some Jvm.ClassFile.FieldType.int) [((0 : Nat), (10 : Nat), (13 : Nat), (13 : Nat)), ((0 : Nat), (10 : Nat), (17 : Nat), (15 : Nat))]) ∈ wU := wu_3 111 rfl rfl
set_option maxRecDepth 20000 in
theorem uw_setCap : (Jvm.Cond.codeWith ({ cls := "EnvelopePlannerLaw", name := "setCap", desc := "(LEnvelopePlanner;II[J)I" } : Jvm.MethodName) method_4_code (5 : Nat) (Option.some Jvm.ClassFile.FieldType.int) [((0 : Nat), (10 : Nat), (13 : Nat), (20 : Nat)), ((0 : Nat), (10 : Nat), (17 : Nat), (13 : Nat)), ((0 : Nat), (10 : Nat), (21 : Nat), (15 : Nat))]) ∈ wU := wu_3 229 rfl rfl
set_option maxRecDepth 20000 in
theorem uw_setRollover : (Jvm.Cond.codeWith ({ cls := "EnvelopePlannerLaw", name := "setRollover", desc := "(LEnvelopePlanner;II[J)I" } : Jvm.MethodName) method_5_code (5 : Nat) (Option.some Jvm.ClassFile.FieldType.int) [((0 : Nat), (10 : Nat), (13 : Nat), (20 : Nat)), ((0 : Nat), (10 : Nat), (17 : Nat), (13 : Nat)), ((0 : Nat), (10 : Nat), (21 : Nat), (15 : Nat))]) ∈ wU := wu_4 17 rfl rfl
set_option maxRecDepth 20000 in
theorem uw_addRule : (Jvm.Cond.codeWith ({ cls := "EnvelopePlannerLaw", name := "addRule", desc := "(LEnvelopePlanner;III[J)I" } : Jvm.MethodName) method_6_code (6 : Nat) (Option.some Jvm.ClassFile.FieldType.int) [((0 : Nat), (12 : Nat), (15 : Nat), (20 : Nat)), ((0 : Nat), (12 : Nat), (19 : Nat), (13 : Nat)), ((0 : Nat), (12 : Nat), (23 : Nat), (15 : Nat))]) ∈ wU := wu_4 24 rfl rfl
set_option maxRecDepth 20000 in
theorem uw_removeRule : (Jvm.Cond.codeWith ({ cls := "EnvelopePlannerLaw", name := "removeRule", desc := "(LEnvelopePlanner;I[J)I" } : Jvm.MethodName) method_7_code (4 : Nat) (Option.some Jvm.ClassFile.FieldType.int) [((0 : Nat), (9 : Nat), (12 : Nat), (20 : Nat)), ((0 : Nat), (9 : Nat), (15 : Nat), (15 : Nat))]) ∈ wU := wu_4 31 rfl rfl
set_option maxRecDepth 20000 in
theorem uw_addLink : (Jvm.Cond.codeWith ({ cls := "EnvelopePlannerLaw", name := "addLink", desc := "(LEnvelopePlanner;IIII[J)I" } : Jvm.MethodName) method_8_code (7 : Nat) (Option.some Jvm.ClassFile.FieldType.int) [((0 : Nat), (14 : Nat), (17 : Nat), (20 : Nat)), ((0 : Nat), (14 : Nat), (21 : Nat), (13 : Nat)), ((0 : Nat), (14 : Nat), (25 : Nat), (15 : Nat))]) ∈ wU := wu_4 38 rfl rfl
set_option maxRecDepth 20000 in
theorem uw_removeLink : (Jvm.Cond.codeWith ({ cls := "EnvelopePlannerLaw", name := "removeLink", desc := "(LEnvelopePlanner;I[J)I" } : Jvm.MethodName) method_9_code (4 : Nat) (Option.some Jvm.ClassFile.FieldType.int) [((0 : Nat), (9 : Nat), (12 : Nat), (20 : Nat)), ((0 : Nat), (9 : Nat), (15 : Nat), (15 : Nat))]) ∈ wU := wu_4 45 rfl rfl
set_option maxRecDepth 20000 in
theorem uw_addItem : (Jvm.Cond.codeWith ({ cls := "EnvelopePlannerLaw", name := "addItem", desc := "(LEnvelopePlanner;IIII[J)I" } : Jvm.MethodName) method_10_code (7 : Nat) (Option.some Jvm.ClassFile.FieldType.int) [((0 : Nat), (14 : Nat), (17 : Nat), (20 : Nat)), ((0 : Nat), (14 : Nat), (21 : Nat), (13 : Nat)), ((0 : Nat), (14 : Nat), (25 : Nat), (15 : Nat))]) ∈ wU := wu_4 52 rfl rfl
set_option maxRecDepth 20000 in
theorem uw_removeItem : (Jvm.Cond.codeWith ({ cls := "EnvelopePlannerLaw", name := "removeItem", desc := "(LEnvelopePlanner;I[J)I" } : Jvm.MethodName) method_11_code (4 : Nat) (Option.some Jvm.ClassFile.FieldType.int) [((0 : Nat), (9 : Nat), (12 : Nat), (20 : Nat)), ((0 : Nat), (9 : Nat), (15 : Nat), (15 : Nat))]) ∈ wU := wu_4 59 rfl rfl
set_option maxRecDepth 20000 in
theorem uw_receive : (Jvm.Cond.codeWith ({ cls := "EnvelopePlannerLaw", name := "receive", desc := "(LEnvelopePlanner;I[J)I" } : Jvm.MethodName) method_12_code (4 : Nat) (Option.some Jvm.ClassFile.FieldType.int) [((0 : Nat), (9 : Nat), (12 : Nat), (13 : Nat)), ((0 : Nat), (9 : Nat), (15 : Nat), (15 : Nat))]) ∈ wU := wu_4 66 rfl rfl
set_option maxRecDepth 20000 in
theorem uw_spend : (Jvm.Cond.codeWith ({ cls := "EnvelopePlannerLaw", name := "spend", desc := "(LEnvelopePlanner;II[J)I" } : Jvm.MethodName) method_13_code (5 : Nat) (Option.some Jvm.ClassFile.FieldType.int) [((0 : Nat), (10 : Nat), (13 : Nat), (20 : Nat)), ((0 : Nat), (10 : Nat), (17 : Nat), (13 : Nat)), ((0 : Nat), (10 : Nat), (21 : Nat), (15 : Nat))]) ∈ wU := wu_4 73 rfl rfl
set_option maxRecDepth 20000 in
theorem uw_move : (Jvm.Cond.codeWith ({ cls := "EnvelopePlannerLaw", name := "move", desc := "(LEnvelopePlanner;III[J)I" } : Jvm.MethodName) method_14_code (6 : Nat) (Option.some Jvm.ClassFile.FieldType.int) [((0 : Nat), (12 : Nat), (15 : Nat), (20 : Nat)), ((0 : Nat), (12 : Nat), (19 : Nat), (13 : Nat)), ((0 : Nat), (12 : Nat), (23 : Nat), (15 : Nat))]) ∈ wU := wu_4 80 rfl rfl
set_option maxRecDepth 20000 in
theorem uw_advance : (Jvm.Cond.codeWith ({ cls := "EnvelopePlannerLaw", name := "advance", desc := "(LEnvelopePlanner;I[J)I" } : Jvm.MethodName) method_15_code (4 : Nat) (Option.some Jvm.ClassFile.FieldType.int) [((0 : Nat), (9 : Nat), (12 : Nat), (13 : Nat)), ((0 : Nat), (9 : Nat), (15 : Nat), (15 : Nat))]) ∈ wU := wu_4 87 rfl rfl
set_option maxRecDepth 20000 in
theorem uw_envelope : (Jvm.Cond.codeWith ({ cls := "EnvelopePlannerLaw", name := "envelope", desc := "(LEnvelopePlanner;II[J)I" } : Jvm.MethodName) method_16_code (5 : Nat) (Option.some Jvm.ClassFile.FieldType.int) [((0 : Nat), (9 : Nat), (12 : Nat), (20 : Nat)), ((0 : Nat), (9 : Nat), (16 : Nat), (13 : Nat))]) ∈ wU := wu_4 94 rfl rfl
set_option maxRecDepth 20000 in
theorem uw_rule : (Jvm.Cond.codeWith ({ cls := "EnvelopePlannerLaw", name := "rule", desc := "(LEnvelopePlanner;II[J)I" } : Jvm.MethodName) method_17_code (5 : Nat) (Option.some Jvm.ClassFile.FieldType.int) [((0 : Nat), (10 : Nat), (13 : Nat), (20 : Nat)), ((0 : Nat), (10 : Nat), (17 : Nat), (13 : Nat))]) ∈ wU := wu_4 118 rfl rfl
set_option maxRecDepth 20000 in
theorem uw_split : (Jvm.Cond.codeWith ({ cls := "EnvelopePlannerLaw", name := "split", desc := "(LEnvelopePlanner;II[J)I" } : Jvm.MethodName) method_18_code (5 : Nat) (Option.some Jvm.ClassFile.FieldType.int) [((0 : Nat), (10 : Nat), (13 : Nat), (20 : Nat)), ((0 : Nat), (10 : Nat), (17 : Nat), (13 : Nat))]) ∈ wU := wu_4 130 rfl rfl
set_option maxRecDepth 20000 in
theorem uw_link : (Jvm.Cond.codeWith ({ cls := "EnvelopePlannerLaw", name := "link", desc := "(LEnvelopePlanner;II[J)I" } : Jvm.MethodName) method_19_code (5 : Nat) (Option.some Jvm.ClassFile.FieldType.int) [((0 : Nat), (9 : Nat), (12 : Nat), (20 : Nat)), ((0 : Nat), (9 : Nat), (16 : Nat), (13 : Nat))]) ∈ wU := wu_4 142 rfl rfl
set_option maxRecDepth 20000 in
theorem uw_item : (Jvm.Cond.codeWith ({ cls := "EnvelopePlannerLaw", name := "item", desc := "(LEnvelopePlanner;II[J)I" } : Jvm.MethodName) method_20_code (5 : Nat) (Option.some Jvm.ClassFile.FieldType.int) [((0 : Nat), (10 : Nat), (13 : Nat), (20 : Nat)), ((0 : Nat), (10 : Nat), (17 : Nat), (13 : Nat))]) ∈ wU := wu_4 154 rfl rfl
set_option maxRecDepth 20000 in
theorem uw_total : (Jvm.Cond.codeWith ({ cls := "EnvelopePlannerLaw", name := "total", desc := "(LEnvelopePlanner;I[J)I" } : Jvm.MethodName) method_21_code (4 : Nat) (Option.some Jvm.ClassFile.FieldType.int) [((0 : Nat), (8 : Nat), (11 : Nat), (13 : Nat))]) ∈ wU := wu_4 166 rfl rfl
set_option maxRecDepth 20000 in
theorem uw_savedShare : (Jvm.Cond.codeWith ({ cls := "EnvelopePlannerLaw", name := "savedShare", desc := "(LEnvelopePlanner;[D)I" } : Jvm.MethodName) method_22_code (3 : Nat) (Option.some Jvm.ClassFile.FieldType.int) [((0 : Nat), (7 : Nat), (10 : Nat), (82 : Nat))]) ∈ wU := wu_4 181 rfl rfl
set_option maxRecDepth 20000 in
theorem uw_forecast : (Jvm.Cond.codeWith ({ cls := "EnvelopePlannerLaw", name := "forecast", desc := "(LEnvelopePlanner;II[J)I" } : Jvm.MethodName) method_23_code (5 : Nat) (Option.some Jvm.ClassFile.FieldType.int) [((0 : Nat), (9 : Nat), (12 : Nat), (13 : Nat))]) ∈ wU := wu_4 205 rfl rfl
set_option maxRecDepth 20000 in
theorem uw_daysUntil : (Jvm.Cond.codeWith ({ cls := "EnvelopePlannerLaw", name := "daysUntil", desc := "(LEnvelopePlanner;II[J)I" } : Jvm.MethodName) method_24_code (5 : Nat) (Option.some Jvm.ClassFile.FieldType.int) [((0 : Nat), (10 : Nat), (13 : Nat), (20 : Nat)), ((0 : Nat), (10 : Nat), (17 : Nat), (13 : Nat)), ((0 : Nat), (10 : Nat), (21 : Nat), (90 : Nat))]) ∈ wU := wu_4 216 rfl rfl
set_option maxRecDepth 20000 in
theorem uw_spare : (Jvm.Cond.codeWith ({ cls := "EnvelopePlannerLaw", name := "spare", desc := "(LEnvelopePlanner;II[J)I" } : Jvm.MethodName) method_25_code (5 : Nat) (Option.some Jvm.ClassFile.FieldType.int) [((0 : Nat), (10 : Nat), (13 : Nat), (20 : Nat)), ((0 : Nat), (10 : Nat), (17 : Nat), (13 : Nat))]) ∈ wU := wu_5 1 rfl rfl
set_option maxRecDepth 20000 in
theorem uw_fork : (Jvm.Cond.codeWith ({ cls := "EnvelopePlannerLaw", name := "fork", desc := "(LEnvelopePlanner;[J)I" } : Jvm.MethodName) method_26_code (3 : Nat) (Option.some Jvm.ClassFile.FieldType.int) [((0 : Nat), (8 : Nat), (11 : Nat), (15 : Nat))]) ∈ wU := wu_5 16 rfl rfl
set_option maxRecDepth 20000 in
theorem uw_select : (Jvm.Cond.codeWith ({ cls := "EnvelopePlannerLaw", name := "select", desc := "(LEnvelopePlanner;I[J)I" } : Jvm.MethodName) method_27_code (4 : Nat) (Option.some Jvm.ClassFile.FieldType.int) [((0 : Nat), (9 : Nat), (12 : Nat), (90 : Nat))]) ∈ wU := wu_5 37 rfl rfl
set_option maxRecDepth 20000 in
theorem uw_discard : (Jvm.Cond.codeWith ({ cls := "EnvelopePlannerLaw", name := "discard", desc := "(LEnvelopePlanner;I[J)I" } : Jvm.MethodName) method_28_code (4 : Nat) (Option.some Jvm.ClassFile.FieldType.int) [((0 : Nat), (9 : Nat), (12 : Nat), (90 : Nat)), ((0 : Nat), (9 : Nat), (15 : Nat), (15 : Nat))]) ∈ wU := wu_5 46 rfl rfl
set_option maxRecDepth 20000 in
theorem uw_merge : (Jvm.Cond.codeWith ({ cls := "EnvelopePlannerLaw", name := "merge", desc := "(LEnvelopePlanner;I[J)I" } : Jvm.MethodName) method_29_code (4 : Nat) (Option.some Jvm.ClassFile.FieldType.int) [((0 : Nat), (9 : Nat), (12 : Nat), (90 : Nat)), ((0 : Nat), (9 : Nat), (15 : Nat), (15 : Nat)), ((0 : Nat), (9 : Nat), (18 : Nat), (108 : Nat))]) ∈ wU := wu_5 62 rfl rfl
set_option maxRecDepth 20000 in
theorem uw_conflict : (Jvm.Cond.codeWith ({ cls := "EnvelopePlannerLaw", name := "conflict", desc := "(LEnvelopePlanner;Z[J)I" } : Jvm.MethodName) method_30_code (4 : Nat) (Option.some Jvm.ClassFile.FieldType.int) [((0 : Nat), (9 : Nat), (12 : Nat), (90 : Nat))]) ∈ wU := wu_5 105 rfl rfl
set_option maxRecDepth 20000 in
theorem uw_branch : (Jvm.Cond.codeWith ({ cls := "EnvelopePlannerLaw", name := "branch", desc := "(LEnvelopePlanner;II[J)I" } : Jvm.MethodName) method_31_code (5 : Nat) (Option.some Jvm.ClassFile.FieldType.int) [((0 : Nat), (9 : Nat), (12 : Nat), (90 : Nat)), ((0 : Nat), (9 : Nat), (16 : Nat), (13 : Nat))]) ∈ wU := wu_5 113 rfl rfl
set_option maxRecDepth 20000 in
theorem uw_difference : (Jvm.Cond.codeWith ({ cls := "EnvelopePlannerLaw", name := "difference", desc := "(LEnvelopePlanner;III[J)I" } : Jvm.MethodName) method_32_code (6 : Nat) (Option.some Jvm.ClassFile.FieldType.int) [((0 : Nat), (11 : Nat), (14 : Nat), (90 : Nat)), ((0 : Nat), (11 : Nat), (18 : Nat), (20 : Nat))]) ∈ wU := wu_5 122 rfl rfl
set_option maxRecDepth 20000 in
theorem uw_step : (Jvm.Cond.codeWith ({ cls := "EnvelopePlannerLaw", name := "step", desc := "(LEnvelopePlanner;II[J)I" } : Jvm.MethodName) method_33_code (5 : Nat) (Option.some Jvm.ClassFile.FieldType.int) [((0 : Nat), (10 : Nat), (13 : Nat), (20 : Nat)), ((0 : Nat), (10 : Nat), (17 : Nat), (13 : Nat))]) ∈ wU := wu_5 129 rfl rfl
set_option maxRecDepth 20000 in
theorem uw_undo : (Jvm.Cond.codeWith ({ cls := "EnvelopePlannerLaw", name := "undo", desc := "(LEnvelopePlanner;[J)I" } : Jvm.MethodName) method_34_code (3 : Nat) (Option.some Jvm.ClassFile.FieldType.int) [((0 : Nat), (8 : Nat), (11 : Nat), (15 : Nat))]) ∈ wU := wu_5 136 rfl rfl
set_option maxRecDepth 20000 in
theorem uw_dropStep : (Jvm.Cond.codeWith ({ cls := "EnvelopePlannerLaw", name := "dropStep", desc := "(LEnvelopePlanner;I[J)I" } : Jvm.MethodName) method_35_code (4 : Nat) (Option.some Jvm.ClassFile.FieldType.int) [((0 : Nat), (9 : Nat), (12 : Nat), (20 : Nat)), ((0 : Nat), (9 : Nat), (15 : Nat), (108 : Nat))]) ∈ wU := wu_5 148 rfl rfl
set_option maxRecDepth 20000 in
theorem uw_feed : (Jvm.Cond.codeWith ({ cls := "EnvelopePlannerLaw", name := "feed", desc := "(LEnvelopePlanner;C[J)I" } : Jvm.MethodName) method_36_code (4 : Nat) (Option.some Jvm.ClassFile.FieldType.int) [((0 : Nat), (9 : Nat), (12 : Nat), (15 : Nat))]) ∈ wU := wu_5 156 rfl rfl
set_option maxRecDepth 20000 in
theorem uw_restore : (Jvm.Cond.codeWith ({ cls := "EnvelopePlannerLaw", name := "restore", desc := "(LEnvelopePlanner;[J)I" } : Jvm.MethodName) method_37_code (3 : Nat) (Option.some Jvm.ClassFile.FieldType.int) [((0 : Nat), (8 : Nat), (11 : Nat), (15 : Nat))]) ∈ wU := wu_5 168 rfl rfl
