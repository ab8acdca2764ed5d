section
-- ===== PART A: goes FIRST, ahead of the names: the tables' words, and 'selects' of the private methods out of them =====
/-- a private method of a class that the tables say can be made, by its rows of tables_1 -/
def lw_okq (q : MethodName × Nat) : Prop := (q.1.cls ≠ "java/lang/invoke/MethodHandle" ∧ q.1.cls ≠ "java/lang/invoke/VarHandle") ∧ Cond.instantiable q.1.cls q.2 ∈ tables_1 ∧ Cond.privateMethod q.1 ∈ tables_1 ∧ Cond.instanceMethod q.1 ∈ tables_1
theorem lw_p0 : lw_okq (⟨"TapCascadeModel", "stands", "(IIIIIIII)V"⟩, 24) := ⟨⟨by decide +kernel, by decide +kernel⟩, List.mem_of_getElem? (i := 633) (by decide +kernel), List.mem_of_getElem? (i := 639) (by decide +kernel), List.mem_of_getElem? (i := 640) (by decide +kernel)⟩
theorem lw_p1 : lw_okq (⟨"TapCascadeModel", "reads", "()I"⟩, 24) := ⟨⟨by decide +kernel, by decide +kernel⟩, List.mem_of_getElem? (i := 633) (by decide +kernel), List.mem_of_getElem? (i := 731) (by decide +kernel), List.mem_of_getElem? (i := 732) (by decide +kernel)⟩
theorem lw_p2 : lw_okq (⟨"TapCascadeModel", "isHere", "(I)Z"⟩, 24) := ⟨⟨by decide +kernel, by decide +kernel⟩, List.mem_of_getElem? (i := 633) (by decide +kernel), List.mem_of_getElem? (i := 735) (by decide +kernel), List.mem_of_getElem? (i := 736) (by decide +kernel)⟩
theorem lw_p3 : lw_okq (⟨"TapCascadeModel", "takesNumber", "(II)I"⟩, 24) := ⟨⟨by decide +kernel, by decide +kernel⟩, List.mem_of_getElem? (i := 633) (by decide +kernel), List.mem_of_getElem? (i := 739) (by decide +kernel), List.mem_of_getElem? (i := 740) (by decide +kernel)⟩
theorem lw_p4 : lw_okq (⟨"TapCascadeModel", "takes", "(I)V"⟩, 24) := ⟨⟨by decide +kernel, by decide +kernel⟩, List.mem_of_getElem? (i := 633) (by decide +kernel), List.mem_of_getElem? (i := 743) (by decide +kernel), List.mem_of_getElem? (i := 744) (by decide +kernel)⟩
theorem lw_p5 : lw_okq (⟨"TapCascadeModel", "takesStage", "()V"⟩, 24) := ⟨⟨by decide +kernel, by decide +kernel⟩, List.mem_of_getElem? (i := 633) (by decide +kernel), List.mem_of_getElem? (i := 747) (by decide +kernel), List.mem_of_getElem? (i := 748) (by decide +kernel)⟩
theorem lw_p6 : lw_okq (⟨"TapCascadeModel", "notes", "()V"⟩, 24) := ⟨⟨by decide +kernel, by decide +kernel⟩, List.mem_of_getElem? (i := 633) (by decide +kernel), List.mem_of_getElem? (i := 765) (by decide +kernel), List.mem_of_getElem? (i := 766) (by decide +kernel)⟩
theorem lw_p7 : lw_okq (⟨"TapCascadeModel", "isStage", "(I)Z"⟩, 24) := ⟨⟨by decide +kernel, by decide +kernel⟩, List.mem_of_getElem? (i := 633) (by decide +kernel), List.mem_of_getElem? (i := 773) (by decide +kernel), List.mem_of_getElem? (i := 774) (by decide +kernel)⟩
theorem lw_p8 : lw_okq (⟨"TapCascadeModel", "of", "(II)I"⟩, 24) := ⟨⟨by decide +kernel, by decide +kernel⟩, List.mem_of_getElem? (i := 633) (by decide +kernel), List.mem_of_getElem? (i := 777) (by decide +kernel), List.mem_of_getElem? (i := 778) (by decide +kernel)⟩
theorem lw_p9 : lw_okq (⟨"TapCascadeModel", "puts", "(III)V"⟩, 24) := ⟨⟨by decide +kernel, by decide +kernel⟩, List.mem_of_getElem? (i := 633) (by decide +kernel), List.mem_of_getElem? (i := 781) (by decide +kernel), List.mem_of_getElem? (i := 782) (by decide +kernel)⟩
theorem lw_p10 : lw_okq (⟨"TapCascadeModel", "stuck", "()I"⟩, 24) := ⟨⟨by decide +kernel, by decide +kernel⟩, List.mem_of_getElem? (i := 633) (by decide +kernel), List.mem_of_getElem? (i := 789) (by decide +kernel), List.mem_of_getElem? (i := 790) (by decide +kernel)⟩
theorem lw_p11 : lw_okq (⟨"TapCascadeModel", "ticks", "()V"⟩, 24) := ⟨⟨by decide +kernel, by decide +kernel⟩, List.mem_of_getElem? (i := 633) (by decide +kernel), List.mem_of_getElem? (i := 797) (by decide +kernel), List.mem_of_getElem? (i := 798) (by decide +kernel)⟩
theorem lw_p12 : lw_okq (⟨"TapCascadeModel", "lays", "()V"⟩, 24) := ⟨⟨by decide +kernel, by decide +kernel⟩, List.mem_of_getElem? (i := 633) (by decide +kernel), List.mem_of_getElem? (i := 801) (by decide +kernel), List.mem_of_getElem? (i := 802) (by decide +kernel)⟩
theorem lw_p13 : lw_okq (⟨"TapCascadeModel", "goodOf", "(I)I"⟩, 24) := ⟨⟨by decide +kernel, by decide +kernel⟩, List.mem_of_getElem? (i := 633) (by decide +kernel), List.mem_of_getElem? (i := 805) (by decide +kernel), List.mem_of_getElem? (i := 806) (by decide +kernel)⟩
theorem lw_p14 : lw_okq (⟨"TapCascadeModel", "counts", "()V"⟩, 24) := ⟨⟨by decide +kernel, by decide +kernel⟩, List.mem_of_getElem? (i := 633) (by decide +kernel), List.mem_of_getElem? (i := 812) (by decide +kernel), List.mem_of_getElem? (i := 813) (by decide +kernel)⟩
theorem lw_p15 : lw_okq (⟨"TapCascadeModel", "passesOn", "()V"⟩, 24) := ⟨⟨by decide +kernel, by decide +kernel⟩, List.mem_of_getElem? (i := 633) (by decide +kernel), List.mem_of_getElem? (i := 816) (by decide +kernel), List.mem_of_getElem? (i := 817) (by decide +kernel)⟩
def lw_privs_1 : List (MethodName × Nat) := [(⟨"TapCascadeModel", "stands", "(IIIIIIII)V"⟩, 24), (⟨"TapCascadeModel", "reads", "()I"⟩, 24), (⟨"TapCascadeModel", "isHere", "(I)Z"⟩, 24), (⟨"TapCascadeModel", "takesNumber", "(II)I"⟩, 24), (⟨"TapCascadeModel", "takes", "(I)V"⟩, 24), (⟨"TapCascadeModel", "takesStage", "()V"⟩, 24), (⟨"TapCascadeModel", "notes", "()V"⟩, 24), (⟨"TapCascadeModel", "isStage", "(I)Z"⟩, 24), (⟨"TapCascadeModel", "of", "(II)I"⟩, 24), (⟨"TapCascadeModel", "puts", "(III)V"⟩, 24), (⟨"TapCascadeModel", "stuck", "()I"⟩, 24), (⟨"TapCascadeModel", "ticks", "()V"⟩, 24), (⟨"TapCascadeModel", "lays", "()V"⟩, 24), (⟨"TapCascadeModel", "goodOf", "(I)I"⟩, 24), (⟨"TapCascadeModel", "counts", "()V"⟩, 24), (⟨"TapCascadeModel", "passesOn", "()V"⟩, 24)]
theorem lw_r1 : ∀ q ∈ lw_privs_1, lw_okq q := List.forall_mem_cons.mpr ⟨lw_p0, List.forall_mem_cons.mpr ⟨lw_p1, List.forall_mem_cons.mpr ⟨lw_p2, List.forall_mem_cons.mpr ⟨lw_p3, List.forall_mem_cons.mpr ⟨lw_p4, List.forall_mem_cons.mpr ⟨lw_p5, List.forall_mem_cons.mpr ⟨lw_p6, List.forall_mem_cons.mpr ⟨lw_p7, List.forall_mem_cons.mpr ⟨lw_p8, List.forall_mem_cons.mpr ⟨lw_p9, List.forall_mem_cons.mpr ⟨lw_p10, List.forall_mem_cons.mpr ⟨lw_p11, List.forall_mem_cons.mpr ⟨lw_p12, List.forall_mem_cons.mpr ⟨lw_p13, List.forall_mem_cons.mpr ⟨lw_p14, List.forall_mem_cons.mpr ⟨lw_p15, fun _ h => absurd h List.not_mem_nil⟩⟩⟩⟩⟩⟩⟩⟩⟩⟩⟩⟩⟩⟩⟩⟩
theorem lw_p16 : lw_okq (⟨"TapCascadeModel", "notesStep", "(I)V"⟩, 24) := ⟨⟨by decide +kernel, by decide +kernel⟩, List.mem_of_getElem? (i := 633) (by decide +kernel), List.mem_of_getElem? (i := 820) (by decide +kernel), List.mem_of_getElem? (i := 821) (by decide +kernel)⟩
theorem lw_p17 : lw_okq (⟨"TapCascadeModel", "settles", "()V"⟩, 24) := ⟨⟨by decide +kernel, by decide +kernel⟩, List.mem_of_getElem? (i := 633) (by decide +kernel), List.mem_of_getElem? (i := 840) (by decide +kernel), List.mem_of_getElem? (i := 841) (by decide +kernel)⟩
theorem lw_p18 : lw_okq (⟨"TapCascadeModel", "isQuiet", "()Z"⟩, 24) := ⟨⟨by decide +kernel, by decide +kernel⟩, List.mem_of_getElem? (i := 633) (by decide +kernel), List.mem_of_getElem? (i := 844) (by decide +kernel), List.mem_of_getElem? (i := 845) (by decide +kernel)⟩
theorem lw_p19 : lw_okq (⟨"TapCascadeModel", "codeOf", "()J"⟩, 24) := ⟨⟨by decide +kernel, by decide +kernel⟩, List.mem_of_getElem? (i := 633) (by decide +kernel), List.mem_of_getElem? (i := 848) (by decide +kernel), List.mem_of_getElem? (i := 849) (by decide +kernel)⟩
theorem lw_p20 : lw_okq (⟨"TapCascadeModel", "findsBest", "()V"⟩, 24) := ⟨⟨by decide +kernel, by decide +kernel⟩, List.mem_of_getElem? (i := 633) (by decide +kernel), List.mem_of_getElem? (i := 857) (by decide +kernel), List.mem_of_getElem? (i := 858) (by decide +kernel)⟩
theorem lw_p21 : lw_okq (⟨"TapCascadeModel", "offOf", "()I"⟩, 24) := ⟨⟨by decide +kernel, by decide +kernel⟩, List.mem_of_getElem? (i := 633) (by decide +kernel), List.mem_of_getElem? (i := 861) (by decide +kernel), List.mem_of_getElem? (i := 862) (by decide +kernel)⟩
theorem lw_p22 : lw_okq (⟨"TapCascadeModel", "nextTaps", "()Z"⟩, 24) := ⟨⟨by decide +kernel, by decide +kernel⟩, List.mem_of_getElem? (i := 633) (by decide +kernel), List.mem_of_getElem? (i := 865) (by decide +kernel), List.mem_of_getElem? (i := 866) (by decide +kernel)⟩
theorem lw_p23 : lw_okq (⟨"TapCascadeModel", "waitOf", "(II)I"⟩, 24) := ⟨⟨by decide +kernel, by decide +kernel⟩, List.mem_of_getElem? (i := 633) (by decide +kernel), List.mem_of_getElem? (i := 883) (by decide +kernel), List.mem_of_getElem? (i := 884) (by decide +kernel)⟩
theorem lw_p24 : lw_okq (⟨"TapCascadeModel", "good", "()I"⟩, 24) := ⟨⟨by decide +kernel, by decide +kernel⟩, List.mem_of_getElem? (i := 633) (by decide +kernel), List.mem_of_getElem? (i := 891) (by decide +kernel), List.mem_of_getElem? (i := 892) (by decide +kernel)⟩
theorem lw_p25 : lw_okq (⟨"TapCascadeModel", "unlike", "()I"⟩, 24) := ⟨⟨by decide +kernel, by decide +kernel⟩, List.mem_of_getElem? (i := 633) (by decide +kernel), List.mem_of_getElem? (i := 895) (by decide +kernel), List.mem_of_getElem? (i := 896) (by decide +kernel)⟩
def lw_privs_2 : List (MethodName × Nat) := [(⟨"TapCascadeModel", "notesStep", "(I)V"⟩, 24), (⟨"TapCascadeModel", "settles", "()V"⟩, 24), (⟨"TapCascadeModel", "isQuiet", "()Z"⟩, 24), (⟨"TapCascadeModel", "codeOf", "()J"⟩, 24), (⟨"TapCascadeModel", "findsBest", "()V"⟩, 24), (⟨"TapCascadeModel", "offOf", "()I"⟩, 24), (⟨"TapCascadeModel", "nextTaps", "()Z"⟩, 24), (⟨"TapCascadeModel", "waitOf", "(II)I"⟩, 24), (⟨"TapCascadeModel", "good", "()I"⟩, 24), (⟨"TapCascadeModel", "unlike", "()I"⟩, 24)]
theorem lw_r2 : ∀ q ∈ lw_privs_2, lw_okq q := List.forall_mem_cons.mpr ⟨lw_p16, List.forall_mem_cons.mpr ⟨lw_p17, List.forall_mem_cons.mpr ⟨lw_p18, List.forall_mem_cons.mpr ⟨lw_p19, List.forall_mem_cons.mpr ⟨lw_p20, List.forall_mem_cons.mpr ⟨lw_p21, List.forall_mem_cons.mpr ⟨lw_p22, List.forall_mem_cons.mpr ⟨lw_p23, List.forall_mem_cons.mpr ⟨lw_p24, List.forall_mem_cons.mpr ⟨lw_p25, fun _ h => absurd h List.not_mem_nil⟩⟩⟩⟩⟩⟩⟩⟩⟩⟩
def lw_privs : List (MethodName × Nat) := lw_privs_1 ++ (lw_privs_2)
def lw_tbl : List Cond := k2_sels lw_privs ++ tables_1
theorem lw_privs_ok : ∀ q ∈ lw_privs, lw_okq q := by
  show ∀ q ∈ lw_privs_1 ++ (lw_privs_2), lw_okq q
  exact List.forall_mem_append.mpr ⟨lw_r1, lw_r2⟩
-- ===== end of PART A; then your names; then what follows =====
end
section
/-! ===== BEGIN words of one list among another's, by their places ===== -/
theorem goodIn_r {big : List Cond} (ws : List Cond) (ps : List Nat) (hp : ws = ps.filterMap (fun i => big[i]?)) (h : ws.all goodWord = true) : GoodIn big ws := by
  intro w hw
  have h1 := List.all_eq_true.mp h w hw
  rw [hp] at hw
  obtain ⟨i, -, hi⟩ := List.mem_filterMap.mp hw
  have hm : w ∈ big := by first | exact List.mem_of_getElem? hi | exact List.getElem?_mem hi
  exact ⟨hm, good_of_word h1⟩
theorem goodIn_app {big a b : List Cond} (ha : GoodIn big a) (hb : GoodIn big b) : GoodIn big (a ++ b) := fun w h => (List.mem_append.mp h).elim (ha w) (hb w)
theorem goodIn_ca {big a b : List Cond} {c : Cond} (ha : GoodIn big (c :: a)) (hb : GoodIn big b) : GoodIn big (c :: (a ++ b)) := fun w h => (List.mem_cons.mp h).elim (fun e => ha w (List.mem_cons.mpr (Or.inl e))) (fun h => (List.mem_append.mp h).elim (fun h => ha w (List.mem_cons.mpr (Or.inr h))) (hb w))
theorem goodIn_sub {big ws : List Cond} (hm : ∀ w ∈ ws, w ∈ big) (h : ws.all goodWord = true) : GoodIn big ws := fun w hw => ⟨hm w hw, good_of_word (List.all_eq_true.mp h w hw)⟩
/-! ===== END ===== -/

/-! ===== BEGIN printed: names, fields, word lists, decode rows ===== -/
def RX0 : String := "TapCascade$Course"
def TX0 : u_T := fun k => match k with
  | 0 => ("TapCascade$Course", "trial", "LTapCascade$Line;", true)
  | 1 => ("TapCascade$Course", "seen", "[J", true)
  | 2 => ("TapCascade$Course", "stepsBehind", "[I", true)
  | 3 => ("TapCascade$Course", "quietBehind", "I", false)
  | 4 => ("TapCascade$Course", "roundFrom", "I", false)
  | 5 => ("TapCascade$Course", "roundTicks", "I", false)
  | _ => ("TapCascade$Course", "roundSteps", "I", false)
def tyX0 : Nat → FieldType := fun k => match k with
  | 0 => .object "TapCascade$Line"
  | 1 => .array .long
  | 2 => .array .int
  | 3 => .int
  | 4 => .int
  | 5 => .int
  | _ => .int
abbrev wsX00 : List Cond := u_ws RX0 TX0 7
theorem nmX0 : ∀ a, a < 7 → ∀ b, b < 7 → a ≠ b → (TX0 a).2.1 ≠ (TX0 b).2.1 := by decide +kernel
theorem tyX0_ok : ∀ k, k < 7 → parseFieldDescriptor (TX0 k).2.2.1 = some (tyX0 k) := by decide +kernel
abbrev cX0_init : ByteArray := prog_2_method_1_code
def yX0_init : MethodName := ⟨RX0, "<init>", "()V"⟩
abbrev cX0_follow : ByteArray := prog_2_method_2_code
def yX0_follow : MethodName := ⟨RX0, "follow", "(LTapCascade$Line;)V"⟩
abbrev cX0_firstLike : ByteArray := prog_2_method_3_code
def yX0_firstLike : MethodName := ⟨RX0, "firstLike", "(I)I"⟩
def RX1 : String := "TapCascade$Line"
def TX1 : u_T := fun k => match k with
  | 0 => ("TapCascade$Line", "stages", "[LTapCascade$Stage;", true)
  | 1 => ("TapCascade$Line", "called", "[Z", true)
  | 2 => ("TapCascade$Line", "log", "LTapCascade$StepLog;", true)
  | 3 => ("TapCascade$Line", "size", "I", false)
  | 4 => ("TapCascade$Line", "source", "I", false)
  | _ => ("TapCascade$Line", "ticks", "I", false)
def tyX1 : Nat → FieldType := fun k => match k with
  | 0 => .array (.object "TapCascade$Stage")
  | 1 => .array .boolean
  | 2 => .object "TapCascade$StepLog"
  | 3 => .int
  | 4 => .int
  | _ => .int
abbrev wsX10 : List Cond := u_ws RX1 TX1 6
theorem nmX1 : ∀ a, a < 6 → ∀ b, b < 6 → a ≠ b → (TX1 a).2.1 ≠ (TX1 b).2.1 := by decide +kernel
theorem tyX1_ok : ∀ k, k < 6 → parseFieldDescriptor (TX1 k).2.2.1 = some (tyX1 k) := by decide +kernel
abbrev cX1_init : ByteArray := prog_3_method_1_code
def yX1_init : MethodName := ⟨RX1, "<init>", "()V"⟩
abbrev cX1_empty : ByteArray := prog_3_method_2_code
def yX1_empty : MethodName := ⟨RX1, "empty", "()V"⟩
abbrev cX1_copyFrom : ByteArray := prog_3_method_3_code
def yX1_copyFrom : MethodName := ⟨RX1, "copyFrom", "(LTapCascade$Line;)V"⟩
abbrev cX1_has : ByteArray := prog_3_method_4_code
def yX1_has : MethodName := ⟨RX1, "has", "(I)Z"⟩
abbrev cX1_addStage : ByteArray := prog_3_method_5_code
def yX1_addStage : MethodName := ⟨RX1, "addStage", "([I)Z"⟩
abbrev cX1_reckon : ByteArray := prog_3_method_6_code
def yX1_reckon : MethodName := ⟨RX1, "reckon", "()V"⟩
abbrev cX1_lostBehind : ByteArray := prog_3_method_7_code
def yX1_lostBehind : MethodName := ⟨RX1, "lostBehind", "(I)I"⟩
abbrev cX1_runTick : ByteArray := prog_3_method_8_code
def yX1_runTick : MethodName := ⟨RX1, "runTick", "()V"⟩
abbrev cX1_passCallsOn : ByteArray := prog_3_method_9_code
def yX1_passCallsOn : MethodName := ⟨RX1, "passCallsOn", "()V"⟩
abbrev cX1_callNextBehind : ByteArray := prog_3_method_10_code
def yX1_callNextBehind : MethodName := ⟨RX1, "callNextBehind", "(I)V"⟩
abbrev cX1_heedCall : ByteArray := prog_3_method_11_code
def yX1_heedCall : MethodName := ⟨RX1, "heedCall", "(I)V"⟩
abbrev cX1_isQuiet : ByteArray := prog_3_method_12_code
def yX1_isQuiet : MethodName := ⟨RX1, "isQuiet", "()Z"⟩
abbrev cX1_goodStages : ByteArray := prog_3_method_13_code
def yX1_goodStages : MethodName := ⟨RX1, "goodStages", "()I"⟩
abbrev cX1_stuckStages : ByteArray := prog_3_method_14_code
def yX1_stuckStages : MethodName := ⟨RX1, "stuckStages", "()I"⟩
abbrev cX1_off : ByteArray := prog_3_method_15_code
def yX1_off : MethodName := ⟨RX1, "off", "()I"⟩
abbrev cX1_packed : ByteArray := prog_3_method_16_code
def yX1_packed : MethodName := ⟨RX1, "packed", "()J"⟩
def RX2 : String := "TapCascade$Past"
def TX2 : u_T := fun k => match k with
  | 0 => ("TapCascade$Past", "kept", "[LTapCascade$Line;", true)
  | 1 => ("TapCascade$Past", "next", "I", false)
  | _ => ("TapCascade$Past", "size", "I", false)
def tyX2 : Nat → FieldType := fun k => match k with
  | 0 => .array (.object "TapCascade$Line")
  | 1 => .int
  | _ => .int
abbrev wsX20 : List Cond := u_ws RX2 TX2 3
theorem nmX2 : ∀ a, a < 3 → ∀ b, b < 3 → a ≠ b → (TX2 a).2.1 ≠ (TX2 b).2.1 := by decide +kernel
theorem tyX2_ok : ∀ k, k < 3 → parseFieldDescriptor (TX2 k).2.2.1 = some (tyX2 k) := by decide +kernel
abbrev cX2_init : ByteArray := prog_4_method_1_code
def yX2_init : MethodName := ⟨RX2, "<init>", "()V"⟩
abbrev cX2_forget : ByteArray := prog_4_method_2_code
def yX2_forget : MethodName := ⟨RX2, "forget", "()V"⟩
abbrev cX2_keep : ByteArray := prog_4_method_3_code
def yX2_keep : MethodName := ⟨RX2, "keep", "(LTapCascade$Line;)V"⟩
abbrev cX2_giveBack : ByteArray := prog_4_method_4_code
def yX2_giveBack : MethodName := ⟨RX2, "giveBack", "(LTapCascade$Line;)V"⟩
def RX3 : String := "TapCascade$Search"
def TX3 : u_T := fun k => match k with
  | 0 => ("TapCascade$Search", "taps", "[I", true)
  | 1 => ("TapCascade$Search", "bestTaps", "[I", true)
  | _ => ("TapCascade$Search", "leastOff", "I", false)
def tyX3 : Nat → FieldType := fun k => match k with
  | 0 => .array .int
  | 1 => .array .int
  | _ => .int
abbrev wsX30 : List Cond := u_ws RX3 TX3 3
theorem nmX3 : ∀ a, a < 3 → ∀ b, b < 3 → a ≠ b → (TX3 a).2.1 ≠ (TX3 b).2.1 := by decide +kernel
theorem tyX3_ok : ∀ k, k < 3 → parseFieldDescriptor (TX3 k).2.2.1 = some (tyX3 k) := by decide +kernel
abbrev cX3_init : ByteArray := prog_5_method_1_code
def yX3_init : MethodName := ⟨RX3, "<init>", "()V"⟩
abbrev cX3_start : ByteArray := prog_5_method_2_code
def yX3_start : MethodName := ⟨RX3, "start", "(LTapCascade$Line;)V"⟩
abbrev cX3_tryTaps : ByteArray := prog_5_method_3_code
def yX3_tryTaps : MethodName := ⟨RX3, "tryTaps", "(LTapCascade$Search;LTapCascade$Line;III)V"⟩
def RX4 : String := "TapCascade$Stage"
def TX4 : u_T := fun k => match k with
  | 0 => ("TapCascade$Stage", "step", "I", false)
  | 1 => ("TapCascade$Stage", "target", "I", false)
  | 2 => ("TapCascade$Stage", "band", "I", false)
  | 3 => ("TapCascade$Stage", "wait", "I", false)
  | 4 => ("TapCascade$Stage", "rule", "I", false)
  | 5 => ("TapCascade$Stage", "load", "I", false)
  | 6 => ("TapCascade$Stage", "way", "I", false)
  | 7 => ("TapCascade$Stage", "tap", "I", false)
  | 8 => ("TapCascade$Stage", "count", "I", false)
  | 9 => ("TapCascade$Stage", "wanted", "I", false)
  | 10 => ("TapCascade$Stage", "lastStep", "I", false)
  | 11 => ("TapCascade$Stage", "stuck", "Z", false)
  | 12 => ("TapCascade$Stage", "flow", "I", false)
  | 13 => ("TapCascade$Stage", "in", "I", false)
  | _ => ("TapCascade$Stage", "out", "I", false)
def tyX4 : Nat → FieldType := fun k => match k with
  | 0 => .int
  | 1 => .int
  | 2 => .int
  | 3 => .int
  | 4 => .int
  | 5 => .int
  | 6 => .int
  | 7 => .int
  | 8 => .int
  | 9 => .int
  | 10 => .int
  | 11 => .boolean
  | 12 => .int
  | 13 => .int
  | _ => .int
abbrev wsX40 : List Cond := u_ws RX4 TX4 15
theorem nmX4 : ∀ a, a < 15 → ∀ b, b < 15 → a ≠ b → (TX4 a).2.1 ≠ (TX4 b).2.1 := by decide +kernel
theorem tyX4_ok : ∀ k, k < 15 → parseFieldDescriptor (TX4 k).2.2.1 = some (tyX4 k) := by decide +kernel
abbrev cX4_init : ByteArray := prog_6_method_1_code
def yX4_init : MethodName := ⟨RX4, "<init>", "()V"⟩
abbrev cX4_layDown : ByteArray := prog_6_method_2_code
def yX4_layDown : MethodName := ⟨RX4, "layDown", "([I)V"⟩
abbrev cX4_copyFrom : ByteArray := prog_6_method_3_code
def yX4_copyFrom : MethodName := ⟨RX4, "copyFrom", "(LTapCascade$Stage;)V"⟩
abbrev cX4_turned : ByteArray := prog_6_method_4_code
def yX4_turned : MethodName := ⟨RX4, "turned", "()I"⟩
abbrev cX4_off : ByteArray := prog_6_method_5_code
def yX4_off : MethodName := ⟨RX4, "off", "()I"⟩
abbrev cX4_judged : ByteArray := prog_6_method_6_code
def yX4_judged : MethodName := ⟨RX4, "judged", "()I"⟩
abbrev cX4_wants : ByteArray := prog_6_method_7_code
def yX4_wants : MethodName := ⟨RX4, "wants", "()I"⟩
abbrev cX4_canAsItWants : ByteArray := prog_6_method_8_code
def yX4_canAsItWants : MethodName := ⟨RX4, "canAsItWants", "()Z"⟩
abbrev cX4_countOn : ByteArray := prog_6_method_9_code
def yX4_countOn : MethodName := ⟨RX4, "countOn", "()V"⟩
abbrev cX4_valueToTell : ByteArray := prog_6_method_10_code
def yX4_valueToTell : MethodName := ⟨RX4, "valueToTell", "(I)I"⟩
abbrev cX4_takeTold : ByteArray := prog_6_method_11_code
def yX4_takeTold : MethodName := ⟨RX4, "takeTold", "(II)V"⟩
abbrev cX4_valueOf : ByteArray := prog_6_method_12_code
def yX4_valueOf : MethodName := ⟨RX4, "valueOf", "(I)I"⟩
def RX5 : String := "TapCascade$StepLog"
def TX5 : u_T := fun k => match k with
  | 0 => ("TapCascade$StepLog", "ticks", "[I", true)
  | 1 => ("TapCascade$StepLog", "stages", "[I", true)
  | 2 => ("TapCascade$StepLog", "ways", "[I", true)
  | 3 => ("TapCascade$StepLog", "total", "I", false)
  | _ => ("TapCascade$StepLog", "back", "I", false)
def tyX5 : Nat → FieldType := fun k => match k with
  | 0 => .array .int
  | 1 => .array .int
  | 2 => .array .int
  | 3 => .int
  | _ => .int
abbrev wsX50 : List Cond := u_ws RX5 TX5 5
theorem nmX5 : ∀ a, a < 5 → ∀ b, b < 5 → a ≠ b → (TX5 a).2.1 ≠ (TX5 b).2.1 := by decide +kernel
theorem tyX5_ok : ∀ k, k < 5 → parseFieldDescriptor (TX5 k).2.2.1 = some (tyX5 k) := by decide +kernel
abbrev cX5_init : ByteArray := prog_7_method_1_code
def yX5_init : MethodName := ⟨RX5, "<init>", "()V"⟩
abbrev cX5_empty : ByteArray := prog_7_method_2_code
def yX5_empty : MethodName := ⟨RX5, "empty", "()V"⟩
abbrev cX5_copyFrom : ByteArray := prog_7_method_3_code
def yX5_copyFrom : MethodName := ⟨RX5, "copyFrom", "(LTapCascade$StepLog;)V"⟩
abbrev cX5_add : ByteArray := prog_7_method_4_code
def yX5_add : MethodName := ⟨RX5, "add", "(III)V"⟩
abbrev cX5_told : ByteArray := prog_7_method_5_code
def yX5_told : MethodName := ⟨RX5, "told", "()I"⟩
abbrev cX5_valueOf : ByteArray := prog_7_method_6_code
def yX5_valueOf : MethodName := ⟨RX5, "valueOf", "(II)I"⟩
abbrev cX5_unlikeTold : ByteArray := prog_7_method_7_code
def yX5_unlikeTold : MethodName := ⟨RX5, "unlikeTold", "()I"⟩
def RX6 : String := "TapCascade$Text"
def TX6 : u_T := fun k => match k with
  | 0 => ("TapCascade$Text", "letters", "[I", true)
  | 1 => ("TapCascade$Text", "told", "[I", true)
  | 2 => ("TapCascade$Text", "length", "I", false)
  | _ => ("TapCascade$Text", "place", "I", false)
def tyX6 : Nat → FieldType := fun k => match k with
  | 0 => .array .int
  | 1 => .array .int
  | 2 => .int
  | _ => .int
abbrev wsX60 : List Cond := u_ws RX6 TX6 4
theorem nmX6 : ∀ a, a < 4 → ∀ b, b < 4 → a ≠ b → (TX6 a).2.1 ≠ (TX6 b).2.1 := by decide +kernel
theorem tyX6_ok : ∀ k, k < 4 → parseFieldDescriptor (TX6 k).2.2.1 = some (tyX6 k) := by decide +kernel
abbrev cX6_init : ByteArray := prog_8_method_1_code
def yX6_init : MethodName := ⟨RX6, "<init>", "()V"⟩
abbrev cX6_append : ByteArray := prog_8_method_2_code
def yX6_append : MethodName := ⟨RX6, "append", "(I)Z"⟩
abbrev cX6_readInto : ByteArray := prog_8_method_3_code
def yX6_readInto : MethodName := ⟨RX6, "readInto", "(LTapCascade$Line;)I"⟩
abbrev cX6_readItem : ByteArray := prog_8_method_4_code
def yX6_readItem : MethodName := ⟨RX6, "readItem", "(LTapCascade$Line;)Z"⟩
abbrev cX6_readSource : ByteArray := prog_8_method_5_code
def yX6_readSource : MethodName := ⟨RX6, "readSource", "(LTapCascade$Line;)Z"⟩
abbrev cX6_readStage : ByteArray := prog_8_method_6_code
def yX6_readStage : MethodName := ⟨RX6, "readStage", "(LTapCascade$Line;)Z"⟩
abbrev cX6_readNumber : ByteArray := prog_8_method_7_code
def yX6_readNumber : MethodName := ⟨RX6, "readNumber", "(II)I"⟩
abbrev cX6_isFigure : ByteArray := prog_8_method_8_code
def yX6_isFigure : MethodName := ⟨RX6, "isFigure", "()Z"⟩
abbrev cX6_take : ByteArray := prog_8_method_9_code
def yX6_take : MethodName := ⟨RX6, "take", "(C)Z"⟩
def RX7 : String := "TapCascade"
def TX7 : u_T := fun k => match k with
  | 0 => ("TapCascade", "text", "LTapCascade$Text;", true)
  | 1 => ("TapCascade", "line", "LTapCascade$Line;", true)
  | 2 => ("TapCascade", "draft", "LTapCascade$Line;", true)
  | 3 => ("TapCascade", "past", "LTapCascade$Past;", true)
  | 4 => ("TapCascade", "course", "LTapCascade$Course;", true)
  | _ => ("TapCascade", "search", "LTapCascade$Search;", true)
def tyX7 : Nat → FieldType := fun k => match k with
  | 0 => .object "TapCascade$Text"
  | 1 => .object "TapCascade$Line"
  | 2 => .object "TapCascade$Line"
  | 3 => .object "TapCascade$Past"
  | 4 => .object "TapCascade$Course"
  | _ => .object "TapCascade$Search"
abbrev wsX70 : List Cond := u_ws RX7 TX7 6
theorem nmX7 : ∀ a, a < 6 → ∀ b, b < 6 → a ≠ b → (TX7 a).2.1 ≠ (TX7 b).2.1 := by decide +kernel
theorem tyX7_ok : ∀ k, k < 6 → parseFieldDescriptor (TX7 k).2.2.1 = some (tyX7 k) := by decide +kernel
abbrev cX7_init : ByteArray := prog_1_method_1_code
def yX7_init : MethodName := ⟨RX7, "<init>", "()V"⟩
abbrev cX7_write : ByteArray := prog_1_method_2_code
def yX7_write : MethodName := ⟨RX7, "write", "(I)I"⟩
abbrev cX7_wipe : ByteArray := prog_1_method_3_code
def yX7_wipe : MethodName := ⟨RX7, "wipe", "()I"⟩
abbrev cX7_fault : ByteArray := prog_1_method_4_code
def yX7_fault : MethodName := ⟨RX7, "fault", "()I"⟩
abbrev cX7_lay : ByteArray := prog_1_method_5_code
def yX7_lay : MethodName := ⟨RX7, "lay", "()I"⟩
abbrev cX7_source : ByteArray := prog_1_method_6_code
def yX7_source : MethodName := ⟨RX7, "source", "(I)I"⟩
abbrev cX7_tell : ByteArray := prog_1_method_7_code
def yX7_tell : MethodName := ⟨RX7, "tell", "(III)I"⟩
abbrev cX7_stick : ByteArray := prog_1_method_8_code
def yX7_stick : MethodName := ⟨RX7, "stick", "(II)I"⟩
abbrev cX7_tick : ByteArray := prog_1_method_9_code
def yX7_tick : MethodName := ⟨RX7, "tick", "(I)I"⟩
abbrev cX7_undo : ByteArray := prog_1_method_10_code
def yX7_undo : MethodName := ⟨RX7, "undo", "()I"⟩
abbrev cX7_stage : ByteArray := prog_1_method_11_code
def yX7_stage : MethodName := ⟨RX7, "stage", "(II)I"⟩
abbrev cX7_done : ByteArray := prog_1_method_12_code
def yX7_done : MethodName := ⟨RX7, "done", "(II)I"⟩
abbrev cX7_settle : ByteArray := prog_1_method_13_code
def yX7_settle : MethodName := ⟨RX7, "settle", "(I)I"⟩
abbrev cX7_best : ByteArray := prog_1_method_14_code
def yX7_best : MethodName := ⟨RX7, "best", "(I)I"⟩
abbrev cX7_ratio : ByteArray := prog_1_method_15_code
def yX7_ratio : MethodName := ⟨RX7, "ratio", "(II)J"⟩
abbrev cX7_graded : ByteArray := prog_1_method_16_code
def yX7_graded : MethodName := ⟨RX7, "graded", "(I)I"⟩
abbrev cX7_waits : ByteArray := prog_1_method_17_code
def yX7_waits : MethodName := ⟨RX7, "waits", "(II)I"⟩
abbrev cX7_count : ByteArray := prog_1_method_18_code
def yX7_count : MethodName := ⟨RX7, "count", "(I)I"⟩
abbrev cX7_isGrade : ByteArray := prog_1_method_19_code
def yX7_isGrade : MethodName := ⟨RX7, "isGrade", "(I)Z"⟩
abbrev cX7_mayBeTold : ByteArray := prog_1_method_20_code
def yX7_mayBeTold : MethodName := ⟨RX7, "mayBeTold", "(II)Z"⟩
abbrev cX7_greatestCommon : ByteArray := prog_1_method_21_code
def yX7_greatestCommon : MethodName := ⟨RX7, "greatestCommon", "(JJ)J"⟩
abbrev cX7_outOf : ByteArray := prog_1_method_22_code
def yX7_outOf : MethodName := ⟨RX7, "outOf", "(II)I"⟩
abbrev cX7_lostBetween : ByteArray := prog_1_method_23_code
def yX7_lostBetween : MethodName := ⟨RX7, "lostBetween", "(II)I"⟩
def RX8 : String := "TapCascadeModel"
def TX8 : u_T := fun k => match k with
  | 0 => ("TapCascadeModel", "thrown", "I", false)
  | 1 => ("TapCascadeModel", "text", "[B", true)
  | 2 => ("TapCascadeModel", "letters", "I", false)
  | 3 => ("TapCascadeModel", "s", "[I", true)
  | 4 => ("TapCascadeModel", "draft", "[I", true)
  | 5 => ("TapCascadeModel", "past", "[I", true)
  | 6 => ("TapCascadeModel", "undos", "I", false)
  | 7 => ("TapCascadeModel", "at", "I", false)
  | 8 => ("TapCascadeModel", "isSo", "Z", false)
  | 9 => ("TapCascadeModel", "flow", "[I", true)
  | 10 => ("TapCascadeModel", "comesIn", "[I", true)
  | 11 => ("TapCascadeModel", "goesOut", "[I", true)
  | 12 => ("TapCascadeModel", "want", "[I", true)
  | 13 => ("TapCascadeModel", "can", "[Z", true)
  | 14 => ("TapCascadeModel", "called", "[Z", true)
  | 15 => ("TapCascadeModel", "met", "[J", true)
  | 16 => ("TapCascadeModel", "stepsThen", "[I", true)
  | 17 => ("TapCascadeModel", "spare", "[I", true)
  | 18 => ("TapCascadeModel", "quietBehind", "I", false)
  | 19 => ("TapCascadeModel", "roundFrom", "I", false)
  | 20 => ("TapCascadeModel", "roundLong", "I", false)
  | 21 => ("TapCascadeModel", "roundSteps", "I", false)
  | 22 => ("TapCascadeModel", "bestTap", "[I", true)
  | _ => ("TapCascadeModel", "bestOff", "I", false)
def tyX8 : Nat → FieldType := fun k => match k with
  | 0 => .int
  | 1 => .array .byte
  | 2 => .int
  | 3 => .array .int
  | 4 => .array .int
  | 5 => .array .int
  | 6 => .int
  | 7 => .int
  | 8 => .boolean
  | 9 => .array .int
  | 10 => .array .int
  | 11 => .array .int
  | 12 => .array .int
  | 13 => .array .boolean
  | 14 => .array .boolean
  | 15 => .array .long
  | 16 => .array .int
  | 17 => .array .int
  | 18 => .int
  | 19 => .int
  | 20 => .int
  | 21 => .int
  | 22 => .array .int
  | _ => .int
abbrev wsX80 : List Cond := u_ws RX8 TX8 24
theorem nmX8 : ∀ a, a < 24 → ∀ b, b < 24 → a ≠ b → (TX8 a).2.1 ≠ (TX8 b).2.1 := by decide +kernel
theorem tyX8_ok : ∀ k, k < 24 → parseFieldDescriptor (TX8 k).2.2.1 = some (tyX8 k) := by decide +kernel
abbrev cX8_init : ByteArray := prog_10_method_1_code
def yX8_init : MethodName := ⟨RX8, "<init>", "()V"⟩
abbrev cX8_stands : ByteArray := prog_10_method_2_code
def yX8_stands : MethodName := ⟨RX8, "stands", "(IIIIIIII)V"⟩
abbrev cX8_in : ByteArray := prog_10_method_4_code
def yX8_in : MethodName := ⟨RX8, "in", "(III)Z"⟩
abbrev cX8_write : ByteArray := prog_10_method_5_code
def yX8_write : MethodName := ⟨RX8, "write", "(I)I"⟩
abbrev cX8_wipe : ByteArray := prog_10_method_6_code
def yX8_wipe : MethodName := ⟨RX8, "wipe", "()I"⟩
abbrev cX8_isHere : ByteArray := prog_10_method_7_code
def yX8_isHere : MethodName := ⟨RX8, "isHere", "(I)Z"⟩
abbrev cX8_takes : ByteArray := prog_10_method_8_code
def yX8_takes : MethodName := ⟨RX8, "takes", "(I)V"⟩
abbrev cX8_takesNumber : ByteArray := prog_10_method_9_code
def yX8_takesNumber : MethodName := ⟨RX8, "takesNumber", "(II)I"⟩
abbrev cX8_lowOf : ByteArray := prog_10_method_10_code
def yX8_lowOf : MethodName := ⟨RX8, "lowOf", "(I)I"⟩
abbrev cX8_highOf : ByteArray := prog_10_method_11_code
def yX8_highOf : MethodName := ⟨RX8, "highOf", "(I)I"⟩
abbrev cX8_takesStage : ByteArray := prog_10_method_12_code
def yX8_takesStage : MethodName := ⟨RX8, "takesStage", "()V"⟩
abbrev cX8_reads : ByteArray := prog_10_method_13_code
def yX8_reads : MethodName := ⟨RX8, "reads", "()I"⟩
abbrev cX8_fault : ByteArray := prog_10_method_14_code
def yX8_fault : MethodName := ⟨RX8, "fault", "()I"⟩
abbrev cX8_lay : ByteArray := prog_10_method_15_code
def yX8_lay : MethodName := ⟨RX8, "lay", "()I"⟩
abbrev cX8_isStage : ByteArray := prog_10_method_16_code
def yX8_isStage : MethodName := ⟨RX8, "isStage", "(I)Z"⟩
abbrev cX8_of : ByteArray := prog_10_method_17_code
def yX8_of : MethodName := ⟨RX8, "of", "(II)I"⟩
abbrev cX8_puts : ByteArray := prog_10_method_18_code
def yX8_puts : MethodName := ⟨RX8, "puts", "(III)V"⟩
abbrev cX8_goodOf : ByteArray := prog_10_method_19_code
def yX8_goodOf : MethodName := ⟨RX8, "goodOf", "(I)I"⟩
abbrev cX8_lays : ByteArray := prog_10_method_20_code
def yX8_lays : MethodName := ⟨RX8, "lays", "()V"⟩
abbrev cX8_way : ByteArray := prog_10_method_21_code
def yX8_way : MethodName := ⟨RX8, "way", "(I)I"⟩
abbrev cX8_isQuiet : ByteArray := prog_10_method_22_code
def yX8_isQuiet : MethodName := ⟨RX8, "isQuiet", "()Z"⟩
abbrev cX8_offOf : ByteArray := prog_10_method_23_code
def yX8_offOf : MethodName := ⟨RX8, "offOf", "()I"⟩
abbrev cX8_counts : ByteArray := prog_10_method_24_code
def yX8_counts : MethodName := ⟨RX8, "counts", "()V"⟩
abbrev cX8_passesOn : ByteArray := prog_10_method_25_code
def yX8_passesOn : MethodName := ⟨RX8, "passesOn", "()V"⟩
abbrev cX8_notesStep : ByteArray := prog_10_method_26_code
def yX8_notesStep : MethodName := ⟨RX8, "notesStep", "(I)V"⟩
abbrev cX8_ticks : ByteArray := prog_10_method_27_code
def yX8_ticks : MethodName := ⟨RX8, "ticks", "()V"⟩
abbrev cX8_notes : ByteArray := prog_10_method_28_code
def yX8_notes : MethodName := ⟨RX8, "notes", "()V"⟩
abbrev cX8_source : ByteArray := prog_10_method_29_code
def yX8_source : MethodName := ⟨RX8, "source", "(I)I"⟩
abbrev cX8_tell : ByteArray := prog_10_method_30_code
def yX8_tell : MethodName := ⟨RX8, "tell", "(III)I"⟩
abbrev cX8_stuck : ByteArray := prog_10_method_31_code
def yX8_stuck : MethodName := ⟨RX8, "stuck", "()I"⟩
abbrev cX8_stick : ByteArray := prog_10_method_32_code
def yX8_stick : MethodName := ⟨RX8, "stick", "(II)I"⟩
abbrev cX8_tick : ByteArray := prog_10_method_33_code
def yX8_tick : MethodName := ⟨RX8, "tick", "(I)I"⟩
abbrev cX8_undo : ByteArray := prog_10_method_34_code
def yX8_undo : MethodName := ⟨RX8, "undo", "()I"⟩
abbrev cX8_stage : ByteArray := prog_10_method_35_code
def yX8_stage : MethodName := ⟨RX8, "stage", "(II)I"⟩
abbrev cX8_done : ByteArray := prog_10_method_36_code
def yX8_done : MethodName := ⟨RX8, "done", "(II)I"⟩
abbrev cX8_codeOf : ByteArray := prog_10_method_37_code
def yX8_codeOf : MethodName := ⟨RX8, "codeOf", "()J"⟩
abbrev cX8_settles : ByteArray := prog_10_method_38_code
def yX8_settles : MethodName := ⟨RX8, "settles", "()V"⟩
abbrev cX8_settle : ByteArray := prog_10_method_39_code
def yX8_settle : MethodName := ⟨RX8, "settle", "(I)I"⟩
abbrev cX8_nextTaps : ByteArray := prog_10_method_40_code
def yX8_nextTaps : MethodName := ⟨RX8, "nextTaps", "()Z"⟩
abbrev cX8_findsBest : ByteArray := prog_10_method_41_code
def yX8_findsBest : MethodName := ⟨RX8, "findsBest", "()V"⟩
abbrev cX8_best : ByteArray := prog_10_method_42_code
def yX8_best : MethodName := ⟨RX8, "best", "(I)I"⟩
abbrev cX8_ratio : ByteArray := prog_10_method_43_code
def yX8_ratio : MethodName := ⟨RX8, "ratio", "(II)J"⟩
abbrev cX8_waitOf : ByteArray := prog_10_method_44_code
def yX8_waitOf : MethodName := ⟨RX8, "waitOf", "(II)I"⟩
abbrev cX8_graded : ByteArray := prog_10_method_45_code
def yX8_graded : MethodName := ⟨RX8, "graded", "(I)I"⟩
abbrev cX8_waits : ByteArray := prog_10_method_46_code
def yX8_waits : MethodName := ⟨RX8, "waits", "(II)I"⟩
abbrev cX8_good : ByteArray := prog_10_method_47_code
def yX8_good : MethodName := ⟨RX8, "good", "()I"⟩
abbrev cX8_unlike : ByteArray := prog_10_method_48_code
def yX8_unlike : MethodName := ⟨RX8, "unlike", "()I"⟩
abbrev cX8_count : ByteArray := prog_10_method_49_code
def yX8_count : MethodName := ⟨RX8, "count", "(I)I"⟩
def RJ6 : String := "java/lang/Integer"
def TJ6 : u_T := fun k => match k with
  | _ => ("", "", "", false)
def tyJ6 : Nat → FieldType := fun k => match k with
  | _ => .int
abbrev wsJ60 : List Cond := u_ws RJ6 TJ6 0
theorem nmJ6 : ∀ a, a < 0 → ∀ b, b < 0 → a ≠ b → (TJ6 a).2.1 ≠ (TJ6 b).2.1 := by decide +kernel
theorem tyJ6_ok : ∀ k, k < 0 → parseFieldDescriptor (TJ6 k).2.2.1 = some (tyJ6 k) := by decide +kernel
abbrev cJ6_bitCount_0f7a4 : ByteArray := prog_11_method_49_code
def yJ6_bitCount_0f7a4 : MethodName := ⟨RJ6, "bitCount", "(I)I"⟩
def RJ9 : String := "java/lang/Math"
def TJ9 : u_T := fun k => match k with
  | _ => ("", "", "", false)
def tyJ9 : Nat → FieldType := fun k => match k with
  | _ => .int
abbrev wsJ90 : List Cond := u_ws RJ9 TJ9 0
theorem nmJ9 : ∀ a, a < 0 → ∀ b, b < 0 → a ≠ b → (TJ9 a).2.1 ≠ (TJ9 b).2.1 := by decide +kernel
theorem tyJ9_ok : ∀ k, k < 0 → parseFieldDescriptor (TJ9 k).2.2.1 = some (tyJ9 k) := by decide +kernel
abbrev cJ9_abs_0f7a4 : ByteArray := prog_12_method_59_code
def yJ9_abs_0f7a4 : MethodName := ⟨RJ9, "abs", "(I)I"⟩
abbrev cJ9_max_7cf53 : ByteArray := prog_12_method_65_code
def yJ9_max_7cf53 : MethodName := ⟨RJ9, "max", "(II)I"⟩
abbrev cJ9_min_7cf53 : ByteArray := prog_12_method_69_code
def yJ9_min_7cf53 : MethodName := ⟨RJ9, "min", "(II)I"⟩
def RJ0 : String := "java/lang/String"
def TJ0 : u_T := fun k => match k with
  | _ => ("", "", "", false)
def tyJ0 : Nat → FieldType := fun k => match k with
  | _ => .int
abbrev wsJ00 : List Cond := u_ws RJ0 TJ0 0
theorem nmJ0 : ∀ a, a < 0 → ∀ b, b < 0 → a ≠ b → (TJ0 a).2.1 ≠ (TJ0 b).2.1 := by decide +kernel
theorem tyJ0_ok : ∀ k, k < 0 → parseFieldDescriptor (TJ0 k).2.2.1 = some (tyJ0 k) := by decide +kernel
abbrev cJ0_length_8abf5 : ByteArray := prog_13_method_54_code
def yJ0_length_8abf5 : MethodName := ⟨RJ0, "length", "()I"⟩
abbrev cJ0_charAt_5068e : ByteArray := prog_13_method_56_code
def yJ0_charAt_5068e : MethodName := ⟨RJ0, "charAt", "(I)C"⟩
abbrev cJ0_coder_7d493 : ByteArray := prog_13_method_152_code
def yJ0_coder_7d493 : MethodName := ⟨RJ0, "coder", "()B"⟩
abbrev cJ0_isLatin1_aae02 : ByteArray := prog_13_method_154_code
def yJ0_isLatin1_aae02 : MethodName := ⟨RJ0, "isLatin1", "()Z"⟩
abbrev cJ0_checkIndex_df160 : ByteArray := prog_13_method_155_code
def yJ0_checkIndex_df160 : MethodName := ⟨RJ0, "checkIndex", "(II)V"⟩
def RJ1 : String := "java/lang/StringLatin1"
def TJ1 : u_T := fun k => match k with
  | _ => ("", "", "", false)
def tyJ1 : Nat → FieldType := fun k => match k with
  | _ => .int
abbrev wsJ10 : List Cond := u_ws RJ1 TJ1 0
theorem nmJ1 : ∀ a, a < 0 → ∀ b, b < 0 → a ≠ b → (TJ1 a).2.1 ≠ (TJ1 b).2.1 := by decide +kernel
theorem tyJ1_ok : ∀ k, k < 0 → parseFieldDescriptor (TJ1 k).2.2.1 = some (tyJ1 k) := by decide +kernel
abbrev cJ1_charAt_3b067 : ByteArray := prog_14_method_2_code
def yJ1_charAt_3b067 : MethodName := ⟨RJ1, "charAt", "([BI)C"⟩
def RJ2 : String := "java/lang/StringUTF16"
def TJ2 : u_T := fun k => match k with
  | _ => ("", "", "", false)
def tyJ2 : Nat → FieldType := fun k => match k with
  | _ => .int
abbrev wsJ20 : List Cond := u_ws RJ2 TJ2 0
theorem nmJ2 : ∀ a, a < 0 → ∀ b, b < 0 → a ≠ b → (TJ2 a).2.1 ≠ (TJ2 b).2.1 := by decide +kernel
theorem tyJ2_ok : ∀ k, k < 0 → parseFieldDescriptor (TJ2 k).2.2.1 = some (tyJ2 k) := by decide +kernel
abbrev cJ2_getChar_3b067 : ByteArray := prog_15_method_5_code
def yJ2_getChar_3b067 : MethodName := ⟨RJ2, "getChar", "([BI)C"⟩
abbrev cJ2_length_9d52b : ByteArray := prog_15_method_6_code
def yJ2_length_9d52b : MethodName := ⟨RJ2, "length", "([B)I"⟩
abbrev cJ2_charAt_3b067 : ByteArray := prog_15_method_83_code
def yJ2_charAt_3b067 : MethodName := ⟨RJ2, "charAt", "([BI)C"⟩
abbrev cJ2_checkIndex_2214a : ByteArray := prog_15_method_91_code
def yJ2_checkIndex_2214a : MethodName := ⟨RJ2, "checkIndex", "(I[B)V"⟩
def RJ10 : String := "java/lang/System"
def TJ10 : u_T := fun k => match k with
  | _ => ("", "", "", false)
def tyJ10 : Nat → FieldType := fun k => match k with
  | _ => .int
abbrev wsJ100 : List Cond := u_ws RJ10 TJ10 0
theorem nmJ10 : ∀ a, a < 0 → ∀ b, b < 0 → a ≠ b → (TJ10 a).2.1 ≠ (TJ10 b).2.1 := by decide +kernel
theorem tyJ10_ok : ∀ k, k < 0 → parseFieldDescriptor (TJ10 k).2.2.1 = some (tyJ10 k) := by decide +kernel
def RJ3 : String := "jdk/internal/util/Preconditions"
def TJ3 : u_T := fun k => match k with
  | _ => ("", "", "", false)
def tyJ3 : Nat → FieldType := fun k => match k with
  | _ => .int
abbrev wsJ30 : List Cond := u_ws RJ3 TJ3 0
theorem nmJ3 : ∀ a, a < 0 → ∀ b, b < 0 → a ≠ b → (TJ3 a).2.1 ≠ (TJ3 b).2.1 := by decide +kernel
theorem tyJ3_ok : ∀ k, k < 0 → parseFieldDescriptor (TJ3 k).2.2.1 = some (tyJ3 k) := by decide +kernel
abbrev cJ3_checkIndex_8e157 : ByteArray := prog_17_method_11_code
def yJ3_checkIndex_8e157 : MethodName := ⟨RJ3, "checkIndex", "(IILjava/util/function/BiFunction;)I"⟩
def RL : String := "TapCascadeLaw"
abbrev cL_law : ByteArray := code
def yL_law : MethodName := ⟨RL, "law", "([I)Z"⟩
def wsX5_init : List Cond := .code yX5_init cX5_init 1 none :: ([.methodLink RX5 3 objectInit, .instanceMethod objectInit, .code objectInit ⟨#[0xb1]⟩ 1 none, .arrayClass .int, .fieldLink RX5 9 "TapCascade$StepLog" "ticks" "[I", .fieldLink RX5 15 "TapCascade$StepLog" "stages" "[I", .fieldLink RX5 18 "TapCascade$StepLog" "ways" "[I"] ++ wsX50)
def wsX4_init : List Cond := .code yX4_init cX4_init 1 none :: ([.methodLink RX4 3 objectInit, .instanceMethod objectInit, .code objectInit ⟨#[0xb1]⟩ 1 none])
def wsX1_init_r1 : List Cond := [Cond.methodLink RX1 3 objectInit, Cond.instanceMethod objectInit, Cond.code objectInit ⟨#[0xb1]⟩ 1 none, Cond.classLink RX1 9 RX4, Cond.fieldLink RX1 11 "TapCascade$Line" "stages" "[LTapCascade$Stage;", Cond.arrayClass .boolean, Cond.fieldLink RX1 17 "TapCascade$Line" "called" "[Z", Cond.classLink RX1 21 RX5, Cond.instantiable RX5 5, Cond.initialized RX5, Cond.fieldLink RX1 24 "TapCascade$Line" "log" "LTapCascade$StepLog;", Cond.instantiable RX4 15, Cond.initialized RX4, Cond.methodLink RX1 23 yX5_init, Cond.instanceMethod yX5_init, Cond.code yX5_init cX5_init 1 none, Cond.methodLink RX5 3 objectInit, Cond.arrayClass .int, Cond.fieldLink RX5 9 "TapCascade$StepLog" "ticks" "[I", Cond.fieldLink RX5 15 "TapCascade$StepLog" "stages" "[I", Cond.fieldLink RX5 18 "TapCascade$StepLog" "ways" "[I", Cond.methodLink RX1 28 yX4_init, Cond.instanceMethod yX4_init, Cond.code yX4_init cX4_init 1 none]
def wsX1_init_r2 : List Cond := [Cond.methodLink RX4 3 objectInit]
def wsX1_init : List Cond := .code yX1_init cX1_init 2 none :: ((wsX1_init_r1 ++ wsX1_init_r2) ++ wsX10 ++ wsX50 ++ wsX40)
def wsX0_init_r1 : List Cond := [Cond.methodLink RX0 3 objectInit, Cond.instanceMethod objectInit, Cond.code objectInit ⟨#[0xb1]⟩ 1 none, Cond.classLink RX0 9 RX1, Cond.instantiable RX1 6, Cond.initialized RX1, Cond.fieldLink RX0 12 "TapCascade$Course" "trial" "LTapCascade$Line;", Cond.arrayClass .long, Cond.fieldLink RX0 18 "TapCascade$Course" "seen" "[J", Cond.arrayClass .int, Cond.fieldLink RX0 22 "TapCascade$Course" "stepsBehind" "[I", Cond.methodLink RX0 11 yX1_init, Cond.instanceMethod yX1_init, Cond.code yX1_init cX1_init 2 none, Cond.methodLink RX1 3 objectInit, Cond.classLink RX1 9 RX4, Cond.fieldLink RX1 11 "TapCascade$Line" "stages" "[LTapCascade$Stage;", Cond.arrayClass .boolean, Cond.fieldLink RX1 17 "TapCascade$Line" "called" "[Z", Cond.classLink RX1 21 RX5, Cond.instantiable RX5 5, Cond.initialized RX5, Cond.fieldLink RX1 24 "TapCascade$Line" "log" "LTapCascade$StepLog;", Cond.instantiable RX4 15]
def wsX0_init_r2 : List Cond := [Cond.initialized RX4, Cond.methodLink RX1 23 yX5_init, Cond.instanceMethod yX5_init, Cond.code yX5_init cX5_init 1 none, Cond.methodLink RX5 3 objectInit, Cond.fieldLink RX5 9 "TapCascade$StepLog" "ticks" "[I", Cond.fieldLink RX5 15 "TapCascade$StepLog" "stages" "[I", Cond.fieldLink RX5 18 "TapCascade$StepLog" "ways" "[I", Cond.methodLink RX1 28 yX4_init, Cond.instanceMethod yX4_init, Cond.code yX4_init cX4_init 1 none, Cond.methodLink RX4 3 objectInit]
def wsX0_init : List Cond := .code yX0_init cX0_init 1 none :: ((wsX0_init_r1 ++ wsX0_init_r2) ++ wsX10 ++ wsX00 ++ wsX50 ++ wsX40)
def wsX4_copyFrom : List Cond := .code yX4_copyFrom cX4_copyFrom 2 none :: ([.fieldLink RX4 13 "TapCascade$Stage" "step" "I", .fieldLink RX4 19 "TapCascade$Stage" "target" "I", .fieldLink RX4 22 "TapCascade$Stage" "band" "I", .fieldLink RX4 25 "TapCascade$Stage" "wait" "I", .fieldLink RX4 28 "TapCascade$Stage" "rule" "I", .fieldLink RX4 31 "TapCascade$Stage" "load" "I", .fieldLink RX4 34 "TapCascade$Stage" "way" "I", .fieldLink RX4 37 "TapCascade$Stage" "tap" "I", .fieldLink RX4 40 "TapCascade$Stage" "count" "I", .fieldLink RX4 43 "TapCascade$Stage" "wanted" "I", .fieldLink RX4 46 "TapCascade$Stage" "lastStep" "I", .fieldLink RX4 49 "TapCascade$Stage" "stuck" "Z", .fieldLink RX4 53 "TapCascade$Stage" "flow" "I", .fieldLink RX4 56 "TapCascade$Stage" "in" "I", .fieldLink RX4 59 "TapCascade$Stage" "out" "I"] ++ wsX40)
def wsX5_copyFrom : List Cond := .code yX5_copyFrom cX5_copyFrom 2 none :: ([.fieldLink RX5 9 "TapCascade$StepLog" "ticks" "[I", .methodLink RX5 28 arraycopyName, .native arraycopyName, .static arraycopyName, .initialized "java/lang/System", .fieldLink RX5 15 "TapCascade$StepLog" "stages" "[I", .fieldLink RX5 18 "TapCascade$StepLog" "ways" "[I", .fieldLink RX5 21 "TapCascade$StepLog" "total" "I", .fieldLink RX5 25 "TapCascade$StepLog" "back" "I"] ++ wsX50)
def wsX1_copyFrom_r1 : List Cond := [Cond.fieldLink RX1 11 "TapCascade$Line" "stages" "[LTapCascade$Stage;", Cond.fieldLink RX1 24 "TapCascade$Line" "log" "LTapCascade$StepLog;", Cond.fieldLink RX1 29 "TapCascade$Line" "size" "I", Cond.fieldLink RX1 33 "TapCascade$Line" "source" "I", Cond.fieldLink RX1 36 "TapCascade$Line" "ticks" "I", Cond.methodLink RX1 42 yX4_copyFrom, Cond.instanceMethod yX4_copyFrom, Cond.selects RX4 yX4_copyFrom yX4_copyFrom, Cond.initialized RX4, Cond.code yX4_copyFrom cX4_copyFrom 2 none, Cond.fieldLink RX4 13 "TapCascade$Stage" "step" "I", Cond.fieldLink RX4 19 "TapCascade$Stage" "target" "I", Cond.fieldLink RX4 22 "TapCascade$Stage" "band" "I", Cond.fieldLink RX4 25 "TapCascade$Stage" "wait" "I", Cond.fieldLink RX4 28 "TapCascade$Stage" "rule" "I", Cond.fieldLink RX4 31 "TapCascade$Stage" "load" "I", Cond.fieldLink RX4 34 "TapCascade$Stage" "way" "I", Cond.fieldLink RX4 37 "TapCascade$Stage" "tap" "I", Cond.fieldLink RX4 40 "TapCascade$Stage" "count" "I", Cond.fieldLink RX4 43 "TapCascade$Stage" "wanted" "I", Cond.fieldLink RX4 46 "TapCascade$Stage" "lastStep" "I", Cond.fieldLink RX4 49 "TapCascade$Stage" "stuck" "Z", Cond.fieldLink RX4 53 "TapCascade$Stage" "flow" "I", Cond.fieldLink RX4 56 "TapCascade$Stage" "in" "I"]
def wsX1_copyFrom_r2 : List Cond := [Cond.fieldLink RX4 59 "TapCascade$Stage" "out" "I", Cond.methodLink RX1 46 yX5_copyFrom, Cond.instanceMethod yX5_copyFrom, Cond.selects RX5 yX5_copyFrom yX5_copyFrom, Cond.initialized RX5, Cond.code yX5_copyFrom cX5_copyFrom 2 none, Cond.fieldLink RX5 9 "TapCascade$StepLog" "ticks" "[I", Cond.methodLink RX5 28 arraycopyName, Cond.native arraycopyName, Cond.static arraycopyName, Cond.initialized "java/lang/System", Cond.fieldLink RX5 15 "TapCascade$StepLog" "stages" "[I", Cond.fieldLink RX5 18 "TapCascade$StepLog" "ways" "[I", Cond.fieldLink RX5 21 "TapCascade$StepLog" "total" "I", Cond.fieldLink RX5 25 "TapCascade$StepLog" "back" "I"]
def wsX1_copyFrom : List Cond := .code yX1_copyFrom cX1_copyFrom 3 none :: ((wsX1_copyFrom_r1 ++ wsX1_copyFrom_r2) ++ wsX10 ++ wsX40 ++ wsX50)
def wsX4_judged : List Cond := .code yX4_judged cX4_judged 1 (some .int) :: ([.fieldLink RX4 59 "TapCascade$Stage" "out" "I", .fieldLink RX4 19 "TapCascade$Stage" "target" "I", .fieldLink RX4 22 "TapCascade$Stage" "band" "I"] ++ wsX40)
def wsX4_wants : List Cond := .code yX4_wants cX4_wants 3 (some .int) :: ([.fieldLink RX4 53 "TapCascade$Stage" "flow" "I", .fieldLink RX4 28 "TapCascade$Stage" "rule" "I", .methodLink RX4 68 yX4_judged, .instanceMethod yX4_judged, .selects RX4 yX4_judged yX4_judged, .initialized RX4, .code yX4_judged cX4_judged 1 (some .int), .fieldLink RX4 59 "TapCascade$Stage" "out" "I", .fieldLink RX4 19 "TapCascade$Stage" "target" "I", .fieldLink RX4 22 "TapCascade$Stage" "band" "I"] ++ wsX40)
def wsX4_canAsItWants : List Cond := .code yX4_canAsItWants cX4_canAsItWants 1 (some .boolean) :: ([.fieldLink RX4 49 "TapCascade$Stage" "stuck" "Z", .fieldLink RX4 37 "TapCascade$Stage" "tap" "I", .methodLink RX4 72 yX4_wants, .instanceMethod yX4_wants, .selects RX4 yX4_wants yX4_wants, .initialized RX4, .code yX4_wants cX4_wants 3 (some .int), .fieldLink RX4 53 "TapCascade$Stage" "flow" "I", .fieldLink RX4 28 "TapCascade$Stage" "rule" "I", .methodLink RX4 68 yX4_judged, .instanceMethod yX4_judged, .selects RX4 yX4_judged yX4_judged, .code yX4_judged cX4_judged 1 (some .int), .fieldLink RX4 59 "TapCascade$Stage" "out" "I", .fieldLink RX4 19 "TapCascade$Stage" "target" "I", .fieldLink RX4 22 "TapCascade$Stage" "band" "I"] ++ wsX40)
def wsX1_isQuiet : List Cond := .code yX1_isQuiet cX1_isQuiet 2 (some .boolean) :: ([.fieldLink RX1 29 "TapCascade$Line" "size" "I", .fieldLink RX1 11 "TapCascade$Line" "stages" "[LTapCascade$Stage;", .methodLink RX1 102 yX4_canAsItWants, .instanceMethod yX4_canAsItWants, .selects RX4 yX4_canAsItWants yX4_canAsItWants, .initialized RX4, .code yX4_canAsItWants cX4_canAsItWants 1 (some .boolean), .fieldLink RX4 49 "TapCascade$Stage" "stuck" "Z", .fieldLink RX4 37 "TapCascade$Stage" "tap" "I", .methodLink RX4 72 yX4_wants, .instanceMethod yX4_wants, .selects RX4 yX4_wants yX4_wants, .code yX4_wants cX4_wants 3 (some .int), .fieldLink RX4 53 "TapCascade$Stage" "flow" "I", .fieldLink RX4 28 "TapCascade$Stage" "rule" "I", .methodLink RX4 68 yX4_judged, .instanceMethod yX4_judged, .selects RX4 yX4_judged yX4_judged, .code yX4_judged cX4_judged 1 (some .int), .fieldLink RX4 59 "TapCascade$Stage" "out" "I", .fieldLink RX4 19 "TapCascade$Stage" "target" "I", .fieldLink RX4 22 "TapCascade$Stage" "band" "I"] ++ wsX10 ++ wsX40)
def wsX1_packed : List Cond := .code yX1_packed cX1_packed 5 (some .long) :: ([.fieldLink RX1 29 "TapCascade$Line" "size" "I", .fieldLink RX1 11 "TapCascade$Line" "stages" "[LTapCascade$Stage;", .fieldLink RX1 112 "TapCascade$Stage" "tap" "I", .fieldLink RX1 86 "TapCascade$Stage" "count" "I", .fieldLink RX1 125 "TapCascade$Stage" "wanted" "I"] ++ wsX10 ++ wsX40)
def wsX0_firstLike : List Cond := .code yX0_firstLike cX0_firstLike 3 (some .int) :: ([.fieldLink RX0 18 "TapCascade$Course" "seen" "[J"] ++ wsX00)
def wsX4_countOn : List Cond := .code yX4_countOn cX4_countOn 2 none :: ([.fieldLink RX4 40 "TapCascade$Stage" "count" "I", .fieldLink RX4 43 "TapCascade$Stage" "wanted" "I", .methodLink RX4 72 yX4_wants, .instanceMethod yX4_wants, .selects RX4 yX4_wants yX4_wants, .initialized RX4, .code yX4_wants cX4_wants 3 (some .int), .fieldLink RX4 53 "TapCascade$Stage" "flow" "I", .fieldLink RX4 28 "TapCascade$Stage" "rule" "I", .methodLink RX4 68 yX4_judged, .instanceMethod yX4_judged, .selects RX4 yX4_judged yX4_judged, .code yX4_judged cX4_judged 1 (some .int), .fieldLink RX4 59 "TapCascade$Stage" "out" "I", .fieldLink RX4 19 "TapCascade$Stage" "target" "I", .fieldLink RX4 22 "TapCascade$Stage" "band" "I"] ++ wsX40)
def wsX1_callNextBehind : List Cond := .code yX1_callNextBehind cX1_callNextBehind 3 none :: ([.fieldLink RX1 29 "TapCascade$Line" "size" "I", .fieldLink RX1 11 "TapCascade$Line" "stages" "[LTapCascade$Stage;", .fieldLink RX1 17 "TapCascade$Line" "called" "[Z", .methodLink RX1 109 yX4_wants, .instanceMethod yX4_wants, .selects RX4 yX4_wants yX4_wants, .initialized RX4, .code yX4_wants cX4_wants 3 (some .int), .fieldLink RX4 53 "TapCascade$Stage" "flow" "I", .fieldLink RX4 28 "TapCascade$Stage" "rule" "I", .methodLink RX4 68 yX4_judged, .instanceMethod yX4_judged, .selects RX4 yX4_judged yX4_judged, .code yX4_judged cX4_judged 1 (some .int), .fieldLink RX4 59 "TapCascade$Stage" "out" "I", .fieldLink RX4 19 "TapCascade$Stage" "target" "I", .fieldLink RX4 22 "TapCascade$Stage" "band" "I"] ++ wsX10 ++ wsX40)
def wsX1_passCallsOn_r1 : List Cond := [Cond.fieldLink RX1 29 "TapCascade$Line" "size" "I", Cond.fieldLink RX1 17 "TapCascade$Line" "called" "[Z", Cond.fieldLink RX1 11 "TapCascade$Line" "stages" "[LTapCascade$Stage;", Cond.methodLink RX1 102 yX4_canAsItWants, Cond.instanceMethod yX4_canAsItWants, Cond.selects RX4 yX4_canAsItWants yX4_canAsItWants, Cond.initialized RX4, Cond.code yX4_canAsItWants cX4_canAsItWants 1 (some .boolean), Cond.fieldLink RX4 49 "TapCascade$Stage" "stuck" "Z", Cond.fieldLink RX4 37 "TapCascade$Stage" "tap" "I", Cond.methodLink RX4 72 yX4_wants, Cond.instanceMethod yX4_wants, Cond.selects RX4 yX4_wants yX4_wants, Cond.code yX4_wants cX4_wants 3 (some .int), Cond.fieldLink RX4 53 "TapCascade$Stage" "flow" "I", Cond.fieldLink RX4 28 "TapCascade$Stage" "rule" "I", Cond.methodLink RX4 68 yX4_judged, Cond.instanceMethod yX4_judged, Cond.selects RX4 yX4_judged yX4_judged, Cond.code yX4_judged cX4_judged 1 (some .int), Cond.fieldLink RX4 59 "TapCascade$Stage" "out" "I", Cond.fieldLink RX4 19 "TapCascade$Stage" "target" "I", Cond.fieldLink RX4 22 "TapCascade$Stage" "band" "I", Cond.methodLink RX1 106 yX1_callNextBehind]
def wsX1_passCallsOn_r2 : List Cond := [Cond.instanceMethod yX1_callNextBehind, Cond.selects RX1 yX1_callNextBehind yX1_callNextBehind, Cond.initialized RX1, Cond.code yX1_callNextBehind cX1_callNextBehind 3 none, Cond.methodLink RX1 109 yX4_wants]
def wsX1_passCallsOn : List Cond := .code yX1_passCallsOn cX1_passCallsOn 2 none :: ((wsX1_passCallsOn_r1 ++ wsX1_passCallsOn_r2) ++ wsX10 ++ wsX40)
def wsX5_add : List Cond := .code yX5_add cX5_add 5 none :: ([.fieldLink RX5 21 "TapCascade$StepLog" "total" "I", .fieldLink RX5 9 "TapCascade$StepLog" "ticks" "[I", .fieldLink RX5 15 "TapCascade$StepLog" "stages" "[I", .fieldLink RX5 18 "TapCascade$StepLog" "ways" "[I"] ++ wsX50)
def wsX1_heedCall_r1 : List Cond := [Cond.fieldLink RX1 11 "TapCascade$Line" "stages" "[LTapCascade$Stage;", Cond.fieldLink RX1 112 "TapCascade$Stage" "tap" "I", Cond.fieldLink RX1 24 "TapCascade$Line" "log" "LTapCascade$StepLog;", Cond.fieldLink RX1 36 "TapCascade$Line" "ticks" "I", Cond.fieldLink RX1 119 "TapCascade$Stage" "lastStep" "I", Cond.fieldLink RX1 122 "TapCascade$StepLog" "back" "I", Cond.fieldLink RX1 86 "TapCascade$Stage" "count" "I", Cond.fieldLink RX1 125 "TapCascade$Stage" "wanted" "I", Cond.methodLink RX1 102 yX4_canAsItWants, Cond.instanceMethod yX4_canAsItWants, Cond.selects RX4 yX4_canAsItWants yX4_canAsItWants, Cond.initialized RX4, Cond.code yX4_canAsItWants cX4_canAsItWants 1 (some .boolean), Cond.fieldLink RX4 49 "TapCascade$Stage" "stuck" "Z", Cond.fieldLink RX4 37 "TapCascade$Stage" "tap" "I", Cond.methodLink RX4 72 yX4_wants, Cond.instanceMethod yX4_wants, Cond.selects RX4 yX4_wants yX4_wants, Cond.code yX4_wants cX4_wants 3 (some .int), Cond.fieldLink RX4 53 "TapCascade$Stage" "flow" "I", Cond.fieldLink RX4 28 "TapCascade$Stage" "rule" "I", Cond.methodLink RX4 68 yX4_judged, Cond.instanceMethod yX4_judged, Cond.selects RX4 yX4_judged yX4_judged]
def wsX1_heedCall_r2 : List Cond := [Cond.code yX4_judged cX4_judged 1 (some .int), Cond.fieldLink RX4 59 "TapCascade$Stage" "out" "I", Cond.fieldLink RX4 19 "TapCascade$Stage" "target" "I", Cond.fieldLink RX4 22 "TapCascade$Stage" "band" "I", Cond.methodLink RX1 109 yX4_wants, Cond.methodLink RX1 115 yX5_add, Cond.instanceMethod yX5_add, Cond.selects RX5 yX5_add yX5_add, Cond.initialized RX5, Cond.code yX5_add cX5_add 5 none, Cond.fieldLink RX5 21 "TapCascade$StepLog" "total" "I", Cond.fieldLink RX5 9 "TapCascade$StepLog" "ticks" "[I", Cond.fieldLink RX5 15 "TapCascade$StepLog" "stages" "[I", Cond.fieldLink RX5 18 "TapCascade$StepLog" "ways" "[I"]
def wsX1_heedCall : List Cond := .code yX1_heedCall cX1_heedCall 4 none :: ((wsX1_heedCall_r1 ++ wsX1_heedCall_r2) ++ wsX10 ++ wsX40 ++ wsX50)
def wsX4_turned : List Cond := .code yX4_turned cX4_turned 1 (some .int) :: ([.fieldLink RX4 37 "TapCascade$Stage" "tap" "I", .fieldLink RX4 13 "TapCascade$Stage" "step" "I"] ++ wsX40)
def wsX7_outOf : List Cond := .code yX7_outOf cX7_outOf 2 (some .int) :: ([])
def wsX7_lostBetween : List Cond := .code yX7_lostBetween cX7_lostBetween 2 (some .int) :: ([])
def wsX1_lostBehind : List Cond := .code yX1_lostBehind cX1_lostBehind 2 (some .int) :: ([.fieldLink RX1 29 "TapCascade$Line" "size" "I", .fieldLink RX1 11 "TapCascade$Line" "stages" "[LTapCascade$Stage;", .fieldLink RX1 77 "TapCascade$Stage" "way" "I", .fieldLink RX1 56 "TapCascade$Stage" "flow" "I", .static yX7_lostBetween, .initialized RX7, .code yX7_lostBetween cX7_lostBetween 2 (some .int)] ++ wsX10 ++ wsX40)
def wsX1_reckon_r1 : List Cond := [Cond.fieldLink RX1 29 "TapCascade$Line" "size" "I", Cond.fieldLink RX1 11 "TapCascade$Line" "stages" "[LTapCascade$Stage;", Cond.fieldLink RX1 53 "TapCascade$Stage" "load" "I", Cond.fieldLink RX1 56 "TapCascade$Stage" "flow" "I", Cond.fieldLink RX1 33 "TapCascade$Line" "source" "I", Cond.fieldLink RX1 59 "TapCascade$Stage" "in" "I", Cond.fieldLink RX1 70 "TapCascade$Stage" "out" "I", Cond.methodLink RX1 62 yX4_turned, Cond.instanceMethod yX4_turned, Cond.selects RX4 yX4_turned yX4_turned, Cond.initialized RX4, Cond.code yX4_turned cX4_turned 1 (some .int), Cond.fieldLink RX4 37 "TapCascade$Stage" "tap" "I", Cond.fieldLink RX4 13 "TapCascade$Stage" "step" "I", Cond.static yX7_outOf, Cond.initialized RX7, Cond.code yX7_outOf cX7_outOf 2 (some .int), Cond.methodLink RX1 73 yX1_lostBehind, Cond.instanceMethod yX1_lostBehind, Cond.selects RX1 yX1_lostBehind yX1_lostBehind, Cond.initialized RX1, Cond.code yX1_lostBehind cX1_lostBehind 2 (some .int), Cond.fieldLink RX1 77 "TapCascade$Stage" "way" "I", Cond.static yX7_lostBetween]
def wsX1_reckon_r2 : List Cond := [Cond.code yX7_lostBetween cX7_lostBetween 2 (some .int)]
def wsX1_reckon : List Cond := .code yX1_reckon cX1_reckon 5 none :: ((wsX1_reckon_r1 ++ wsX1_reckon_r2) ++ wsX10 ++ wsX40)
def wsX1_runTick_r1 : List Cond := [Cond.fieldLink RX1 29 "TapCascade$Line" "size" "I", Cond.fieldLink RX1 11 "TapCascade$Line" "stages" "[LTapCascade$Stage;", Cond.fieldLink RX1 17 "TapCascade$Line" "called" "[Z", Cond.fieldLink RX1 86 "TapCascade$Stage" "count" "I", Cond.fieldLink RX1 89 "TapCascade$Stage" "wait" "I", Cond.fieldLink RX1 36 "TapCascade$Line" "ticks" "I", Cond.methodLink RX1 83 yX4_countOn, Cond.instanceMethod yX4_countOn, Cond.selects RX4 yX4_countOn yX4_countOn, Cond.initialized RX4, Cond.code yX4_countOn cX4_countOn 2 none, Cond.fieldLink RX4 40 "TapCascade$Stage" "count" "I", Cond.fieldLink RX4 43 "TapCascade$Stage" "wanted" "I", Cond.methodLink RX4 72 yX4_wants, Cond.instanceMethod yX4_wants, Cond.selects RX4 yX4_wants yX4_wants, Cond.code yX4_wants cX4_wants 3 (some .int), Cond.fieldLink RX4 53 "TapCascade$Stage" "flow" "I", Cond.fieldLink RX4 28 "TapCascade$Stage" "rule" "I", Cond.methodLink RX4 68 yX4_judged, Cond.instanceMethod yX4_judged, Cond.selects RX4 yX4_judged yX4_judged, Cond.code yX4_judged cX4_judged 1 (some .int), Cond.fieldLink RX4 59 "TapCascade$Stage" "out" "I"]
def wsX1_runTick_r2 : List Cond := [Cond.fieldLink RX4 19 "TapCascade$Stage" "target" "I", Cond.fieldLink RX4 22 "TapCascade$Stage" "band" "I", Cond.methodLink RX1 92 yX1_passCallsOn, Cond.instanceMethod yX1_passCallsOn, Cond.selects RX1 yX1_passCallsOn yX1_passCallsOn, Cond.initialized RX1, Cond.code yX1_passCallsOn cX1_passCallsOn 2 none, Cond.methodLink RX1 102 yX4_canAsItWants, Cond.instanceMethod yX4_canAsItWants, Cond.selects RX4 yX4_canAsItWants yX4_canAsItWants, Cond.code yX4_canAsItWants cX4_canAsItWants 1 (some .boolean), Cond.fieldLink RX4 49 "TapCascade$Stage" "stuck" "Z", Cond.fieldLink RX4 37 "TapCascade$Stage" "tap" "I", Cond.methodLink RX1 106 yX1_callNextBehind, Cond.instanceMethod yX1_callNextBehind, Cond.selects RX1 yX1_callNextBehind yX1_callNextBehind, Cond.code yX1_callNextBehind cX1_callNextBehind 3 none, Cond.methodLink RX1 109 yX4_wants, Cond.methodLink RX1 95 yX1_heedCall, Cond.instanceMethod yX1_heedCall, Cond.selects RX1 yX1_heedCall yX1_heedCall, Cond.code yX1_heedCall cX1_heedCall 4 none, Cond.fieldLink RX1 112 "TapCascade$Stage" "tap" "I", Cond.fieldLink RX1 24 "TapCascade$Line" "log" "LTapCascade$StepLog;"]
def wsX1_runTick_r3 : List Cond := [Cond.fieldLink RX1 119 "TapCascade$Stage" "lastStep" "I", Cond.fieldLink RX1 122 "TapCascade$StepLog" "back" "I", Cond.fieldLink RX1 125 "TapCascade$Stage" "wanted" "I", Cond.methodLink RX1 115 yX5_add, Cond.instanceMethod yX5_add, Cond.selects RX5 yX5_add yX5_add, Cond.initialized RX5, Cond.code yX5_add cX5_add 5 none, Cond.fieldLink RX5 21 "TapCascade$StepLog" "total" "I", Cond.fieldLink RX5 9 "TapCascade$StepLog" "ticks" "[I", Cond.fieldLink RX5 15 "TapCascade$StepLog" "stages" "[I", Cond.fieldLink RX5 18 "TapCascade$StepLog" "ways" "[I", Cond.methodLink RX1 99 yX1_reckon, Cond.instanceMethod yX1_reckon, Cond.selects RX1 yX1_reckon yX1_reckon, Cond.code yX1_reckon cX1_reckon 5 none, Cond.fieldLink RX1 53 "TapCascade$Stage" "load" "I", Cond.fieldLink RX1 56 "TapCascade$Stage" "flow" "I", Cond.fieldLink RX1 33 "TapCascade$Line" "source" "I", Cond.fieldLink RX1 59 "TapCascade$Stage" "in" "I", Cond.fieldLink RX1 70 "TapCascade$Stage" "out" "I", Cond.methodLink RX1 62 yX4_turned, Cond.instanceMethod yX4_turned, Cond.selects RX4 yX4_turned yX4_turned]
def wsX1_runTick_r4 : List Cond := [Cond.code yX4_turned cX4_turned 1 (some .int), Cond.fieldLink RX4 13 "TapCascade$Stage" "step" "I", Cond.static yX7_outOf, Cond.initialized RX7, Cond.code yX7_outOf cX7_outOf 2 (some .int), Cond.methodLink RX1 73 yX1_lostBehind, Cond.instanceMethod yX1_lostBehind, Cond.selects RX1 yX1_lostBehind yX1_lostBehind, Cond.code yX1_lostBehind cX1_lostBehind 2 (some .int), Cond.fieldLink RX1 77 "TapCascade$Stage" "way" "I", Cond.static yX7_lostBetween, Cond.code yX7_lostBetween cX7_lostBetween 2 (some .int)]
def wsX1_runTick : List Cond := .code yX1_runTick cX1_runTick 2 none :: ((wsX1_runTick_r1 ++ (wsX1_runTick_r2 ++ (wsX1_runTick_r3 ++ wsX1_runTick_r4))) ++ wsX10 ++ wsX40 ++ wsX50)
def wsX0_follow_r1 : List Cond := [Cond.fieldLink RX0 12 "TapCascade$Course" "trial" "LTapCascade$Line;", Cond.fieldLink RX0 30 "TapCascade$Course" "quietBehind" "I", Cond.fieldLink RX0 34 "TapCascade$Course" "roundFrom" "I", Cond.fieldLink RX0 37 "TapCascade$Course" "roundTicks" "I", Cond.fieldLink RX0 40 "TapCascade$Course" "roundSteps" "I", Cond.fieldLink RX0 18 "TapCascade$Course" "seen" "[J", Cond.fieldLink RX0 22 "TapCascade$Course" "stepsBehind" "[I", Cond.fieldLink RX0 51 "TapCascade$Line" "log" "LTapCascade$StepLog;", Cond.fieldLink RX0 55 "TapCascade$StepLog" "total" "I", Cond.methodLink RX0 26 yX1_copyFrom, Cond.instanceMethod yX1_copyFrom, Cond.selects RX1 yX1_copyFrom yX1_copyFrom, Cond.initialized RX1, Cond.code yX1_copyFrom cX1_copyFrom 3 none, Cond.fieldLink RX1 11 "TapCascade$Line" "stages" "[LTapCascade$Stage;", Cond.fieldLink RX1 24 "TapCascade$Line" "log" "LTapCascade$StepLog;", Cond.fieldLink RX1 29 "TapCascade$Line" "size" "I", Cond.fieldLink RX1 33 "TapCascade$Line" "source" "I", Cond.fieldLink RX1 36 "TapCascade$Line" "ticks" "I", Cond.methodLink RX1 42 yX4_copyFrom, Cond.instanceMethod yX4_copyFrom, Cond.selects RX4 yX4_copyFrom yX4_copyFrom, Cond.initialized RX4, Cond.code yX4_copyFrom cX4_copyFrom 2 none]
def wsX0_follow_r2 : List Cond := [Cond.fieldLink RX4 13 "TapCascade$Stage" "step" "I", Cond.fieldLink RX4 19 "TapCascade$Stage" "target" "I", Cond.fieldLink RX4 22 "TapCascade$Stage" "band" "I", Cond.fieldLink RX4 25 "TapCascade$Stage" "wait" "I", Cond.fieldLink RX4 28 "TapCascade$Stage" "rule" "I", Cond.fieldLink RX4 31 "TapCascade$Stage" "load" "I", Cond.fieldLink RX4 34 "TapCascade$Stage" "way" "I", Cond.fieldLink RX4 37 "TapCascade$Stage" "tap" "I", Cond.fieldLink RX4 40 "TapCascade$Stage" "count" "I", Cond.fieldLink RX4 43 "TapCascade$Stage" "wanted" "I", Cond.fieldLink RX4 46 "TapCascade$Stage" "lastStep" "I", Cond.fieldLink RX4 49 "TapCascade$Stage" "stuck" "Z", Cond.fieldLink RX4 53 "TapCascade$Stage" "flow" "I", Cond.fieldLink RX4 56 "TapCascade$Stage" "in" "I", Cond.fieldLink RX4 59 "TapCascade$Stage" "out" "I", Cond.methodLink RX1 46 yX5_copyFrom, Cond.instanceMethod yX5_copyFrom, Cond.selects RX5 yX5_copyFrom yX5_copyFrom, Cond.initialized RX5, Cond.code yX5_copyFrom cX5_copyFrom 2 none, Cond.fieldLink RX5 9 "TapCascade$StepLog" "ticks" "[I", Cond.methodLink RX5 28 arraycopyName, Cond.native arraycopyName, Cond.static arraycopyName]
def wsX0_follow_r3 : List Cond := [Cond.initialized "java/lang/System", Cond.fieldLink RX5 15 "TapCascade$StepLog" "stages" "[I", Cond.fieldLink RX5 18 "TapCascade$StepLog" "ways" "[I", Cond.fieldLink RX5 21 "TapCascade$StepLog" "total" "I", Cond.fieldLink RX5 25 "TapCascade$StepLog" "back" "I", Cond.methodLink RX0 43 yX1_isQuiet, Cond.instanceMethod yX1_isQuiet, Cond.selects RX1 yX1_isQuiet yX1_isQuiet, Cond.code yX1_isQuiet cX1_isQuiet 2 (some .boolean), Cond.methodLink RX1 102 yX4_canAsItWants, Cond.instanceMethod yX4_canAsItWants, Cond.selects RX4 yX4_canAsItWants yX4_canAsItWants, Cond.code yX4_canAsItWants cX4_canAsItWants 1 (some .boolean), Cond.methodLink RX4 72 yX4_wants, Cond.instanceMethod yX4_wants, Cond.selects RX4 yX4_wants yX4_wants, Cond.code yX4_wants cX4_wants 3 (some .int), Cond.methodLink RX4 68 yX4_judged, Cond.instanceMethod yX4_judged, Cond.selects RX4 yX4_judged yX4_judged, Cond.code yX4_judged cX4_judged 1 (some .int), Cond.methodLink RX0 47 yX1_packed, Cond.instanceMethod yX1_packed, Cond.selects RX1 yX1_packed yX1_packed]
def wsX0_follow_r4 : List Cond := [Cond.code yX1_packed cX1_packed 5 (some .long), Cond.fieldLink RX1 112 "TapCascade$Stage" "tap" "I", Cond.fieldLink RX1 86 "TapCascade$Stage" "count" "I", Cond.fieldLink RX1 125 "TapCascade$Stage" "wanted" "I", Cond.methodLink RX0 60 yX0_firstLike, Cond.instanceMethod yX0_firstLike, Cond.selects RX0 yX0_firstLike yX0_firstLike, Cond.initialized RX0, Cond.code yX0_firstLike cX0_firstLike 3 (some .int), Cond.methodLink RX0 64 yX1_runTick, Cond.instanceMethod yX1_runTick, Cond.selects RX1 yX1_runTick yX1_runTick, Cond.code yX1_runTick cX1_runTick 2 none, Cond.fieldLink RX1 17 "TapCascade$Line" "called" "[Z", Cond.fieldLink RX1 89 "TapCascade$Stage" "wait" "I", Cond.methodLink RX1 83 yX4_countOn, Cond.instanceMethod yX4_countOn, Cond.selects RX4 yX4_countOn yX4_countOn, Cond.code yX4_countOn cX4_countOn 2 none, Cond.methodLink RX1 92 yX1_passCallsOn, Cond.instanceMethod yX1_passCallsOn, Cond.selects RX1 yX1_passCallsOn yX1_passCallsOn, Cond.code yX1_passCallsOn cX1_passCallsOn 2 none, Cond.methodLink RX1 106 yX1_callNextBehind]
def wsX0_follow_r5 : List Cond := [Cond.instanceMethod yX1_callNextBehind, Cond.selects RX1 yX1_callNextBehind yX1_callNextBehind, Cond.code yX1_callNextBehind cX1_callNextBehind 3 none, Cond.methodLink RX1 109 yX4_wants, Cond.methodLink RX1 95 yX1_heedCall, Cond.instanceMethod yX1_heedCall, Cond.selects RX1 yX1_heedCall yX1_heedCall, Cond.code yX1_heedCall cX1_heedCall 4 none, Cond.fieldLink RX1 119 "TapCascade$Stage" "lastStep" "I", Cond.fieldLink RX1 122 "TapCascade$StepLog" "back" "I", Cond.methodLink RX1 115 yX5_add, Cond.instanceMethod yX5_add, Cond.selects RX5 yX5_add yX5_add, Cond.code yX5_add cX5_add 5 none, Cond.methodLink RX1 99 yX1_reckon, Cond.instanceMethod yX1_reckon, Cond.selects RX1 yX1_reckon yX1_reckon, Cond.code yX1_reckon cX1_reckon 5 none, Cond.fieldLink RX1 53 "TapCascade$Stage" "load" "I", Cond.fieldLink RX1 56 "TapCascade$Stage" "flow" "I", Cond.fieldLink RX1 59 "TapCascade$Stage" "in" "I", Cond.fieldLink RX1 70 "TapCascade$Stage" "out" "I", Cond.methodLink RX1 62 yX4_turned, Cond.instanceMethod yX4_turned]
def wsX0_follow_r6 : List Cond := [Cond.selects RX4 yX4_turned yX4_turned, Cond.code yX4_turned cX4_turned 1 (some .int), Cond.static yX7_outOf, Cond.initialized RX7, Cond.code yX7_outOf cX7_outOf 2 (some .int), Cond.methodLink RX1 73 yX1_lostBehind, Cond.instanceMethod yX1_lostBehind, Cond.selects RX1 yX1_lostBehind yX1_lostBehind, Cond.code yX1_lostBehind cX1_lostBehind 2 (some .int), Cond.fieldLink RX1 77 "TapCascade$Stage" "way" "I", Cond.static yX7_lostBetween, Cond.code yX7_lostBetween cX7_lostBetween 2 (some .int)]
def wsX0_follow : List Cond := .code yX0_follow cX0_follow 4 none :: ((wsX0_follow_r1 ++ (wsX0_follow_r2 ++ (wsX0_follow_r3 ++ (wsX0_follow_r4 ++ (wsX0_follow_r5 ++ wsX0_follow_r6))))) ++ wsX00 ++ wsX10 ++ wsX50 ++ wsX40)
def wsX5_empty : List Cond := .code yX5_empty cX5_empty 1 none :: ([.fieldLink RX5 21 "TapCascade$StepLog" "total" "I", .fieldLink RX5 25 "TapCascade$StepLog" "back" "I"] ++ wsX50)
def wsX1_empty : List Cond := .code yX1_empty cX1_empty 1 none :: ([.fieldLink RX1 29 "TapCascade$Line" "size" "I", .fieldLink RX1 33 "TapCascade$Line" "source" "I", .fieldLink RX1 36 "TapCascade$Line" "ticks" "I", .fieldLink RX1 24 "TapCascade$Line" "log" "LTapCascade$StepLog;", .methodLink RX1 39 yX5_empty, .instanceMethod yX5_empty, .selects RX5 yX5_empty yX5_empty, .initialized RX5, .code yX5_empty cX5_empty 1 none, .fieldLink RX5 21 "TapCascade$StepLog" "total" "I", .fieldLink RX5 25 "TapCascade$StepLog" "back" "I"] ++ wsX10 ++ wsX50)
def wsX1_has : List Cond := .code yX1_has cX1_has 2 (some .boolean) :: ([.fieldLink RX1 29 "TapCascade$Line" "size" "I"] ++ wsX10)
def wsX4_layDown : List Cond := .code yX4_layDown cX4_layDown 2 none :: ([.fieldLink RX4 13 "TapCascade$Stage" "step" "I", .fieldLink RX4 19 "TapCascade$Stage" "target" "I", .fieldLink RX4 22 "TapCascade$Stage" "band" "I", .fieldLink RX4 25 "TapCascade$Stage" "wait" "I", .fieldLink RX4 28 "TapCascade$Stage" "rule" "I", .fieldLink RX4 31 "TapCascade$Stage" "load" "I", .fieldLink RX4 34 "TapCascade$Stage" "way" "I", .fieldLink RX4 37 "TapCascade$Stage" "tap" "I", .fieldLink RX4 40 "TapCascade$Stage" "count" "I", .fieldLink RX4 43 "TapCascade$Stage" "wanted" "I", .fieldLink RX4 46 "TapCascade$Stage" "lastStep" "I", .fieldLink RX4 49 "TapCascade$Stage" "stuck" "Z"] ++ wsX40)
def wsX1_addStage : List Cond := .code yX1_addStage cX1_addStage 2 (some .boolean) :: ([.fieldLink RX1 29 "TapCascade$Line" "size" "I", .fieldLink RX1 11 "TapCascade$Line" "stages" "[LTapCascade$Stage;", .methodLink RX1 49 yX4_layDown, .instanceMethod yX4_layDown, .selects RX4 yX4_layDown yX4_layDown, .initialized RX4, .code yX4_layDown cX4_layDown 2 none, .fieldLink RX4 13 "TapCascade$Stage" "step" "I", .fieldLink RX4 19 "TapCascade$Stage" "target" "I", .fieldLink RX4 22 "TapCascade$Stage" "band" "I", .fieldLink RX4 25 "TapCascade$Stage" "wait" "I", .fieldLink RX4 28 "TapCascade$Stage" "rule" "I", .fieldLink RX4 31 "TapCascade$Stage" "load" "I", .fieldLink RX4 34 "TapCascade$Stage" "way" "I", .fieldLink RX4 37 "TapCascade$Stage" "tap" "I", .fieldLink RX4 40 "TapCascade$Stage" "count" "I", .fieldLink RX4 43 "TapCascade$Stage" "wanted" "I", .fieldLink RX4 46 "TapCascade$Stage" "lastStep" "I", .fieldLink RX4 49 "TapCascade$Stage" "stuck" "Z"] ++ wsX10 ++ wsX40)
def wsX1_goodStages : List Cond := .code yX1_goodStages cX1_goodStages 3 (some .int) :: ([.fieldLink RX1 29 "TapCascade$Line" "size" "I", .fieldLink RX1 11 "TapCascade$Line" "stages" "[LTapCascade$Stage;", .methodLink RX1 128 yX4_judged, .instanceMethod yX4_judged, .selects RX4 yX4_judged yX4_judged, .initialized RX4, .code yX4_judged cX4_judged 1 (some .int), .fieldLink RX4 59 "TapCascade$Stage" "out" "I", .fieldLink RX4 19 "TapCascade$Stage" "target" "I", .fieldLink RX4 22 "TapCascade$Stage" "band" "I"] ++ wsX10 ++ wsX40)
def wsX1_stuckStages : List Cond := .code yX1_stuckStages cX1_stuckStages 3 (some .int) :: ([.fieldLink RX1 29 "TapCascade$Line" "size" "I", .fieldLink RX1 11 "TapCascade$Line" "stages" "[LTapCascade$Stage;", .fieldLink RX1 131 "TapCascade$Stage" "stuck" "Z"] ++ wsX10 ++ wsX40)
def wsX4_off : List Cond := .code yX4_off cX4_off 1 (some .int) :: ([.fieldLink RX4 59 "TapCascade$Stage" "out" "I", .fieldLink RX4 19 "TapCascade$Stage" "target" "I", .methodLink RX4 62 Lib.Math.abs.name, .static Lib.Math.abs.name, .initialized "java/lang/Math", .code Lib.Math.abs.name Lib.Math.abs.code 1 (some .int)] ++ wsX40)
def wsX1_off : List Cond := .code yX1_off cX1_off 3 (some .int) :: ([.fieldLink RX1 29 "TapCascade$Line" "size" "I", .fieldLink RX1 11 "TapCascade$Line" "stages" "[LTapCascade$Stage;", .methodLink RX1 135 yX4_off, .instanceMethod yX4_off, .selects RX4 yX4_off yX4_off, .initialized RX4, .code yX4_off cX4_off 1 (some .int), .fieldLink RX4 59 "TapCascade$Stage" "out" "I", .fieldLink RX4 19 "TapCascade$Stage" "target" "I", .methodLink RX4 62 Lib.Math.abs.name, .static Lib.Math.abs.name, .initialized "java/lang/Math", .code Lib.Math.abs.name Lib.Math.abs.code 1 (some .int)] ++ wsX10 ++ wsX40)
def wsX2_init_r1 : List Cond := [Cond.methodLink RX2 3 objectInit, Cond.instanceMethod objectInit, Cond.code objectInit ⟨#[0xb1]⟩ 1 none, Cond.classLink RX2 9 RX1, Cond.fieldLink RX2 11 "TapCascade$Past" "kept" "[LTapCascade$Line;", Cond.instantiable RX1 6, Cond.initialized RX1, Cond.methodLink RX2 17 yX1_init, Cond.instanceMethod yX1_init, Cond.code yX1_init cX1_init 2 none, Cond.methodLink RX1 3 objectInit, Cond.classLink RX1 9 RX4, Cond.fieldLink RX1 11 "TapCascade$Line" "stages" "[LTapCascade$Stage;", Cond.arrayClass .boolean, Cond.fieldLink RX1 17 "TapCascade$Line" "called" "[Z", Cond.classLink RX1 21 RX5, Cond.instantiable RX5 5, Cond.initialized RX5, Cond.fieldLink RX1 24 "TapCascade$Line" "log" "LTapCascade$StepLog;", Cond.instantiable RX4 15, Cond.initialized RX4, Cond.methodLink RX1 23 yX5_init, Cond.instanceMethod yX5_init, Cond.code yX5_init cX5_init 1 none]
def wsX2_init_r2 : List Cond := [Cond.methodLink RX5 3 objectInit, Cond.arrayClass .int, Cond.fieldLink RX5 9 "TapCascade$StepLog" "ticks" "[I", Cond.fieldLink RX5 15 "TapCascade$StepLog" "stages" "[I", Cond.fieldLink RX5 18 "TapCascade$StepLog" "ways" "[I", Cond.methodLink RX1 28 yX4_init, Cond.instanceMethod yX4_init, Cond.code yX4_init cX4_init 1 none, Cond.methodLink RX4 3 objectInit]
def wsX2_init : List Cond := .code yX2_init cX2_init 2 none :: ((wsX2_init_r1 ++ wsX2_init_r2) ++ wsX20 ++ wsX10 ++ wsX50 ++ wsX40)
def wsX2_forget : List Cond := .code yX2_forget cX2_forget 1 none :: ([.fieldLink RX2 18 "TapCascade$Past" "size" "I"] ++ wsX20)
def wsX2_keep_r1 : List Cond := [Cond.fieldLink RX2 11 "TapCascade$Past" "kept" "[LTapCascade$Line;", Cond.fieldLink RX2 22 "TapCascade$Past" "next" "I", Cond.fieldLink RX2 18 "TapCascade$Past" "size" "I", Cond.methodLink RX2 29 Lib.Math.min.name, Cond.static Lib.Math.min.name, Cond.initialized "java/lang/Math", Cond.code Lib.Math.min.name Lib.Math.min.code 2 (some .int), Cond.methodLink RX2 25 yX1_copyFrom, Cond.instanceMethod yX1_copyFrom, Cond.selects RX1 yX1_copyFrom yX1_copyFrom, Cond.initialized RX1, Cond.code yX1_copyFrom cX1_copyFrom 3 none, Cond.fieldLink RX1 11 "TapCascade$Line" "stages" "[LTapCascade$Stage;", Cond.fieldLink RX1 24 "TapCascade$Line" "log" "LTapCascade$StepLog;", Cond.fieldLink RX1 29 "TapCascade$Line" "size" "I", Cond.fieldLink RX1 33 "TapCascade$Line" "source" "I", Cond.fieldLink RX1 36 "TapCascade$Line" "ticks" "I", Cond.methodLink RX1 42 yX4_copyFrom, Cond.instanceMethod yX4_copyFrom, Cond.selects RX4 yX4_copyFrom yX4_copyFrom, Cond.initialized RX4, Cond.code yX4_copyFrom cX4_copyFrom 2 none, Cond.fieldLink RX4 13 "TapCascade$Stage" "step" "I", Cond.fieldLink RX4 19 "TapCascade$Stage" "target" "I"]
def wsX2_keep_r2 : List Cond := [Cond.fieldLink RX4 22 "TapCascade$Stage" "band" "I", Cond.fieldLink RX4 25 "TapCascade$Stage" "wait" "I", Cond.fieldLink RX4 28 "TapCascade$Stage" "rule" "I", Cond.fieldLink RX4 31 "TapCascade$Stage" "load" "I", Cond.fieldLink RX4 34 "TapCascade$Stage" "way" "I", Cond.fieldLink RX4 37 "TapCascade$Stage" "tap" "I", Cond.fieldLink RX4 40 "TapCascade$Stage" "count" "I", Cond.fieldLink RX4 43 "TapCascade$Stage" "wanted" "I", Cond.fieldLink RX4 46 "TapCascade$Stage" "lastStep" "I", Cond.fieldLink RX4 49 "TapCascade$Stage" "stuck" "Z", Cond.fieldLink RX4 53 "TapCascade$Stage" "flow" "I", Cond.fieldLink RX4 56 "TapCascade$Stage" "in" "I", Cond.fieldLink RX4 59 "TapCascade$Stage" "out" "I", Cond.methodLink RX1 46 yX5_copyFrom, Cond.instanceMethod yX5_copyFrom, Cond.selects RX5 yX5_copyFrom yX5_copyFrom, Cond.initialized RX5, Cond.code yX5_copyFrom cX5_copyFrom 2 none, Cond.fieldLink RX5 9 "TapCascade$StepLog" "ticks" "[I", Cond.methodLink RX5 28 arraycopyName, Cond.native arraycopyName, Cond.static arraycopyName, Cond.initialized "java/lang/System", Cond.fieldLink RX5 15 "TapCascade$StepLog" "stages" "[I"]
def wsX2_keep_r3 : List Cond := [Cond.fieldLink RX5 18 "TapCascade$StepLog" "ways" "[I", Cond.fieldLink RX5 21 "TapCascade$StepLog" "total" "I", Cond.fieldLink RX5 25 "TapCascade$StepLog" "back" "I"]
def wsX2_keep : List Cond := .code yX2_keep cX2_keep 2 none :: ((wsX2_keep_r1 ++ (wsX2_keep_r2 ++ wsX2_keep_r3)) ++ wsX20 ++ wsX10 ++ wsX40 ++ wsX50)
def wsX2_giveBack_r1 : List Cond := [Cond.fieldLink RX2 22 "TapCascade$Past" "next" "I", Cond.fieldLink RX2 11 "TapCascade$Past" "kept" "[LTapCascade$Line;", Cond.fieldLink RX2 18 "TapCascade$Past" "size" "I", Cond.methodLink RX2 25 yX1_copyFrom, Cond.instanceMethod yX1_copyFrom, Cond.selects RX1 yX1_copyFrom yX1_copyFrom, Cond.initialized RX1, Cond.code yX1_copyFrom cX1_copyFrom 3 none, Cond.fieldLink RX1 11 "TapCascade$Line" "stages" "[LTapCascade$Stage;", Cond.fieldLink RX1 24 "TapCascade$Line" "log" "LTapCascade$StepLog;", Cond.fieldLink RX1 29 "TapCascade$Line" "size" "I", Cond.fieldLink RX1 33 "TapCascade$Line" "source" "I", Cond.fieldLink RX1 36 "TapCascade$Line" "ticks" "I", Cond.methodLink RX1 42 yX4_copyFrom, Cond.instanceMethod yX4_copyFrom, Cond.selects RX4 yX4_copyFrom yX4_copyFrom, Cond.initialized RX4, Cond.code yX4_copyFrom cX4_copyFrom 2 none, Cond.fieldLink RX4 13 "TapCascade$Stage" "step" "I", Cond.fieldLink RX4 19 "TapCascade$Stage" "target" "I", Cond.fieldLink RX4 22 "TapCascade$Stage" "band" "I", Cond.fieldLink RX4 25 "TapCascade$Stage" "wait" "I", Cond.fieldLink RX4 28 "TapCascade$Stage" "rule" "I", Cond.fieldLink RX4 31 "TapCascade$Stage" "load" "I"]
def wsX2_giveBack_r2 : List Cond := [Cond.fieldLink RX4 34 "TapCascade$Stage" "way" "I", Cond.fieldLink RX4 37 "TapCascade$Stage" "tap" "I", Cond.fieldLink RX4 40 "TapCascade$Stage" "count" "I", Cond.fieldLink RX4 43 "TapCascade$Stage" "wanted" "I", Cond.fieldLink RX4 46 "TapCascade$Stage" "lastStep" "I", Cond.fieldLink RX4 49 "TapCascade$Stage" "stuck" "Z", Cond.fieldLink RX4 53 "TapCascade$Stage" "flow" "I", Cond.fieldLink RX4 56 "TapCascade$Stage" "in" "I", Cond.fieldLink RX4 59 "TapCascade$Stage" "out" "I", Cond.methodLink RX1 46 yX5_copyFrom, Cond.instanceMethod yX5_copyFrom, Cond.selects RX5 yX5_copyFrom yX5_copyFrom, Cond.initialized RX5, Cond.code yX5_copyFrom cX5_copyFrom 2 none, Cond.fieldLink RX5 9 "TapCascade$StepLog" "ticks" "[I", Cond.methodLink RX5 28 arraycopyName, Cond.native arraycopyName, Cond.static arraycopyName, Cond.initialized "java/lang/System", Cond.fieldLink RX5 15 "TapCascade$StepLog" "stages" "[I", Cond.fieldLink RX5 18 "TapCascade$StepLog" "ways" "[I", Cond.fieldLink RX5 21 "TapCascade$StepLog" "total" "I", Cond.fieldLink RX5 25 "TapCascade$StepLog" "back" "I"]
def wsX2_giveBack : List Cond := .code yX2_giveBack cX2_giveBack 2 none :: ((wsX2_giveBack_r1 ++ wsX2_giveBack_r2) ++ wsX20 ++ wsX10 ++ wsX40 ++ wsX50)
def wsX3_init : List Cond := .code yX3_init cX3_init 1 none :: ([.methodLink RX3 3 objectInit, .instanceMethod objectInit, .code objectInit ⟨#[0xb1]⟩ 1 none, .arrayClass .int, .fieldLink RX3 9 "TapCascade$Search" "taps" "[I", .fieldLink RX3 15 "TapCascade$Search" "bestTaps" "[I"] ++ wsX30)
def wsX3_tryTaps_r1 : List Cond := [Cond.fieldLink RX3 34 "TapCascade$Line" "size" "I", Cond.fieldLink RX3 21 "TapCascade$Search" "leastOff" "I", Cond.fieldLink RX3 9 "TapCascade$Search" "taps" "[I", Cond.fieldLink RX3 15 "TapCascade$Search" "bestTaps" "[I", Cond.methodLink RX3 37 arraycopyName, Cond.native arraycopyName, Cond.static arraycopyName, Cond.initialized "java/lang/System", Cond.fieldLink RX3 43 "TapCascade$Line" "stages" "[LTapCascade$Stage;", Cond.fieldLink RX3 47 "TapCascade$Stage" "stuck" "Z", Cond.fieldLink RX3 53 "TapCascade$Stage" "tap" "I", Cond.fieldLink RX3 56 "TapCascade$Stage" "step" "I", Cond.fieldLink RX3 63 "TapCascade$Stage" "target" "I", Cond.methodLink RX3 66 Lib.Math.abs.name, Cond.static Lib.Math.abs.name, Cond.initialized "java/lang/Math", Cond.code Lib.Math.abs.name Lib.Math.abs.code 1 (some .int), Cond.static yX7_outOf, Cond.initialized RX7, Cond.code yX7_outOf cX7_outOf 2 (some .int), Cond.methodLink RX3 72 yX1_lostBehind, Cond.instanceMethod yX1_lostBehind, Cond.selects RX1 yX1_lostBehind yX1_lostBehind, Cond.initialized RX1]
def wsX3_tryTaps_r2 : List Cond := [Cond.code yX1_lostBehind cX1_lostBehind 2 (some .int), Cond.fieldLink RX1 29 "TapCascade$Line" "size" "I", Cond.fieldLink RX1 11 "TapCascade$Line" "stages" "[LTapCascade$Stage;", Cond.fieldLink RX1 77 "TapCascade$Stage" "way" "I", Cond.fieldLink RX1 56 "TapCascade$Stage" "flow" "I", Cond.static yX7_lostBetween, Cond.code yX7_lostBetween cX7_lostBetween 2 (some .int), Cond.methodLink RX3 30 yX3_tryTaps, Cond.static yX3_tryTaps, Cond.initialized RX3]
def wsX3_tryTaps : List Cond := .code yX3_tryTaps cX3_tryTaps 11 none :: ((wsX3_tryTaps_r1 ++ wsX3_tryTaps_r2) ++ wsX10 ++ wsX30 ++ wsX40)
def wsX3_start_r1 : List Cond := [Cond.constant RX3 20 (2147483647), Cond.fieldLink RX3 21 "TapCascade$Search" "leastOff" "I", Cond.fieldLink RX3 25 "TapCascade$Line" "source" "I", Cond.methodLink RX3 30 yX3_tryTaps, Cond.static yX3_tryTaps, Cond.initialized RX3, Cond.code yX3_tryTaps cX3_tryTaps 11 none, Cond.fieldLink RX3 34 "TapCascade$Line" "size" "I", Cond.fieldLink RX3 9 "TapCascade$Search" "taps" "[I", Cond.fieldLink RX3 15 "TapCascade$Search" "bestTaps" "[I", Cond.methodLink RX3 37 arraycopyName, Cond.native arraycopyName, Cond.static arraycopyName, Cond.initialized "java/lang/System", Cond.fieldLink RX3 43 "TapCascade$Line" "stages" "[LTapCascade$Stage;", Cond.fieldLink RX3 47 "TapCascade$Stage" "stuck" "Z", Cond.fieldLink RX3 53 "TapCascade$Stage" "tap" "I", Cond.fieldLink RX3 56 "TapCascade$Stage" "step" "I", Cond.fieldLink RX3 63 "TapCascade$Stage" "target" "I", Cond.methodLink RX3 66 Lib.Math.abs.name, Cond.static Lib.Math.abs.name, Cond.initialized "java/lang/Math", Cond.code Lib.Math.abs.name Lib.Math.abs.code 1 (some .int), Cond.static yX7_outOf]
def wsX3_start_r2 : List Cond := [Cond.initialized RX7, Cond.code yX7_outOf cX7_outOf 2 (some .int), Cond.methodLink RX3 72 yX1_lostBehind, Cond.instanceMethod yX1_lostBehind, Cond.selects RX1 yX1_lostBehind yX1_lostBehind, Cond.initialized RX1, Cond.code yX1_lostBehind cX1_lostBehind 2 (some .int), Cond.fieldLink RX1 29 "TapCascade$Line" "size" "I", Cond.fieldLink RX1 11 "TapCascade$Line" "stages" "[LTapCascade$Stage;", Cond.fieldLink RX1 77 "TapCascade$Stage" "way" "I", Cond.fieldLink RX1 56 "TapCascade$Stage" "flow" "I", Cond.static yX7_lostBetween, Cond.code yX7_lostBetween cX7_lostBetween 2 (some .int)]
def wsX3_start : List Cond := .code yX3_start cX3_start 2 none :: ((wsX3_start_r1 ++ wsX3_start_r2) ++ wsX30 ++ wsX10 ++ wsX40)
def wsX4_valueToTell : List Cond := .code yX4_valueToTell cX4_valueToTell 2 (some .int) :: ([.fieldLink RX4 31 "TapCascade$Stage" "load" "I", .fieldLink RX4 37 "TapCascade$Stage" "tap" "I", .fieldLink RX4 25 "TapCascade$Stage" "wait" "I"] ++ wsX40)
def wsX4_takeTold : List Cond := .code yX4_takeTold cX4_takeTold 3 none :: ([.fieldLink RX4 31 "TapCascade$Stage" "load" "I", .fieldLink RX4 37 "TapCascade$Stage" "tap" "I", .fieldLink RX4 25 "TapCascade$Stage" "wait" "I"] ++ wsX40)
def wsX4_valueOf_r1 : List Cond := [Cond.fieldLink RX4 13 "TapCascade$Stage" "step" "I", Cond.fieldLink RX4 19 "TapCascade$Stage" "target" "I", Cond.fieldLink RX4 22 "TapCascade$Stage" "band" "I", Cond.fieldLink RX4 25 "TapCascade$Stage" "wait" "I", Cond.fieldLink RX4 28 "TapCascade$Stage" "rule" "I", Cond.fieldLink RX4 31 "TapCascade$Stage" "load" "I", Cond.fieldLink RX4 34 "TapCascade$Stage" "way" "I", Cond.fieldLink RX4 37 "TapCascade$Stage" "tap" "I", Cond.fieldLink RX4 49 "TapCascade$Stage" "stuck" "Z", Cond.fieldLink RX4 53 "TapCascade$Stage" "flow" "I", Cond.fieldLink RX4 56 "TapCascade$Stage" "in" "I", Cond.fieldLink RX4 59 "TapCascade$Stage" "out" "I", Cond.fieldLink RX4 40 "TapCascade$Stage" "count" "I", Cond.methodLink RX4 68 yX4_judged, Cond.instanceMethod yX4_judged, Cond.selects RX4 yX4_judged yX4_judged, Cond.initialized RX4, Cond.code yX4_judged cX4_judged 1 (some .int), Cond.methodLink RX4 72 yX4_wants, Cond.instanceMethod yX4_wants, Cond.selects RX4 yX4_wants yX4_wants, Cond.code yX4_wants cX4_wants 3 (some .int), Cond.methodLink RX4 75 yX4_canAsItWants, Cond.instanceMethod yX4_canAsItWants]
def wsX4_valueOf_r2 : List Cond := [Cond.selects RX4 yX4_canAsItWants yX4_canAsItWants, Cond.code yX4_canAsItWants cX4_canAsItWants 1 (some .boolean)]
def wsX4_valueOf : List Cond := .code yX4_valueOf cX4_valueOf 2 (some .int) :: ((wsX4_valueOf_r1 ++ wsX4_valueOf_r2) ++ wsX40)
def wsX5_told : List Cond := .code yX5_told cX5_told 1 (some .int) :: ([.fieldLink RX5 21 "TapCascade$StepLog" "total" "I", .methodLink RX5 34 Lib.Math.min.name, .static Lib.Math.min.name, .initialized "java/lang/Math", .code Lib.Math.min.name Lib.Math.min.code 2 (some .int)] ++ wsX50)
def wsX5_valueOf : List Cond := .code yX5_valueOf cX5_valueOf 4 (some .int) :: ([.fieldLink RX5 21 "TapCascade$StepLog" "total" "I", .fieldLink RX5 9 "TapCascade$StepLog" "ticks" "[I", .fieldLink RX5 15 "TapCascade$StepLog" "stages" "[I", .fieldLink RX5 18 "TapCascade$StepLog" "ways" "[I", .methodLink RX5 40 yX5_told, .instanceMethod yX5_told, .selects RX5 yX5_told yX5_told, .initialized RX5, .code yX5_told cX5_told 1 (some .int), .methodLink RX5 34 Lib.Math.min.name, .static Lib.Math.min.name, .initialized "java/lang/Math", .code Lib.Math.min.name Lib.Math.min.code 2 (some .int)] ++ wsX50)
def wsJ6_bitCount_0f7a4 : List Cond := .code yJ6_bitCount_0f7a4 cJ6_bitCount_0f7a4 1 (some .int) :: ([.constant RJ6 265 (1431655765), .constant RJ6 266 (858993459), .constant RJ6 267 (252645135)])
def wsX5_unlikeTold : List Cond := .code yX5_unlikeTold cX5_unlikeTold 3 (some .int) :: ([.fieldLink RX5 15 "TapCascade$StepLog" "stages" "[I", .fieldLink RX5 18 "TapCascade$StepLog" "ways" "[I", .methodLink RX5 40 yX5_told, .instanceMethod yX5_told, .selects RX5 yX5_told yX5_told, .initialized RX5, .code yX5_told cX5_told 1 (some .int), .fieldLink RX5 21 "TapCascade$StepLog" "total" "I", .methodLink RX5 34 Lib.Math.min.name, .static Lib.Math.min.name, .initialized "java/lang/Math", .code Lib.Math.min.name Lib.Math.min.code 2 (some .int), .methodLink RX5 44 yJ6_bitCount_0f7a4, .static yJ6_bitCount_0f7a4, .initialized RJ6, .code yJ6_bitCount_0f7a4 cJ6_bitCount_0f7a4 1 (some .int), .constant RJ6 265 (1431655765), .constant RJ6 266 (858993459), .constant RJ6 267 (252645135)] ++ wsX50)
def wsX6_init : List Cond := .code yX6_init cX6_init 1 none :: ([.methodLink RX6 3 objectInit, .instanceMethod objectInit, .code objectInit ⟨#[0xb1]⟩ 1 none, .arrayClass .int, .fieldLink RX6 9 "TapCascade$Text" "letters" "[I", .fieldLink RX6 18 "TapCascade$Text" "told" "[I"] ++ wsX60)
def wsX6_append : List Cond := .code yX6_append cX6_append 2 (some .boolean) :: ([.fieldLink RX6 21 "TapCascade$Text" "length" "I", .fieldLink RX6 9 "TapCascade$Text" "letters" "[I"] ++ wsX60)
def wsX6_take : List Cond := .code yX6_take cX6_take 2 (some .boolean) :: ([.fieldLink RX6 30 "TapCascade$Text" "place" "I", .fieldLink RX6 21 "TapCascade$Text" "length" "I", .fieldLink RX6 9 "TapCascade$Text" "letters" "[I"] ++ wsX60)
def wsX6_isFigure : List Cond := .code yX6_isFigure cX6_isFigure 1 (some .boolean) :: ([.fieldLink RX6 30 "TapCascade$Text" "place" "I", .fieldLink RX6 21 "TapCascade$Text" "length" "I", .fieldLink RX6 9 "TapCascade$Text" "letters" "[I"] ++ wsX60)
def wsX6_readNumber : List Cond := .code yX6_readNumber cX6_readNumber 7 (some .int) :: ([.fieldLink RX6 9 "TapCascade$Text" "letters" "[I", .fieldLink RX6 30 "TapCascade$Text" "place" "I", .methodLink RX6 40 yX6_take, .instanceMethod yX6_take, .selects RX6 yX6_take yX6_take, .initialized RX6, .code yX6_take cX6_take 2 (some .boolean), .fieldLink RX6 21 "TapCascade$Text" "length" "I", .methodLink RX6 64 yX6_isFigure, .instanceMethod yX6_isFigure, .selects RX6 yX6_isFigure yX6_isFigure, .code yX6_isFigure cX6_isFigure 1 (some .boolean)] ++ wsX60)
def wsX6_readSource : List Cond := .code yX6_readSource cX6_readSource 3 (some .boolean) :: ([.fieldLink RX6 54 "TapCascade$Line" "source" "I", .methodLink RX6 50 yX6_readNumber, .instanceMethod yX6_readNumber, .selects RX6 yX6_readNumber yX6_readNumber, .initialized RX6, .code yX6_readNumber cX6_readNumber 7 (some .int), .fieldLink RX6 9 "TapCascade$Text" "letters" "[I", .fieldLink RX6 30 "TapCascade$Text" "place" "I", .methodLink RX6 40 yX6_take, .instanceMethod yX6_take, .selects RX6 yX6_take yX6_take, .code yX6_take cX6_take 2 (some .boolean), .fieldLink RX6 21 "TapCascade$Text" "length" "I", .methodLink RX6 64 yX6_isFigure, .instanceMethod yX6_isFigure, .selects RX6 yX6_isFigure yX6_isFigure, .code yX6_isFigure cX6_isFigure 1 (some .boolean)] ++ wsX10 ++ wsX60)
def wsX6_readStage_r1 : List Cond := [Cond.fieldLink RX6 18 "TapCascade$Text" "told" "[I", Cond.methodLink RX6 50 yX6_readNumber, Cond.instanceMethod yX6_readNumber, Cond.selects RX6 yX6_readNumber yX6_readNumber, Cond.initialized RX6, Cond.code yX6_readNumber cX6_readNumber 7 (some .int), Cond.fieldLink RX6 9 "TapCascade$Text" "letters" "[I", Cond.fieldLink RX6 30 "TapCascade$Text" "place" "I", Cond.methodLink RX6 40 yX6_take, Cond.instanceMethod yX6_take, Cond.selects RX6 yX6_take yX6_take, Cond.code yX6_take cX6_take 2 (some .boolean), Cond.fieldLink RX6 21 "TapCascade$Text" "length" "I", Cond.methodLink RX6 64 yX6_isFigure, Cond.instanceMethod yX6_isFigure, Cond.selects RX6 yX6_isFigure yX6_isFigure, Cond.code yX6_isFigure cX6_isFigure 1 (some .boolean), Cond.methodLink RX6 60 yX1_addStage, Cond.instanceMethod yX1_addStage, Cond.selects RX1 yX1_addStage yX1_addStage, Cond.initialized RX1, Cond.code yX1_addStage cX1_addStage 2 (some .boolean), Cond.fieldLink RX1 29 "TapCascade$Line" "size" "I", Cond.fieldLink RX1 11 "TapCascade$Line" "stages" "[LTapCascade$Stage;"]
def wsX6_readStage_r2 : List Cond := [Cond.methodLink RX1 49 yX4_layDown, Cond.instanceMethod yX4_layDown, Cond.selects RX4 yX4_layDown yX4_layDown, Cond.initialized RX4, Cond.code yX4_layDown cX4_layDown 2 none, Cond.fieldLink RX4 13 "TapCascade$Stage" "step" "I", Cond.fieldLink RX4 19 "TapCascade$Stage" "target" "I", Cond.fieldLink RX4 22 "TapCascade$Stage" "band" "I", Cond.fieldLink RX4 25 "TapCascade$Stage" "wait" "I", Cond.fieldLink RX4 28 "TapCascade$Stage" "rule" "I", Cond.fieldLink RX4 31 "TapCascade$Stage" "load" "I", Cond.fieldLink RX4 34 "TapCascade$Stage" "way" "I", Cond.fieldLink RX4 37 "TapCascade$Stage" "tap" "I", Cond.fieldLink RX4 40 "TapCascade$Stage" "count" "I", Cond.fieldLink RX4 43 "TapCascade$Stage" "wanted" "I", Cond.fieldLink RX4 46 "TapCascade$Stage" "lastStep" "I", Cond.fieldLink RX4 49 "TapCascade$Stage" "stuck" "Z"]
def wsX6_readStage : List Cond := .code yX6_readStage cX6_readStage 4 (some .boolean) :: ((wsX6_readStage_r1 ++ wsX6_readStage_r2) ++ wsX60 ++ wsX10 ++ wsX40)
def wsX6_readItem_r1 : List Cond := [Cond.methodLink RX6 40 yX6_take, Cond.instanceMethod yX6_take, Cond.selects RX6 yX6_take yX6_take, Cond.initialized RX6, Cond.code yX6_take cX6_take 2 (some .boolean), Cond.fieldLink RX6 30 "TapCascade$Text" "place" "I", Cond.fieldLink RX6 21 "TapCascade$Text" "length" "I", Cond.fieldLink RX6 9 "TapCascade$Text" "letters" "[I", Cond.methodLink RX6 44 yX6_readSource, Cond.instanceMethod yX6_readSource, Cond.selects RX6 yX6_readSource yX6_readSource, Cond.code yX6_readSource cX6_readSource 3 (some .boolean), Cond.fieldLink RX6 54 "TapCascade$Line" "source" "I", Cond.methodLink RX6 50 yX6_readNumber, Cond.instanceMethod yX6_readNumber, Cond.selects RX6 yX6_readNumber yX6_readNumber, Cond.code yX6_readNumber cX6_readNumber 7 (some .int), Cond.methodLink RX6 64 yX6_isFigure, Cond.instanceMethod yX6_isFigure, Cond.selects RX6 yX6_isFigure yX6_isFigure, Cond.code yX6_isFigure cX6_isFigure 1 (some .boolean), Cond.methodLink RX6 47 yX6_readStage, Cond.instanceMethod yX6_readStage, Cond.selects RX6 yX6_readStage yX6_readStage]
def wsX6_readItem_r2 : List Cond := [Cond.code yX6_readStage cX6_readStage 4 (some .boolean), Cond.fieldLink RX6 18 "TapCascade$Text" "told" "[I", Cond.methodLink RX6 60 yX1_addStage, Cond.instanceMethod yX1_addStage, Cond.selects RX1 yX1_addStage yX1_addStage, Cond.initialized RX1, Cond.code yX1_addStage cX1_addStage 2 (some .boolean), Cond.fieldLink RX1 29 "TapCascade$Line" "size" "I", Cond.fieldLink RX1 11 "TapCascade$Line" "stages" "[LTapCascade$Stage;", Cond.methodLink RX1 49 yX4_layDown, Cond.instanceMethod yX4_layDown, Cond.selects RX4 yX4_layDown yX4_layDown, Cond.initialized RX4, Cond.code yX4_layDown cX4_layDown 2 none, Cond.fieldLink RX4 13 "TapCascade$Stage" "step" "I", Cond.fieldLink RX4 19 "TapCascade$Stage" "target" "I", Cond.fieldLink RX4 22 "TapCascade$Stage" "band" "I", Cond.fieldLink RX4 25 "TapCascade$Stage" "wait" "I", Cond.fieldLink RX4 28 "TapCascade$Stage" "rule" "I", Cond.fieldLink RX4 31 "TapCascade$Stage" "load" "I", Cond.fieldLink RX4 34 "TapCascade$Stage" "way" "I", Cond.fieldLink RX4 37 "TapCascade$Stage" "tap" "I", Cond.fieldLink RX4 40 "TapCascade$Stage" "count" "I", Cond.fieldLink RX4 43 "TapCascade$Stage" "wanted" "I"]
def wsX6_readItem_r3 : List Cond := [Cond.fieldLink RX4 46 "TapCascade$Stage" "lastStep" "I", Cond.fieldLink RX4 49 "TapCascade$Stage" "stuck" "Z"]
def wsX6_readItem : List Cond := .code yX6_readItem cX6_readItem 2 (some .boolean) :: ((wsX6_readItem_r1 ++ (wsX6_readItem_r2 ++ wsX6_readItem_r3)) ++ wsX60 ++ wsX10 ++ wsX40)
def wsX6_readInto_r1 : List Cond := [Cond.fieldLink RX6 30 "TapCascade$Text" "place" "I", Cond.fieldLink RX6 21 "TapCascade$Text" "length" "I", Cond.methodLink RX6 25 yX1_empty, Cond.instanceMethod yX1_empty, Cond.selects RX1 yX1_empty yX1_empty, Cond.initialized RX1, Cond.code yX1_empty cX1_empty 1 none, Cond.fieldLink RX1 29 "TapCascade$Line" "size" "I", Cond.fieldLink RX1 33 "TapCascade$Line" "source" "I", Cond.fieldLink RX1 36 "TapCascade$Line" "ticks" "I", Cond.fieldLink RX1 24 "TapCascade$Line" "log" "LTapCascade$StepLog;", Cond.methodLink RX1 39 yX5_empty, Cond.instanceMethod yX5_empty, Cond.selects RX5 yX5_empty yX5_empty, Cond.initialized RX5, Cond.code yX5_empty cX5_empty 1 none, Cond.fieldLink RX5 21 "TapCascade$StepLog" "total" "I", Cond.fieldLink RX5 25 "TapCascade$StepLog" "back" "I", Cond.methodLink RX6 33 yX6_readItem, Cond.instanceMethod yX6_readItem, Cond.selects RX6 yX6_readItem yX6_readItem, Cond.initialized RX6, Cond.code yX6_readItem cX6_readItem 2 (some .boolean), Cond.methodLink RX6 40 yX6_take]
def wsX6_readInto_r2 : List Cond := [Cond.instanceMethod yX6_take, Cond.selects RX6 yX6_take yX6_take, Cond.code yX6_take cX6_take 2 (some .boolean), Cond.fieldLink RX6 9 "TapCascade$Text" "letters" "[I", Cond.methodLink RX6 44 yX6_readSource, Cond.instanceMethod yX6_readSource, Cond.selects RX6 yX6_readSource yX6_readSource, Cond.code yX6_readSource cX6_readSource 3 (some .boolean), Cond.fieldLink RX6 54 "TapCascade$Line" "source" "I", Cond.methodLink RX6 50 yX6_readNumber, Cond.instanceMethod yX6_readNumber, Cond.selects RX6 yX6_readNumber yX6_readNumber, Cond.code yX6_readNumber cX6_readNumber 7 (some .int), Cond.methodLink RX6 64 yX6_isFigure, Cond.instanceMethod yX6_isFigure, Cond.selects RX6 yX6_isFigure yX6_isFigure, Cond.code yX6_isFigure cX6_isFigure 1 (some .boolean), Cond.methodLink RX6 47 yX6_readStage, Cond.instanceMethod yX6_readStage, Cond.selects RX6 yX6_readStage yX6_readStage, Cond.code yX6_readStage cX6_readStage 4 (some .boolean), Cond.fieldLink RX6 18 "TapCascade$Text" "told" "[I", Cond.methodLink RX6 60 yX1_addStage, Cond.instanceMethod yX1_addStage]
def wsX6_readInto_r3 : List Cond := [Cond.selects RX1 yX1_addStage yX1_addStage, Cond.code yX1_addStage cX1_addStage 2 (some .boolean), Cond.fieldLink RX1 11 "TapCascade$Line" "stages" "[LTapCascade$Stage;", Cond.methodLink RX1 49 yX4_layDown, Cond.instanceMethod yX4_layDown, Cond.selects RX4 yX4_layDown yX4_layDown, Cond.initialized RX4, Cond.code yX4_layDown cX4_layDown 2 none, Cond.fieldLink RX4 13 "TapCascade$Stage" "step" "I", Cond.fieldLink RX4 19 "TapCascade$Stage" "target" "I", Cond.fieldLink RX4 22 "TapCascade$Stage" "band" "I", Cond.fieldLink RX4 25 "TapCascade$Stage" "wait" "I", Cond.fieldLink RX4 28 "TapCascade$Stage" "rule" "I", Cond.fieldLink RX4 31 "TapCascade$Stage" "load" "I", Cond.fieldLink RX4 34 "TapCascade$Stage" "way" "I", Cond.fieldLink RX4 37 "TapCascade$Stage" "tap" "I", Cond.fieldLink RX4 40 "TapCascade$Stage" "count" "I", Cond.fieldLink RX4 43 "TapCascade$Stage" "wanted" "I", Cond.fieldLink RX4 46 "TapCascade$Stage" "lastStep" "I", Cond.fieldLink RX4 49 "TapCascade$Stage" "stuck" "Z", Cond.methodLink RX6 37 yX1_reckon, Cond.instanceMethod yX1_reckon, Cond.selects RX1 yX1_reckon yX1_reckon, Cond.code yX1_reckon cX1_reckon 5 none]
def wsX6_readInto_r4 : List Cond := [Cond.fieldLink RX1 53 "TapCascade$Stage" "load" "I", Cond.fieldLink RX1 56 "TapCascade$Stage" "flow" "I", Cond.fieldLink RX1 59 "TapCascade$Stage" "in" "I", Cond.fieldLink RX1 70 "TapCascade$Stage" "out" "I", Cond.methodLink RX1 62 yX4_turned, Cond.instanceMethod yX4_turned, Cond.selects RX4 yX4_turned yX4_turned, Cond.code yX4_turned cX4_turned 1 (some .int), Cond.static yX7_outOf, Cond.initialized RX7, Cond.code yX7_outOf cX7_outOf 2 (some .int), Cond.methodLink RX1 73 yX1_lostBehind, Cond.instanceMethod yX1_lostBehind, Cond.selects RX1 yX1_lostBehind yX1_lostBehind, Cond.code yX1_lostBehind cX1_lostBehind 2 (some .int), Cond.fieldLink RX1 77 "TapCascade$Stage" "way" "I", Cond.static yX7_lostBetween, Cond.code yX7_lostBetween cX7_lostBetween 2 (some .int)]
def wsX6_readInto : List Cond := .code yX6_readInto cX6_readInto 4 (some .int) :: ((wsX6_readInto_r1 ++ (wsX6_readInto_r2 ++ (wsX6_readInto_r3 ++ wsX6_readInto_r4))) ++ wsX60 ++ wsX10 ++ wsX50 ++ wsX40)
def wsJ0_coder_7d493 : List Cond := .code yJ0_coder_7d493 cJ0_coder_7d493 1 (some .byte) :: ([.fieldLink RJ0 38 "java/lang/String" "COMPACT_STRINGS" "Z", .fieldLink RJ0 15 "java/lang/String" "coder" "B"])
def wsJ0_length_8abf5 : List Cond := .code yJ0_length_8abf5 cJ0_length_8abf5 1 (some .int) :: ([.fieldLink RJ0 9 "java/lang/String" "value" "[B", .methodLink RJ0 335 yJ0_coder_7d493, .instanceMethod yJ0_coder_7d493, .selects RJ0 yJ0_coder_7d493 yJ0_coder_7d493, .initialized RJ0, .code yJ0_coder_7d493 cJ0_coder_7d493 1 (some .byte), .fieldLink RJ0 38 "java/lang/String" "COMPACT_STRINGS" "Z", .fieldLink RJ0 15 "java/lang/String" "coder" "B"])
def wsJ0_isLatin1_aae02 : List Cond := .code yJ0_isLatin1_aae02 cJ0_isLatin1_aae02 1 (some .boolean) :: ([.fieldLink RJ0 38 "java/lang/String" "COMPACT_STRINGS" "Z", .fieldLink RJ0 15 "java/lang/String" "coder" "B"])
def wsJ3_checkIndex_8e157 : List Cond := .code yJ3_checkIndex_8e157 cJ3_checkIndex_8e157 3 (some .int) :: ([])
def wsJ0_checkIndex_df160 : List Cond := .code yJ0_checkIndex_df160 cJ0_checkIndex_df160 2 none :: ([.fieldLink RJ0 1053 "jdk/internal/util/Preconditions" "SIOOBE_FORMATTER" "Ljava/util/function/BiFunction;", .methodLink RJ0 1059 yJ3_checkIndex_8e157, .static yJ3_checkIndex_8e157, .initialized RJ3, .code yJ3_checkIndex_8e157 cJ3_checkIndex_8e157 3 (some .int)])
def wsJ1_charAt_3b067 : List Cond := .code yJ1_charAt_3b067 cJ1_charAt_3b067 2 (some .char) :: ([.methodLink RJ1 9 yJ0_checkIndex_df160, .static yJ0_checkIndex_df160, .initialized RJ0, .code yJ0_checkIndex_df160 cJ0_checkIndex_df160 2 none, .fieldLink RJ0 1053 "jdk/internal/util/Preconditions" "SIOOBE_FORMATTER" "Ljava/util/function/BiFunction;", .methodLink RJ0 1059 yJ3_checkIndex_8e157, .static yJ3_checkIndex_8e157, .initialized RJ3, .code yJ3_checkIndex_8e157 cJ3_checkIndex_8e157 3 (some .int)])
def wsJ2_length_9d52b : List Cond := .code yJ2_length_9d52b cJ2_length_9d52b 1 (some .int) :: ([])
def wsJ2_checkIndex_2214a : List Cond := .code yJ2_checkIndex_2214a cJ2_checkIndex_2214a 2 none :: ([.methodLink RJ2 48 yJ2_length_9d52b, .static yJ2_length_9d52b, .initialized RJ2, .code yJ2_length_9d52b cJ2_length_9d52b 1 (some .int), .methodLink RJ2 414 yJ0_checkIndex_df160, .static yJ0_checkIndex_df160, .initialized RJ0, .code yJ0_checkIndex_df160 cJ0_checkIndex_df160 2 none, .fieldLink RJ0 1053 "jdk/internal/util/Preconditions" "SIOOBE_FORMATTER" "Ljava/util/function/BiFunction;", .methodLink RJ0 1059 yJ3_checkIndex_8e157, .static yJ3_checkIndex_8e157, .initialized RJ3, .code yJ3_checkIndex_8e157 cJ3_checkIndex_8e157 3 (some .int)])
def wsJ2_getChar_3b067 : List Cond := .code yJ2_getChar_3b067 cJ2_getChar_3b067 2 (some .char) :: ([.fieldLink RJ2 44 "java/lang/StringUTF16" "$assertionsDisabled" "Z", .fieldLink RJ2 59 "java/lang/StringUTF16" "HI_BYTE_SHIFT" "I", .fieldLink RJ2 63 "java/lang/StringUTF16" "LO_BYTE_SHIFT" "I", .methodLink RJ2 48 yJ2_length_9d52b, .static yJ2_length_9d52b, .initialized RJ2, .code yJ2_length_9d52b cJ2_length_9d52b 1 (some .int)])
def wsJ2_charAt_3b067 : List Cond := .code yJ2_charAt_3b067 cJ2_charAt_3b067 2 (some .char) :: ([.methodLink RJ2 67 yJ2_checkIndex_2214a, .static yJ2_checkIndex_2214a, .initialized RJ2, .code yJ2_checkIndex_2214a cJ2_checkIndex_2214a 2 none, .methodLink RJ2 48 yJ2_length_9d52b, .static yJ2_length_9d52b, .code yJ2_length_9d52b cJ2_length_9d52b 1 (some .int), .methodLink RJ2 414 yJ0_checkIndex_df160, .static yJ0_checkIndex_df160, .initialized RJ0, .code yJ0_checkIndex_df160 cJ0_checkIndex_df160 2 none, .fieldLink RJ0 1053 "jdk/internal/util/Preconditions" "SIOOBE_FORMATTER" "Ljava/util/function/BiFunction;", .methodLink RJ0 1059 yJ3_checkIndex_8e157, .static yJ3_checkIndex_8e157, .initialized RJ3, .code yJ3_checkIndex_8e157 cJ3_checkIndex_8e157 3 (some .int), .methodLink RJ2 71 yJ2_getChar_3b067, .static yJ2_getChar_3b067, .code yJ2_getChar_3b067 cJ2_getChar_3b067 2 (some .char), .fieldLink RJ2 44 "java/lang/StringUTF16" "$assertionsDisabled" "Z", .fieldLink RJ2 59 "java/lang/StringUTF16" "HI_BYTE_SHIFT" "I", .fieldLink RJ2 63 "java/lang/StringUTF16" "LO_BYTE_SHIFT" "I"])
def wsJ0_charAt_5068e_r1 : List Cond := [Cond.fieldLink RJ0 9 "java/lang/String" "value" "[B", Cond.methodLink RJ0 492 yJ0_isLatin1_aae02, Cond.instanceMethod yJ0_isLatin1_aae02, Cond.selects RJ0 yJ0_isLatin1_aae02 yJ0_isLatin1_aae02, Cond.initialized RJ0, Cond.code yJ0_isLatin1_aae02 cJ0_isLatin1_aae02 1 (some .boolean), Cond.fieldLink RJ0 38 "java/lang/String" "COMPACT_STRINGS" "Z", Cond.fieldLink RJ0 15 "java/lang/String" "coder" "B", Cond.methodLink RJ0 495 yJ1_charAt_3b067, Cond.static yJ1_charAt_3b067, Cond.initialized RJ1, Cond.code yJ1_charAt_3b067 cJ1_charAt_3b067 2 (some .char), Cond.methodLink RJ1 9 yJ0_checkIndex_df160, Cond.static yJ0_checkIndex_df160, Cond.code yJ0_checkIndex_df160 cJ0_checkIndex_df160 2 none, Cond.fieldLink RJ0 1053 "jdk/internal/util/Preconditions" "SIOOBE_FORMATTER" "Ljava/util/function/BiFunction;", Cond.methodLink RJ0 1059 yJ3_checkIndex_8e157, Cond.static yJ3_checkIndex_8e157, Cond.initialized RJ3, Cond.code yJ3_checkIndex_8e157 cJ3_checkIndex_8e157 3 (some .int), Cond.methodLink RJ0 498 yJ2_charAt_3b067, Cond.static yJ2_charAt_3b067, Cond.initialized RJ2, Cond.code yJ2_charAt_3b067 cJ2_charAt_3b067 2 (some .char)]
def wsJ0_charAt_5068e_r2 : List Cond := [Cond.methodLink RJ2 67 yJ2_checkIndex_2214a, Cond.static yJ2_checkIndex_2214a, Cond.code yJ2_checkIndex_2214a cJ2_checkIndex_2214a 2 none, Cond.methodLink RJ2 48 yJ2_length_9d52b, Cond.static yJ2_length_9d52b, Cond.code yJ2_length_9d52b cJ2_length_9d52b 1 (some .int), Cond.methodLink RJ2 414 yJ0_checkIndex_df160, Cond.methodLink RJ2 71 yJ2_getChar_3b067, Cond.static yJ2_getChar_3b067, Cond.code yJ2_getChar_3b067 cJ2_getChar_3b067 2 (some .char), Cond.fieldLink RJ2 44 "java/lang/StringUTF16" "$assertionsDisabled" "Z", Cond.fieldLink RJ2 59 "java/lang/StringUTF16" "HI_BYTE_SHIFT" "I", Cond.fieldLink RJ2 63 "java/lang/StringUTF16" "LO_BYTE_SHIFT" "I"]
def wsJ0_charAt_5068e : List Cond := .code yJ0_charAt_5068e cJ0_charAt_5068e 2 (some .char) :: ((wsJ0_charAt_5068e_r1 ++ wsJ0_charAt_5068e_r2))
def wsX7_init_r1 : List Cond := [Cond.methodLink RX7 1 objectInit, Cond.instanceMethod objectInit, Cond.code objectInit ⟨#[0xb1]⟩ 1 none, Cond.classLink RX7 7 RX6, Cond.instantiable RX6 4, Cond.initialized RX6, Cond.fieldLink RX7 10 "TapCascade" "text" "LTapCascade$Text;", Cond.classLink RX7 16 RX1, Cond.instantiable RX1 6, Cond.initialized RX1, Cond.fieldLink RX7 19 "TapCascade" "line" "LTapCascade$Line;", Cond.fieldLink RX7 23 "TapCascade" "draft" "LTapCascade$Line;", Cond.classLink RX7 26 RX2, Cond.instantiable RX2 3, Cond.initialized RX2, Cond.fieldLink RX7 29 "TapCascade" "past" "LTapCascade$Past;", Cond.classLink RX7 33 RX0, Cond.instantiable RX0 7, Cond.initialized RX0, Cond.fieldLink RX7 36 "TapCascade" "course" "LTapCascade$Course;", Cond.classLink RX7 40 RX3, Cond.instantiable RX3 3, Cond.initialized RX3, Cond.fieldLink RX7 43 "TapCascade" "search" "LTapCascade$Search;"]
def wsX7_init_r2 : List Cond := [Cond.fieldLink RX7 71 "TapCascade$Text" "length" "I", Cond.methodLink RX7 9 yX6_init, Cond.instanceMethod yX6_init, Cond.code yX6_init cX6_init 1 none, Cond.methodLink RX6 3 objectInit, Cond.arrayClass .int, Cond.fieldLink RX6 9 "TapCascade$Text" "letters" "[I", Cond.fieldLink RX6 18 "TapCascade$Text" "told" "[I", Cond.methodLink RX7 18 yX1_init, Cond.instanceMethod yX1_init, Cond.code yX1_init cX1_init 2 none, Cond.methodLink RX1 3 objectInit, Cond.classLink RX1 9 RX4, Cond.fieldLink RX1 11 "TapCascade$Line" "stages" "[LTapCascade$Stage;", Cond.arrayClass .boolean, Cond.fieldLink RX1 17 "TapCascade$Line" "called" "[Z", Cond.classLink RX1 21 RX5, Cond.instantiable RX5 5, Cond.initialized RX5, Cond.fieldLink RX1 24 "TapCascade$Line" "log" "LTapCascade$StepLog;", Cond.instantiable RX4 15, Cond.initialized RX4, Cond.methodLink RX1 23 yX5_init, Cond.instanceMethod yX5_init]
def wsX7_init_r3 : List Cond := [Cond.code yX5_init cX5_init 1 none, Cond.methodLink RX5 3 objectInit, Cond.fieldLink RX5 9 "TapCascade$StepLog" "ticks" "[I", Cond.fieldLink RX5 15 "TapCascade$StepLog" "stages" "[I", Cond.fieldLink RX5 18 "TapCascade$StepLog" "ways" "[I", Cond.methodLink RX1 28 yX4_init, Cond.instanceMethod yX4_init, Cond.code yX4_init cX4_init 1 none, Cond.methodLink RX4 3 objectInit, Cond.methodLink RX7 28 yX2_init, Cond.instanceMethod yX2_init, Cond.code yX2_init cX2_init 2 none, Cond.methodLink RX2 3 objectInit, Cond.classLink RX2 9 RX1, Cond.fieldLink RX2 11 "TapCascade$Past" "kept" "[LTapCascade$Line;", Cond.methodLink RX2 17 yX1_init, Cond.methodLink RX7 35 yX0_init, Cond.instanceMethod yX0_init, Cond.code yX0_init cX0_init 1 none, Cond.methodLink RX0 3 objectInit, Cond.classLink RX0 9 RX1, Cond.fieldLink RX0 12 "TapCascade$Course" "trial" "LTapCascade$Line;", Cond.arrayClass .long, Cond.fieldLink RX0 18 "TapCascade$Course" "seen" "[J"]
def wsX7_init_r4 : List Cond := [Cond.fieldLink RX0 22 "TapCascade$Course" "stepsBehind" "[I", Cond.methodLink RX0 11 yX1_init, Cond.methodLink RX7 42 yX3_init, Cond.instanceMethod yX3_init, Cond.code yX3_init cX3_init 1 none, Cond.methodLink RX3 3 objectInit, Cond.fieldLink RX3 9 "TapCascade$Search" "taps" "[I", Cond.fieldLink RX3 15 "TapCascade$Search" "bestTaps" "[I", Cond.methodLink RX7 49 yJ0_length_8abf5, Cond.instanceMethod yJ0_length_8abf5, Cond.selects RJ0 yJ0_length_8abf5 yJ0_length_8abf5, Cond.initialized RJ0, Cond.code yJ0_length_8abf5 cJ0_length_8abf5 1 (some .int), Cond.fieldLink RJ0 9 "java/lang/String" "value" "[B", Cond.methodLink RJ0 335 yJ0_coder_7d493, Cond.instanceMethod yJ0_coder_7d493, Cond.selects RJ0 yJ0_coder_7d493 yJ0_coder_7d493, Cond.code yJ0_coder_7d493 cJ0_coder_7d493 1 (some .byte), Cond.fieldLink RJ0 38 "java/lang/String" "COMPACT_STRINGS" "Z", Cond.fieldLink RJ0 15 "java/lang/String" "coder" "B", Cond.methodLink RX7 55 yJ0_charAt_5068e, Cond.instanceMethod yJ0_charAt_5068e, Cond.selects RJ0 yJ0_charAt_5068e yJ0_charAt_5068e, Cond.code yJ0_charAt_5068e cJ0_charAt_5068e 2 (some .char)]
def wsX7_init_r5 : List Cond := [Cond.methodLink RJ0 492 yJ0_isLatin1_aae02, Cond.instanceMethod yJ0_isLatin1_aae02, Cond.selects RJ0 yJ0_isLatin1_aae02 yJ0_isLatin1_aae02, Cond.code yJ0_isLatin1_aae02 cJ0_isLatin1_aae02 1 (some .boolean), Cond.methodLink RJ0 495 yJ1_charAt_3b067, Cond.static yJ1_charAt_3b067, Cond.initialized RJ1, Cond.code yJ1_charAt_3b067 cJ1_charAt_3b067 2 (some .char), Cond.methodLink RJ1 9 yJ0_checkIndex_df160, Cond.static yJ0_checkIndex_df160, Cond.code yJ0_checkIndex_df160 cJ0_checkIndex_df160 2 none, Cond.fieldLink RJ0 1053 "jdk/internal/util/Preconditions" "SIOOBE_FORMATTER" "Ljava/util/function/BiFunction;", Cond.methodLink RJ0 1059 yJ3_checkIndex_8e157, Cond.static yJ3_checkIndex_8e157, Cond.initialized RJ3, Cond.code yJ3_checkIndex_8e157 cJ3_checkIndex_8e157 3 (some .int), Cond.methodLink RJ0 498 yJ2_charAt_3b067, Cond.static yJ2_charAt_3b067, Cond.initialized RJ2, Cond.code yJ2_charAt_3b067 cJ2_charAt_3b067 2 (some .char), Cond.methodLink RJ2 67 yJ2_checkIndex_2214a, Cond.static yJ2_checkIndex_2214a, Cond.code yJ2_checkIndex_2214a cJ2_checkIndex_2214a 2 none, Cond.methodLink RJ2 48 yJ2_length_9d52b]
def wsX7_init_r6 : List Cond := [Cond.static yJ2_length_9d52b, Cond.code yJ2_length_9d52b cJ2_length_9d52b 1 (some .int), Cond.methodLink RJ2 414 yJ0_checkIndex_df160, Cond.methodLink RJ2 71 yJ2_getChar_3b067, Cond.static yJ2_getChar_3b067, Cond.code yJ2_getChar_3b067 cJ2_getChar_3b067 2 (some .char), Cond.fieldLink RJ2 44 "java/lang/StringUTF16" "$assertionsDisabled" "Z", Cond.fieldLink RJ2 59 "java/lang/StringUTF16" "HI_BYTE_SHIFT" "I", Cond.fieldLink RJ2 63 "java/lang/StringUTF16" "LO_BYTE_SHIFT" "I", Cond.methodLink RX7 59 yX6_append, Cond.instanceMethod yX6_append, Cond.selects RX6 yX6_append yX6_append, Cond.code yX6_append cX6_append 2 (some .boolean), Cond.fieldLink RX6 21 "TapCascade$Text" "length" "I", Cond.methodLink RX7 63 yX6_readInto, Cond.instanceMethod yX6_readInto, Cond.selects RX6 yX6_readInto yX6_readInto, Cond.code yX6_readInto cX6_readInto 4 (some .int), Cond.fieldLink RX6 30 "TapCascade$Text" "place" "I", Cond.methodLink RX6 25 yX1_empty, Cond.instanceMethod yX1_empty, Cond.selects RX1 yX1_empty yX1_empty, Cond.code yX1_empty cX1_empty 1 none, Cond.fieldLink RX1 29 "TapCascade$Line" "size" "I"]
def wsX7_init_r7 : List Cond := [Cond.fieldLink RX1 33 "TapCascade$Line" "source" "I", Cond.fieldLink RX1 36 "TapCascade$Line" "ticks" "I", Cond.methodLink RX1 39 yX5_empty, Cond.instanceMethod yX5_empty, Cond.selects RX5 yX5_empty yX5_empty, Cond.code yX5_empty cX5_empty 1 none, Cond.fieldLink RX5 21 "TapCascade$StepLog" "total" "I", Cond.fieldLink RX5 25 "TapCascade$StepLog" "back" "I", Cond.methodLink RX6 33 yX6_readItem, Cond.instanceMethod yX6_readItem, Cond.selects RX6 yX6_readItem yX6_readItem, Cond.code yX6_readItem cX6_readItem 2 (some .boolean), Cond.methodLink RX6 40 yX6_take, Cond.instanceMethod yX6_take, Cond.selects RX6 yX6_take yX6_take, Cond.code yX6_take cX6_take 2 (some .boolean), Cond.methodLink RX6 44 yX6_readSource, Cond.instanceMethod yX6_readSource, Cond.selects RX6 yX6_readSource yX6_readSource, Cond.code yX6_readSource cX6_readSource 3 (some .boolean), Cond.fieldLink RX6 54 "TapCascade$Line" "source" "I", Cond.methodLink RX6 50 yX6_readNumber, Cond.instanceMethod yX6_readNumber, Cond.selects RX6 yX6_readNumber yX6_readNumber]
def wsX7_init_r8 : List Cond := [Cond.code yX6_readNumber cX6_readNumber 7 (some .int), Cond.methodLink RX6 64 yX6_isFigure, Cond.instanceMethod yX6_isFigure, Cond.selects RX6 yX6_isFigure yX6_isFigure, Cond.code yX6_isFigure cX6_isFigure 1 (some .boolean), Cond.methodLink RX6 47 yX6_readStage, Cond.instanceMethod yX6_readStage, Cond.selects RX6 yX6_readStage yX6_readStage, Cond.code yX6_readStage cX6_readStage 4 (some .boolean), Cond.methodLink RX6 60 yX1_addStage, Cond.instanceMethod yX1_addStage, Cond.selects RX1 yX1_addStage yX1_addStage, Cond.code yX1_addStage cX1_addStage 2 (some .boolean), Cond.methodLink RX1 49 yX4_layDown, Cond.instanceMethod yX4_layDown, Cond.selects RX4 yX4_layDown yX4_layDown, Cond.code yX4_layDown cX4_layDown 2 none, Cond.fieldLink RX4 13 "TapCascade$Stage" "step" "I", Cond.fieldLink RX4 19 "TapCascade$Stage" "target" "I", Cond.fieldLink RX4 22 "TapCascade$Stage" "band" "I", Cond.fieldLink RX4 25 "TapCascade$Stage" "wait" "I", Cond.fieldLink RX4 28 "TapCascade$Stage" "rule" "I", Cond.fieldLink RX4 31 "TapCascade$Stage" "load" "I", Cond.fieldLink RX4 34 "TapCascade$Stage" "way" "I"]
def wsX7_init_r9 : List Cond := [Cond.fieldLink RX4 37 "TapCascade$Stage" "tap" "I", Cond.fieldLink RX4 40 "TapCascade$Stage" "count" "I", Cond.fieldLink RX4 43 "TapCascade$Stage" "wanted" "I", Cond.fieldLink RX4 46 "TapCascade$Stage" "lastStep" "I", Cond.fieldLink RX4 49 "TapCascade$Stage" "stuck" "Z", Cond.methodLink RX6 37 yX1_reckon, Cond.instanceMethod yX1_reckon, Cond.selects RX1 yX1_reckon yX1_reckon, Cond.code yX1_reckon cX1_reckon 5 none, Cond.fieldLink RX1 53 "TapCascade$Stage" "load" "I", Cond.fieldLink RX1 56 "TapCascade$Stage" "flow" "I", Cond.fieldLink RX1 59 "TapCascade$Stage" "in" "I", Cond.fieldLink RX1 70 "TapCascade$Stage" "out" "I", Cond.methodLink RX1 62 yX4_turned, Cond.instanceMethod yX4_turned, Cond.selects RX4 yX4_turned yX4_turned, Cond.code yX4_turned cX4_turned 1 (some .int), Cond.static yX7_outOf, Cond.initialized RX7, Cond.code yX7_outOf cX7_outOf 2 (some .int), Cond.methodLink RX1 73 yX1_lostBehind, Cond.instanceMethod yX1_lostBehind, Cond.selects RX1 yX1_lostBehind yX1_lostBehind, Cond.code yX1_lostBehind cX1_lostBehind 2 (some .int)]
def wsX7_init_r10 : List Cond := [Cond.fieldLink RX1 77 "TapCascade$Stage" "way" "I", Cond.static yX7_lostBetween, Cond.code yX7_lostBetween cX7_lostBetween 2 (some .int), Cond.methodLink RX7 67 yX1_copyFrom, Cond.instanceMethod yX1_copyFrom, Cond.selects RX1 yX1_copyFrom yX1_copyFrom, Cond.code yX1_copyFrom cX1_copyFrom 3 none, Cond.methodLink RX1 42 yX4_copyFrom, Cond.instanceMethod yX4_copyFrom, Cond.selects RX4 yX4_copyFrom yX4_copyFrom, Cond.code yX4_copyFrom cX4_copyFrom 2 none, Cond.fieldLink RX4 53 "TapCascade$Stage" "flow" "I", Cond.fieldLink RX4 56 "TapCascade$Stage" "in" "I", Cond.fieldLink RX4 59 "TapCascade$Stage" "out" "I", Cond.methodLink RX1 46 yX5_copyFrom, Cond.instanceMethod yX5_copyFrom, Cond.selects RX5 yX5_copyFrom yX5_copyFrom, Cond.code yX5_copyFrom cX5_copyFrom 2 none, Cond.methodLink RX5 28 arraycopyName, Cond.native arraycopyName, Cond.static arraycopyName, Cond.initialized "java/lang/System"]
def wsX7_init : List Cond := .code yX7_init cX7_init 2 none :: ((wsX7_init_r1 ++ (wsX7_init_r2 ++ (wsX7_init_r3 ++ (wsX7_init_r4 ++ (wsX7_init_r5 ++ (wsX7_init_r6 ++ (wsX7_init_r7 ++ (wsX7_init_r8 ++ (wsX7_init_r9 ++ wsX7_init_r10))))))))) ++ wsX60 ++ wsX70 ++ wsX10 ++ wsX20 ++ wsX00 ++ wsX30 ++ wsX50 ++ wsX40)
def wsX7_write : List Cond := .code yX7_write cX7_write 2 (some .int) :: ([.fieldLink RX7 10 "TapCascade" "text" "LTapCascade$Text;", .fieldLink RX7 71 "TapCascade$Text" "length" "I", .methodLink RX7 59 yX6_append, .instanceMethod yX6_append, .selects RX6 yX6_append yX6_append, .initialized RX6, .code yX6_append cX6_append 2 (some .boolean), .fieldLink RX6 21 "TapCascade$Text" "length" "I", .fieldLink RX6 9 "TapCascade$Text" "letters" "[I"] ++ wsX70 ++ wsX60)
def wsX7_wipe : List Cond := .code yX7_wipe cX7_wipe 2 (some .int) :: ([.fieldLink RX7 10 "TapCascade" "text" "LTapCascade$Text;", .fieldLink RX7 71 "TapCascade$Text" "length" "I"] ++ wsX70 ++ wsX60)
def wsX7_fault_r1 : List Cond := [Cond.fieldLink RX7 10 "TapCascade" "text" "LTapCascade$Text;", Cond.fieldLink RX7 23 "TapCascade" "draft" "LTapCascade$Line;", Cond.methodLink RX7 63 yX6_readInto, Cond.instanceMethod yX6_readInto, Cond.selects RX6 yX6_readInto yX6_readInto, Cond.initialized RX6, Cond.code yX6_readInto cX6_readInto 4 (some .int), Cond.fieldLink RX6 30 "TapCascade$Text" "place" "I", Cond.fieldLink RX6 21 "TapCascade$Text" "length" "I", Cond.methodLink RX6 25 yX1_empty, Cond.instanceMethod yX1_empty, Cond.selects RX1 yX1_empty yX1_empty, Cond.initialized RX1, Cond.code yX1_empty cX1_empty 1 none, Cond.fieldLink RX1 29 "TapCascade$Line" "size" "I", Cond.fieldLink RX1 33 "TapCascade$Line" "source" "I", Cond.fieldLink RX1 36 "TapCascade$Line" "ticks" "I", Cond.fieldLink RX1 24 "TapCascade$Line" "log" "LTapCascade$StepLog;", Cond.methodLink RX1 39 yX5_empty, Cond.instanceMethod yX5_empty, Cond.selects RX5 yX5_empty yX5_empty, Cond.initialized RX5, Cond.code yX5_empty cX5_empty 1 none, Cond.fieldLink RX5 21 "TapCascade$StepLog" "total" "I"]
def wsX7_fault_r2 : List Cond := [Cond.fieldLink RX5 25 "TapCascade$StepLog" "back" "I", Cond.methodLink RX6 33 yX6_readItem, Cond.instanceMethod yX6_readItem, Cond.selects RX6 yX6_readItem yX6_readItem, Cond.code yX6_readItem cX6_readItem 2 (some .boolean), Cond.methodLink RX6 40 yX6_take, Cond.instanceMethod yX6_take, Cond.selects RX6 yX6_take yX6_take, Cond.code yX6_take cX6_take 2 (some .boolean), Cond.fieldLink RX6 9 "TapCascade$Text" "letters" "[I", Cond.methodLink RX6 44 yX6_readSource, Cond.instanceMethod yX6_readSource, Cond.selects RX6 yX6_readSource yX6_readSource, Cond.code yX6_readSource cX6_readSource 3 (some .boolean), Cond.fieldLink RX6 54 "TapCascade$Line" "source" "I", Cond.methodLink RX6 50 yX6_readNumber, Cond.instanceMethod yX6_readNumber, Cond.selects RX6 yX6_readNumber yX6_readNumber, Cond.code yX6_readNumber cX6_readNumber 7 (some .int), Cond.methodLink RX6 64 yX6_isFigure, Cond.instanceMethod yX6_isFigure, Cond.selects RX6 yX6_isFigure yX6_isFigure, Cond.code yX6_isFigure cX6_isFigure 1 (some .boolean), Cond.methodLink RX6 47 yX6_readStage]
def wsX7_fault_r3 : List Cond := [Cond.instanceMethod yX6_readStage, Cond.selects RX6 yX6_readStage yX6_readStage, Cond.code yX6_readStage cX6_readStage 4 (some .boolean), Cond.fieldLink RX6 18 "TapCascade$Text" "told" "[I", Cond.methodLink RX6 60 yX1_addStage, Cond.instanceMethod yX1_addStage, Cond.selects RX1 yX1_addStage yX1_addStage, Cond.code yX1_addStage cX1_addStage 2 (some .boolean), Cond.fieldLink RX1 11 "TapCascade$Line" "stages" "[LTapCascade$Stage;", Cond.methodLink RX1 49 yX4_layDown, Cond.instanceMethod yX4_layDown, Cond.selects RX4 yX4_layDown yX4_layDown, Cond.initialized RX4, Cond.code yX4_layDown cX4_layDown 2 none, Cond.fieldLink RX4 13 "TapCascade$Stage" "step" "I", Cond.fieldLink RX4 19 "TapCascade$Stage" "target" "I", Cond.fieldLink RX4 22 "TapCascade$Stage" "band" "I", Cond.fieldLink RX4 25 "TapCascade$Stage" "wait" "I", Cond.fieldLink RX4 28 "TapCascade$Stage" "rule" "I", Cond.fieldLink RX4 31 "TapCascade$Stage" "load" "I", Cond.fieldLink RX4 34 "TapCascade$Stage" "way" "I", Cond.fieldLink RX4 37 "TapCascade$Stage" "tap" "I", Cond.fieldLink RX4 40 "TapCascade$Stage" "count" "I", Cond.fieldLink RX4 43 "TapCascade$Stage" "wanted" "I"]
def wsX7_fault_r4 : List Cond := [Cond.fieldLink RX4 46 "TapCascade$Stage" "lastStep" "I", Cond.fieldLink RX4 49 "TapCascade$Stage" "stuck" "Z", Cond.methodLink RX6 37 yX1_reckon, Cond.instanceMethod yX1_reckon, Cond.selects RX1 yX1_reckon yX1_reckon, Cond.code yX1_reckon cX1_reckon 5 none, Cond.fieldLink RX1 53 "TapCascade$Stage" "load" "I", Cond.fieldLink RX1 56 "TapCascade$Stage" "flow" "I", Cond.fieldLink RX1 59 "TapCascade$Stage" "in" "I", Cond.fieldLink RX1 70 "TapCascade$Stage" "out" "I", Cond.methodLink RX1 62 yX4_turned, Cond.instanceMethod yX4_turned, Cond.selects RX4 yX4_turned yX4_turned, Cond.code yX4_turned cX4_turned 1 (some .int), Cond.static yX7_outOf, Cond.initialized RX7, Cond.code yX7_outOf cX7_outOf 2 (some .int), Cond.methodLink RX1 73 yX1_lostBehind, Cond.instanceMethod yX1_lostBehind, Cond.selects RX1 yX1_lostBehind yX1_lostBehind, Cond.code yX1_lostBehind cX1_lostBehind 2 (some .int), Cond.fieldLink RX1 77 "TapCascade$Stage" "way" "I", Cond.static yX7_lostBetween, Cond.code yX7_lostBetween cX7_lostBetween 2 (some .int)]
def wsX7_fault : List Cond := .code yX7_fault cX7_fault 1 (some .int) :: ((wsX7_fault_r1 ++ (wsX7_fault_r2 ++ (wsX7_fault_r3 ++ wsX7_fault_r4))) ++ wsX70 ++ wsX60 ++ wsX10 ++ wsX50 ++ wsX40)
def wsX7_lay_r1 : List Cond := [Cond.fieldLink RX7 10 "TapCascade" "text" "LTapCascade$Text;", Cond.fieldLink RX7 23 "TapCascade" "draft" "LTapCascade$Line;", Cond.fieldLink RX7 74 "TapCascade$Line" "size" "I", Cond.fieldLink RX7 19 "TapCascade" "line" "LTapCascade$Line;", Cond.fieldLink RX7 29 "TapCascade" "past" "LTapCascade$Past;", Cond.methodLink RX7 63 yX6_readInto, Cond.instanceMethod yX6_readInto, Cond.selects RX6 yX6_readInto yX6_readInto, Cond.initialized RX6, Cond.code yX6_readInto cX6_readInto 4 (some .int), Cond.fieldLink RX6 30 "TapCascade$Text" "place" "I", Cond.fieldLink RX6 21 "TapCascade$Text" "length" "I", Cond.methodLink RX6 25 yX1_empty, Cond.instanceMethod yX1_empty, Cond.selects RX1 yX1_empty yX1_empty, Cond.initialized RX1, Cond.code yX1_empty cX1_empty 1 none, Cond.fieldLink RX1 29 "TapCascade$Line" "size" "I", Cond.fieldLink RX1 33 "TapCascade$Line" "source" "I", Cond.fieldLink RX1 36 "TapCascade$Line" "ticks" "I", Cond.fieldLink RX1 24 "TapCascade$Line" "log" "LTapCascade$StepLog;", Cond.methodLink RX1 39 yX5_empty, Cond.instanceMethod yX5_empty, Cond.selects RX5 yX5_empty yX5_empty]
def wsX7_lay_r2 : List Cond := [Cond.initialized RX5, Cond.code yX5_empty cX5_empty 1 none, Cond.fieldLink RX5 21 "TapCascade$StepLog" "total" "I", Cond.fieldLink RX5 25 "TapCascade$StepLog" "back" "I", Cond.methodLink RX6 33 yX6_readItem, Cond.instanceMethod yX6_readItem, Cond.selects RX6 yX6_readItem yX6_readItem, Cond.code yX6_readItem cX6_readItem 2 (some .boolean), Cond.methodLink RX6 40 yX6_take, Cond.instanceMethod yX6_take, Cond.selects RX6 yX6_take yX6_take, Cond.code yX6_take cX6_take 2 (some .boolean), Cond.fieldLink RX6 9 "TapCascade$Text" "letters" "[I", Cond.methodLink RX6 44 yX6_readSource, Cond.instanceMethod yX6_readSource, Cond.selects RX6 yX6_readSource yX6_readSource, Cond.code yX6_readSource cX6_readSource 3 (some .boolean), Cond.fieldLink RX6 54 "TapCascade$Line" "source" "I", Cond.methodLink RX6 50 yX6_readNumber, Cond.instanceMethod yX6_readNumber, Cond.selects RX6 yX6_readNumber yX6_readNumber, Cond.code yX6_readNumber cX6_readNumber 7 (some .int), Cond.methodLink RX6 64 yX6_isFigure, Cond.instanceMethod yX6_isFigure]
def wsX7_lay_r3 : List Cond := [Cond.selects RX6 yX6_isFigure yX6_isFigure, Cond.code yX6_isFigure cX6_isFigure 1 (some .boolean), Cond.methodLink RX6 47 yX6_readStage, Cond.instanceMethod yX6_readStage, Cond.selects RX6 yX6_readStage yX6_readStage, Cond.code yX6_readStage cX6_readStage 4 (some .boolean), Cond.fieldLink RX6 18 "TapCascade$Text" "told" "[I", Cond.methodLink RX6 60 yX1_addStage, Cond.instanceMethod yX1_addStage, Cond.selects RX1 yX1_addStage yX1_addStage, Cond.code yX1_addStage cX1_addStage 2 (some .boolean), Cond.fieldLink RX1 11 "TapCascade$Line" "stages" "[LTapCascade$Stage;", Cond.methodLink RX1 49 yX4_layDown, Cond.instanceMethod yX4_layDown, Cond.selects RX4 yX4_layDown yX4_layDown, Cond.initialized RX4, Cond.code yX4_layDown cX4_layDown 2 none, Cond.fieldLink RX4 13 "TapCascade$Stage" "step" "I", Cond.fieldLink RX4 19 "TapCascade$Stage" "target" "I", Cond.fieldLink RX4 22 "TapCascade$Stage" "band" "I", Cond.fieldLink RX4 25 "TapCascade$Stage" "wait" "I", Cond.fieldLink RX4 28 "TapCascade$Stage" "rule" "I", Cond.fieldLink RX4 31 "TapCascade$Stage" "load" "I", Cond.fieldLink RX4 34 "TapCascade$Stage" "way" "I"]
def wsX7_lay_r4 : List Cond := [Cond.fieldLink RX4 37 "TapCascade$Stage" "tap" "I", Cond.fieldLink RX4 40 "TapCascade$Stage" "count" "I", Cond.fieldLink RX4 43 "TapCascade$Stage" "wanted" "I", Cond.fieldLink RX4 46 "TapCascade$Stage" "lastStep" "I", Cond.fieldLink RX4 49 "TapCascade$Stage" "stuck" "Z", Cond.methodLink RX6 37 yX1_reckon, Cond.instanceMethod yX1_reckon, Cond.selects RX1 yX1_reckon yX1_reckon, Cond.code yX1_reckon cX1_reckon 5 none, Cond.fieldLink RX1 53 "TapCascade$Stage" "load" "I", Cond.fieldLink RX1 56 "TapCascade$Stage" "flow" "I", Cond.fieldLink RX1 59 "TapCascade$Stage" "in" "I", Cond.fieldLink RX1 70 "TapCascade$Stage" "out" "I", Cond.methodLink RX1 62 yX4_turned, Cond.instanceMethod yX4_turned, Cond.selects RX4 yX4_turned yX4_turned, Cond.code yX4_turned cX4_turned 1 (some .int), Cond.static yX7_outOf, Cond.initialized RX7, Cond.code yX7_outOf cX7_outOf 2 (some .int), Cond.methodLink RX1 73 yX1_lostBehind, Cond.instanceMethod yX1_lostBehind, Cond.selects RX1 yX1_lostBehind yX1_lostBehind, Cond.code yX1_lostBehind cX1_lostBehind 2 (some .int)]
def wsX7_lay_r5 : List Cond := [Cond.fieldLink RX1 77 "TapCascade$Stage" "way" "I", Cond.static yX7_lostBetween, Cond.code yX7_lostBetween cX7_lostBetween 2 (some .int), Cond.methodLink RX7 67 yX1_copyFrom, Cond.instanceMethod yX1_copyFrom, Cond.selects RX1 yX1_copyFrom yX1_copyFrom, Cond.code yX1_copyFrom cX1_copyFrom 3 none, Cond.methodLink RX1 42 yX4_copyFrom, Cond.instanceMethod yX4_copyFrom, Cond.selects RX4 yX4_copyFrom yX4_copyFrom, Cond.code yX4_copyFrom cX4_copyFrom 2 none, Cond.fieldLink RX4 53 "TapCascade$Stage" "flow" "I", Cond.fieldLink RX4 56 "TapCascade$Stage" "in" "I", Cond.fieldLink RX4 59 "TapCascade$Stage" "out" "I", Cond.methodLink RX1 46 yX5_copyFrom, Cond.instanceMethod yX5_copyFrom, Cond.selects RX5 yX5_copyFrom yX5_copyFrom, Cond.code yX5_copyFrom cX5_copyFrom 2 none, Cond.fieldLink RX5 9 "TapCascade$StepLog" "ticks" "[I", Cond.methodLink RX5 28 arraycopyName, Cond.native arraycopyName, Cond.static arraycopyName, Cond.initialized "java/lang/System", Cond.fieldLink RX5 15 "TapCascade$StepLog" "stages" "[I"]
def wsX7_lay_r6 : List Cond := [Cond.fieldLink RX5 18 "TapCascade$StepLog" "ways" "[I", Cond.methodLink RX7 77 yX2_forget, Cond.instanceMethod yX2_forget, Cond.selects RX2 yX2_forget yX2_forget, Cond.initialized RX2, Cond.code yX2_forget cX2_forget 1 none, Cond.fieldLink RX2 18 "TapCascade$Past" "size" "I"]
def wsX7_lay : List Cond := .code yX7_lay cX7_lay 1 (some .int) :: ((wsX7_lay_r1 ++ (wsX7_lay_r2 ++ (wsX7_lay_r3 ++ (wsX7_lay_r4 ++ (wsX7_lay_r5 ++ wsX7_lay_r6))))) ++ wsX70 ++ wsX10 ++ wsX60 ++ wsX50 ++ wsX40 ++ wsX20)
def wsX7_source_r1 : List Cond := [Cond.fieldLink RX7 19 "TapCascade" "line" "LTapCascade$Line;", Cond.fieldLink RX7 80 "TapCascade$Line" "source" "I", Cond.fieldLink RX7 29 "TapCascade" "past" "LTapCascade$Past;", Cond.methodLink RX7 83 yX2_keep, Cond.instanceMethod yX2_keep, Cond.selects RX2 yX2_keep yX2_keep, Cond.initialized RX2, Cond.code yX2_keep cX2_keep 2 none, Cond.fieldLink RX2 11 "TapCascade$Past" "kept" "[LTapCascade$Line;", Cond.fieldLink RX2 22 "TapCascade$Past" "next" "I", Cond.fieldLink RX2 18 "TapCascade$Past" "size" "I", Cond.methodLink RX2 29 Lib.Math.min.name, Cond.static Lib.Math.min.name, Cond.initialized "java/lang/Math", Cond.code Lib.Math.min.name Lib.Math.min.code 2 (some .int), Cond.methodLink RX2 25 yX1_copyFrom, Cond.instanceMethod yX1_copyFrom, Cond.selects RX1 yX1_copyFrom yX1_copyFrom, Cond.initialized RX1, Cond.code yX1_copyFrom cX1_copyFrom 3 none, Cond.fieldLink RX1 11 "TapCascade$Line" "stages" "[LTapCascade$Stage;", Cond.fieldLink RX1 24 "TapCascade$Line" "log" "LTapCascade$StepLog;", Cond.fieldLink RX1 29 "TapCascade$Line" "size" "I", Cond.fieldLink RX1 33 "TapCascade$Line" "source" "I"]
def wsX7_source_r2 : List Cond := [Cond.fieldLink RX1 36 "TapCascade$Line" "ticks" "I", Cond.methodLink RX1 42 yX4_copyFrom, Cond.instanceMethod yX4_copyFrom, Cond.selects RX4 yX4_copyFrom yX4_copyFrom, Cond.initialized RX4, Cond.code yX4_copyFrom cX4_copyFrom 2 none, Cond.fieldLink RX4 13 "TapCascade$Stage" "step" "I", Cond.fieldLink RX4 19 "TapCascade$Stage" "target" "I", Cond.fieldLink RX4 22 "TapCascade$Stage" "band" "I", Cond.fieldLink RX4 25 "TapCascade$Stage" "wait" "I", Cond.fieldLink RX4 28 "TapCascade$Stage" "rule" "I", Cond.fieldLink RX4 31 "TapCascade$Stage" "load" "I", Cond.fieldLink RX4 34 "TapCascade$Stage" "way" "I", Cond.fieldLink RX4 37 "TapCascade$Stage" "tap" "I", Cond.fieldLink RX4 40 "TapCascade$Stage" "count" "I", Cond.fieldLink RX4 43 "TapCascade$Stage" "wanted" "I", Cond.fieldLink RX4 46 "TapCascade$Stage" "lastStep" "I", Cond.fieldLink RX4 49 "TapCascade$Stage" "stuck" "Z", Cond.fieldLink RX4 53 "TapCascade$Stage" "flow" "I", Cond.fieldLink RX4 56 "TapCascade$Stage" "in" "I", Cond.fieldLink RX4 59 "TapCascade$Stage" "out" "I", Cond.methodLink RX1 46 yX5_copyFrom, Cond.instanceMethod yX5_copyFrom, Cond.selects RX5 yX5_copyFrom yX5_copyFrom]
def wsX7_source_r3 : List Cond := [Cond.initialized RX5, Cond.code yX5_copyFrom cX5_copyFrom 2 none, Cond.fieldLink RX5 9 "TapCascade$StepLog" "ticks" "[I", Cond.methodLink RX5 28 arraycopyName, Cond.native arraycopyName, Cond.static arraycopyName, Cond.initialized "java/lang/System", Cond.fieldLink RX5 15 "TapCascade$StepLog" "stages" "[I", Cond.fieldLink RX5 18 "TapCascade$StepLog" "ways" "[I", Cond.fieldLink RX5 21 "TapCascade$StepLog" "total" "I", Cond.fieldLink RX5 25 "TapCascade$StepLog" "back" "I", Cond.methodLink RX7 86 yX1_reckon, Cond.instanceMethod yX1_reckon, Cond.selects RX1 yX1_reckon yX1_reckon, Cond.code yX1_reckon cX1_reckon 5 none, Cond.fieldLink RX1 53 "TapCascade$Stage" "load" "I", Cond.fieldLink RX1 56 "TapCascade$Stage" "flow" "I", Cond.fieldLink RX1 59 "TapCascade$Stage" "in" "I", Cond.fieldLink RX1 70 "TapCascade$Stage" "out" "I", Cond.methodLink RX1 62 yX4_turned, Cond.instanceMethod yX4_turned, Cond.selects RX4 yX4_turned yX4_turned, Cond.code yX4_turned cX4_turned 1 (some .int), Cond.static yX7_outOf]
def wsX7_source_r4 : List Cond := [Cond.initialized RX7, Cond.code yX7_outOf cX7_outOf 2 (some .int), Cond.methodLink RX1 73 yX1_lostBehind, Cond.instanceMethod yX1_lostBehind, Cond.selects RX1 yX1_lostBehind yX1_lostBehind, Cond.code yX1_lostBehind cX1_lostBehind 2 (some .int), Cond.fieldLink RX1 77 "TapCascade$Stage" "way" "I", Cond.static yX7_lostBetween, Cond.code yX7_lostBetween cX7_lostBetween 2 (some .int)]
def wsX7_source : List Cond := .code yX7_source cX7_source 3 (some .int) :: ((wsX7_source_r1 ++ (wsX7_source_r2 ++ (wsX7_source_r3 ++ wsX7_source_r4))) ++ wsX70 ++ wsX10 ++ wsX20 ++ wsX40 ++ wsX50)
def wsX7_mayBeTold : List Cond := .code yX7_mayBeTold cX7_mayBeTold 2 (some .boolean) :: ([])
def wsX7_tell_r1 : List Cond := [Cond.fieldLink RX7 19 "TapCascade" "line" "LTapCascade$Line;", Cond.fieldLink RX7 96 "TapCascade$Line" "stages" "[LTapCascade$Stage;", Cond.fieldLink RX7 29 "TapCascade" "past" "LTapCascade$Past;", Cond.methodLink RX7 89 yX1_has, Cond.instanceMethod yX1_has, Cond.selects RX1 yX1_has yX1_has, Cond.initialized RX1, Cond.code yX1_has cX1_has 2 (some .boolean), Cond.fieldLink RX1 29 "TapCascade$Line" "size" "I", Cond.methodLink RX7 92 yX7_mayBeTold, Cond.static yX7_mayBeTold, Cond.initialized RX7, Cond.code yX7_mayBeTold cX7_mayBeTold 2 (some .boolean), Cond.methodLink RX7 100 yX4_valueToTell, Cond.instanceMethod yX4_valueToTell, Cond.selects RX4 yX4_valueToTell yX4_valueToTell, Cond.initialized RX4, Cond.code yX4_valueToTell cX4_valueToTell 2 (some .int), Cond.fieldLink RX4 31 "TapCascade$Stage" "load" "I", Cond.fieldLink RX4 37 "TapCascade$Stage" "tap" "I", Cond.fieldLink RX4 25 "TapCascade$Stage" "wait" "I", Cond.methodLink RX7 83 yX2_keep, Cond.instanceMethod yX2_keep, Cond.selects RX2 yX2_keep yX2_keep]
def wsX7_tell_r2 : List Cond := [Cond.initialized RX2, Cond.code yX2_keep cX2_keep 2 none, Cond.fieldLink RX2 11 "TapCascade$Past" "kept" "[LTapCascade$Line;", Cond.fieldLink RX2 22 "TapCascade$Past" "next" "I", Cond.fieldLink RX2 18 "TapCascade$Past" "size" "I", Cond.methodLink RX2 29 Lib.Math.min.name, Cond.static Lib.Math.min.name, Cond.initialized "java/lang/Math", Cond.code Lib.Math.min.name Lib.Math.min.code 2 (some .int), Cond.methodLink RX2 25 yX1_copyFrom, Cond.instanceMethod yX1_copyFrom, Cond.selects RX1 yX1_copyFrom yX1_copyFrom, Cond.code yX1_copyFrom cX1_copyFrom 3 none, Cond.fieldLink RX1 11 "TapCascade$Line" "stages" "[LTapCascade$Stage;", Cond.fieldLink RX1 24 "TapCascade$Line" "log" "LTapCascade$StepLog;", Cond.fieldLink RX1 33 "TapCascade$Line" "source" "I", Cond.fieldLink RX1 36 "TapCascade$Line" "ticks" "I", Cond.methodLink RX1 42 yX4_copyFrom, Cond.instanceMethod yX4_copyFrom, Cond.selects RX4 yX4_copyFrom yX4_copyFrom, Cond.code yX4_copyFrom cX4_copyFrom 2 none, Cond.fieldLink RX4 13 "TapCascade$Stage" "step" "I", Cond.fieldLink RX4 19 "TapCascade$Stage" "target" "I", Cond.fieldLink RX4 22 "TapCascade$Stage" "band" "I"]
def wsX7_tell_r3 : List Cond := [Cond.fieldLink RX4 28 "TapCascade$Stage" "rule" "I", Cond.fieldLink RX4 34 "TapCascade$Stage" "way" "I", Cond.fieldLink RX4 40 "TapCascade$Stage" "count" "I", Cond.fieldLink RX4 43 "TapCascade$Stage" "wanted" "I", Cond.fieldLink RX4 46 "TapCascade$Stage" "lastStep" "I", Cond.fieldLink RX4 49 "TapCascade$Stage" "stuck" "Z", Cond.fieldLink RX4 53 "TapCascade$Stage" "flow" "I", Cond.fieldLink RX4 56 "TapCascade$Stage" "in" "I", Cond.fieldLink RX4 59 "TapCascade$Stage" "out" "I", Cond.methodLink RX1 46 yX5_copyFrom, Cond.instanceMethod yX5_copyFrom, Cond.selects RX5 yX5_copyFrom yX5_copyFrom, Cond.initialized RX5, Cond.code yX5_copyFrom cX5_copyFrom 2 none, Cond.fieldLink RX5 9 "TapCascade$StepLog" "ticks" "[I", Cond.methodLink RX5 28 arraycopyName, Cond.native arraycopyName, Cond.static arraycopyName, Cond.initialized "java/lang/System", Cond.fieldLink RX5 15 "TapCascade$StepLog" "stages" "[I", Cond.fieldLink RX5 18 "TapCascade$StepLog" "ways" "[I", Cond.fieldLink RX5 21 "TapCascade$StepLog" "total" "I", Cond.fieldLink RX5 25 "TapCascade$StepLog" "back" "I", Cond.methodLink RX7 106 yX4_takeTold]
def wsX7_tell_r4 : List Cond := [Cond.instanceMethod yX4_takeTold, Cond.selects RX4 yX4_takeTold yX4_takeTold, Cond.code yX4_takeTold cX4_takeTold 3 none, Cond.methodLink RX7 86 yX1_reckon, Cond.instanceMethod yX1_reckon, Cond.selects RX1 yX1_reckon yX1_reckon, Cond.code yX1_reckon cX1_reckon 5 none, Cond.fieldLink RX1 53 "TapCascade$Stage" "load" "I", Cond.fieldLink RX1 56 "TapCascade$Stage" "flow" "I", Cond.fieldLink RX1 59 "TapCascade$Stage" "in" "I", Cond.fieldLink RX1 70 "TapCascade$Stage" "out" "I", Cond.methodLink RX1 62 yX4_turned, Cond.instanceMethod yX4_turned, Cond.selects RX4 yX4_turned yX4_turned, Cond.code yX4_turned cX4_turned 1 (some .int), Cond.static yX7_outOf, Cond.code yX7_outOf cX7_outOf 2 (some .int), Cond.methodLink RX1 73 yX1_lostBehind, Cond.instanceMethod yX1_lostBehind, Cond.selects RX1 yX1_lostBehind yX1_lostBehind, Cond.code yX1_lostBehind cX1_lostBehind 2 (some .int), Cond.fieldLink RX1 77 "TapCascade$Stage" "way" "I", Cond.static yX7_lostBetween, Cond.code yX7_lostBetween cX7_lostBetween 2 (some .int)]
def wsX7_tell : List Cond := .code yX7_tell cX7_tell 6 (some .int) :: ((wsX7_tell_r1 ++ (wsX7_tell_r2 ++ (wsX7_tell_r3 ++ wsX7_tell_r4))) ++ wsX70 ++ wsX10 ++ wsX40 ++ wsX20 ++ wsX50)
def wsX7_stick_r1 : List Cond := [Cond.fieldLink RX7 19 "TapCascade" "line" "LTapCascade$Line;", Cond.fieldLink RX7 96 "TapCascade$Line" "stages" "[LTapCascade$Stage;", Cond.fieldLink RX7 110 "TapCascade$Stage" "stuck" "Z", Cond.fieldLink RX7 29 "TapCascade" "past" "LTapCascade$Past;", Cond.methodLink RX7 89 yX1_has, Cond.instanceMethod yX1_has, Cond.selects RX1 yX1_has yX1_has, Cond.initialized RX1, Cond.code yX1_has cX1_has 2 (some .boolean), Cond.fieldLink RX1 29 "TapCascade$Line" "size" "I", Cond.methodLink RX7 83 yX2_keep, Cond.instanceMethod yX2_keep, Cond.selects RX2 yX2_keep yX2_keep, Cond.initialized RX2, Cond.code yX2_keep cX2_keep 2 none, Cond.fieldLink RX2 11 "TapCascade$Past" "kept" "[LTapCascade$Line;", Cond.fieldLink RX2 22 "TapCascade$Past" "next" "I", Cond.fieldLink RX2 18 "TapCascade$Past" "size" "I", Cond.methodLink RX2 29 Lib.Math.min.name, Cond.static Lib.Math.min.name, Cond.initialized "java/lang/Math", Cond.code Lib.Math.min.name Lib.Math.min.code 2 (some .int), Cond.methodLink RX2 25 yX1_copyFrom, Cond.instanceMethod yX1_copyFrom]
def wsX7_stick_r2 : List Cond := [Cond.selects RX1 yX1_copyFrom yX1_copyFrom, Cond.code yX1_copyFrom cX1_copyFrom 3 none, Cond.fieldLink RX1 11 "TapCascade$Line" "stages" "[LTapCascade$Stage;", Cond.fieldLink RX1 24 "TapCascade$Line" "log" "LTapCascade$StepLog;", Cond.fieldLink RX1 33 "TapCascade$Line" "source" "I", Cond.fieldLink RX1 36 "TapCascade$Line" "ticks" "I", Cond.methodLink RX1 42 yX4_copyFrom, Cond.instanceMethod yX4_copyFrom, Cond.selects RX4 yX4_copyFrom yX4_copyFrom, Cond.initialized RX4, Cond.code yX4_copyFrom cX4_copyFrom 2 none, Cond.fieldLink RX4 13 "TapCascade$Stage" "step" "I", Cond.fieldLink RX4 19 "TapCascade$Stage" "target" "I", Cond.fieldLink RX4 22 "TapCascade$Stage" "band" "I", Cond.fieldLink RX4 25 "TapCascade$Stage" "wait" "I", Cond.fieldLink RX4 28 "TapCascade$Stage" "rule" "I", Cond.fieldLink RX4 31 "TapCascade$Stage" "load" "I", Cond.fieldLink RX4 34 "TapCascade$Stage" "way" "I", Cond.fieldLink RX4 37 "TapCascade$Stage" "tap" "I", Cond.fieldLink RX4 40 "TapCascade$Stage" "count" "I", Cond.fieldLink RX4 43 "TapCascade$Stage" "wanted" "I", Cond.fieldLink RX4 46 "TapCascade$Stage" "lastStep" "I", Cond.fieldLink RX4 49 "TapCascade$Stage" "stuck" "Z", Cond.fieldLink RX4 53 "TapCascade$Stage" "flow" "I"]
def wsX7_stick_r3 : List Cond := [Cond.fieldLink RX4 56 "TapCascade$Stage" "in" "I", Cond.fieldLink RX4 59 "TapCascade$Stage" "out" "I", Cond.methodLink RX1 46 yX5_copyFrom, Cond.instanceMethod yX5_copyFrom, Cond.selects RX5 yX5_copyFrom yX5_copyFrom, Cond.initialized RX5, Cond.code yX5_copyFrom cX5_copyFrom 2 none, Cond.fieldLink RX5 9 "TapCascade$StepLog" "ticks" "[I", Cond.methodLink RX5 28 arraycopyName, Cond.native arraycopyName, Cond.static arraycopyName, Cond.initialized "java/lang/System", Cond.fieldLink RX5 15 "TapCascade$StepLog" "stages" "[I", Cond.fieldLink RX5 18 "TapCascade$StepLog" "ways" "[I", Cond.fieldLink RX5 21 "TapCascade$StepLog" "total" "I", Cond.fieldLink RX5 25 "TapCascade$StepLog" "back" "I", Cond.methodLink RX7 114 yX1_stuckStages, Cond.instanceMethod yX1_stuckStages, Cond.selects RX1 yX1_stuckStages yX1_stuckStages, Cond.code yX1_stuckStages cX1_stuckStages 3 (some .int), Cond.fieldLink RX1 131 "TapCascade$Stage" "stuck" "Z"]
def wsX7_stick : List Cond := .code yX7_stick cX7_stick 4 (some .int) :: ((wsX7_stick_r1 ++ (wsX7_stick_r2 ++ wsX7_stick_r3)) ++ wsX70 ++ wsX10 ++ wsX40 ++ wsX20 ++ wsX50)
def wsX7_tick_r1 : List Cond := [Cond.fieldLink RX7 19 "TapCascade" "line" "LTapCascade$Line;", Cond.fieldLink RX7 117 "TapCascade$Line" "ticks" "I", Cond.fieldLink RX7 29 "TapCascade" "past" "LTapCascade$Past;", Cond.fieldLink RX7 120 "TapCascade$Line" "log" "LTapCascade$StepLog;", Cond.fieldLink RX7 124 "TapCascade$StepLog" "total" "I", Cond.methodLink RX7 83 yX2_keep, Cond.instanceMethod yX2_keep, Cond.selects RX2 yX2_keep yX2_keep, Cond.initialized RX2, Cond.code yX2_keep cX2_keep 2 none, Cond.fieldLink RX2 11 "TapCascade$Past" "kept" "[LTapCascade$Line;", Cond.fieldLink RX2 22 "TapCascade$Past" "next" "I", Cond.fieldLink RX2 18 "TapCascade$Past" "size" "I", Cond.methodLink RX2 29 Lib.Math.min.name, Cond.static Lib.Math.min.name, Cond.initialized "java/lang/Math", Cond.code Lib.Math.min.name Lib.Math.min.code 2 (some .int), Cond.methodLink RX2 25 yX1_copyFrom, Cond.instanceMethod yX1_copyFrom, Cond.selects RX1 yX1_copyFrom yX1_copyFrom, Cond.initialized RX1, Cond.code yX1_copyFrom cX1_copyFrom 3 none, Cond.fieldLink RX1 11 "TapCascade$Line" "stages" "[LTapCascade$Stage;", Cond.fieldLink RX1 24 "TapCascade$Line" "log" "LTapCascade$StepLog;"]
def wsX7_tick_r2 : List Cond := [Cond.fieldLink RX1 29 "TapCascade$Line" "size" "I", Cond.fieldLink RX1 33 "TapCascade$Line" "source" "I", Cond.fieldLink RX1 36 "TapCascade$Line" "ticks" "I", Cond.methodLink RX1 42 yX4_copyFrom, Cond.instanceMethod yX4_copyFrom, Cond.selects RX4 yX4_copyFrom yX4_copyFrom, Cond.initialized RX4, Cond.code yX4_copyFrom cX4_copyFrom 2 none, Cond.fieldLink RX4 13 "TapCascade$Stage" "step" "I", Cond.fieldLink RX4 19 "TapCascade$Stage" "target" "I", Cond.fieldLink RX4 22 "TapCascade$Stage" "band" "I", Cond.fieldLink RX4 25 "TapCascade$Stage" "wait" "I", Cond.fieldLink RX4 28 "TapCascade$Stage" "rule" "I", Cond.fieldLink RX4 31 "TapCascade$Stage" "load" "I", Cond.fieldLink RX4 34 "TapCascade$Stage" "way" "I", Cond.fieldLink RX4 37 "TapCascade$Stage" "tap" "I", Cond.fieldLink RX4 40 "TapCascade$Stage" "count" "I", Cond.fieldLink RX4 43 "TapCascade$Stage" "wanted" "I", Cond.fieldLink RX4 46 "TapCascade$Stage" "lastStep" "I", Cond.fieldLink RX4 49 "TapCascade$Stage" "stuck" "Z", Cond.fieldLink RX4 53 "TapCascade$Stage" "flow" "I", Cond.fieldLink RX4 56 "TapCascade$Stage" "in" "I", Cond.fieldLink RX4 59 "TapCascade$Stage" "out" "I", Cond.methodLink RX1 46 yX5_copyFrom]
def wsX7_tick_r3 : List Cond := [Cond.instanceMethod yX5_copyFrom, Cond.selects RX5 yX5_copyFrom yX5_copyFrom, Cond.initialized RX5, Cond.code yX5_copyFrom cX5_copyFrom 2 none, Cond.fieldLink RX5 9 "TapCascade$StepLog" "ticks" "[I", Cond.methodLink RX5 28 arraycopyName, Cond.native arraycopyName, Cond.static arraycopyName, Cond.initialized "java/lang/System", Cond.fieldLink RX5 15 "TapCascade$StepLog" "stages" "[I", Cond.fieldLink RX5 18 "TapCascade$StepLog" "ways" "[I", Cond.fieldLink RX5 21 "TapCascade$StepLog" "total" "I", Cond.fieldLink RX5 25 "TapCascade$StepLog" "back" "I", Cond.methodLink RX7 129 yX1_runTick, Cond.instanceMethod yX1_runTick, Cond.selects RX1 yX1_runTick yX1_runTick, Cond.code yX1_runTick cX1_runTick 2 none, Cond.fieldLink RX1 17 "TapCascade$Line" "called" "[Z", Cond.fieldLink RX1 86 "TapCascade$Stage" "count" "I", Cond.fieldLink RX1 89 "TapCascade$Stage" "wait" "I", Cond.methodLink RX1 83 yX4_countOn, Cond.instanceMethod yX4_countOn, Cond.selects RX4 yX4_countOn yX4_countOn, Cond.code yX4_countOn cX4_countOn 2 none]
def wsX7_tick_r4 : List Cond := [Cond.methodLink RX4 72 yX4_wants, Cond.instanceMethod yX4_wants, Cond.selects RX4 yX4_wants yX4_wants, Cond.code yX4_wants cX4_wants 3 (some .int), Cond.methodLink RX4 68 yX4_judged, Cond.instanceMethod yX4_judged, Cond.selects RX4 yX4_judged yX4_judged, Cond.code yX4_judged cX4_judged 1 (some .int), Cond.methodLink RX1 92 yX1_passCallsOn, Cond.instanceMethod yX1_passCallsOn, Cond.selects RX1 yX1_passCallsOn yX1_passCallsOn, Cond.code yX1_passCallsOn cX1_passCallsOn 2 none, Cond.methodLink RX1 102 yX4_canAsItWants, Cond.instanceMethod yX4_canAsItWants, Cond.selects RX4 yX4_canAsItWants yX4_canAsItWants, Cond.code yX4_canAsItWants cX4_canAsItWants 1 (some .boolean), Cond.methodLink RX1 106 yX1_callNextBehind, Cond.instanceMethod yX1_callNextBehind, Cond.selects RX1 yX1_callNextBehind yX1_callNextBehind, Cond.code yX1_callNextBehind cX1_callNextBehind 3 none, Cond.methodLink RX1 109 yX4_wants, Cond.methodLink RX1 95 yX1_heedCall, Cond.instanceMethod yX1_heedCall, Cond.selects RX1 yX1_heedCall yX1_heedCall]
def wsX7_tick_r5 : List Cond := [Cond.code yX1_heedCall cX1_heedCall 4 none, Cond.fieldLink RX1 112 "TapCascade$Stage" "tap" "I", Cond.fieldLink RX1 119 "TapCascade$Stage" "lastStep" "I", Cond.fieldLink RX1 122 "TapCascade$StepLog" "back" "I", Cond.fieldLink RX1 125 "TapCascade$Stage" "wanted" "I", Cond.methodLink RX1 115 yX5_add, Cond.instanceMethod yX5_add, Cond.selects RX5 yX5_add yX5_add, Cond.code yX5_add cX5_add 5 none, Cond.methodLink RX1 99 yX1_reckon, Cond.instanceMethod yX1_reckon, Cond.selects RX1 yX1_reckon yX1_reckon, Cond.code yX1_reckon cX1_reckon 5 none, Cond.fieldLink RX1 53 "TapCascade$Stage" "load" "I", Cond.fieldLink RX1 56 "TapCascade$Stage" "flow" "I", Cond.fieldLink RX1 59 "TapCascade$Stage" "in" "I", Cond.fieldLink RX1 70 "TapCascade$Stage" "out" "I", Cond.methodLink RX1 62 yX4_turned, Cond.instanceMethod yX4_turned, Cond.selects RX4 yX4_turned yX4_turned, Cond.code yX4_turned cX4_turned 1 (some .int), Cond.static yX7_outOf, Cond.initialized RX7, Cond.code yX7_outOf cX7_outOf 2 (some .int)]
def wsX7_tick_r6 : List Cond := [Cond.methodLink RX1 73 yX1_lostBehind, Cond.instanceMethod yX1_lostBehind, Cond.selects RX1 yX1_lostBehind yX1_lostBehind, Cond.code yX1_lostBehind cX1_lostBehind 2 (some .int), Cond.fieldLink RX1 77 "TapCascade$Stage" "way" "I", Cond.static yX7_lostBetween, Cond.code yX7_lostBetween cX7_lostBetween 2 (some .int)]
def wsX7_tick : List Cond := .code yX7_tick cX7_tick 4 (some .int) :: ((wsX7_tick_r1 ++ (wsX7_tick_r2 ++ (wsX7_tick_r3 ++ (wsX7_tick_r4 ++ (wsX7_tick_r5 ++ wsX7_tick_r6))))) ++ wsX70 ++ wsX10 ++ wsX50 ++ wsX20 ++ wsX40)
def wsX7_undo_r1 : List Cond := [Cond.fieldLink RX7 29 "TapCascade" "past" "LTapCascade$Past;", Cond.fieldLink RX7 132 "TapCascade$Past" "size" "I", Cond.fieldLink RX7 19 "TapCascade" "line" "LTapCascade$Line;", Cond.methodLink RX7 133 yX2_giveBack, Cond.instanceMethod yX2_giveBack, Cond.selects RX2 yX2_giveBack yX2_giveBack, Cond.initialized RX2, Cond.code yX2_giveBack cX2_giveBack 2 none, Cond.fieldLink RX2 22 "TapCascade$Past" "next" "I", Cond.fieldLink RX2 11 "TapCascade$Past" "kept" "[LTapCascade$Line;", Cond.fieldLink RX2 18 "TapCascade$Past" "size" "I", Cond.methodLink RX2 25 yX1_copyFrom, Cond.instanceMethod yX1_copyFrom, Cond.selects RX1 yX1_copyFrom yX1_copyFrom, Cond.initialized RX1, Cond.code yX1_copyFrom cX1_copyFrom 3 none, Cond.fieldLink RX1 11 "TapCascade$Line" "stages" "[LTapCascade$Stage;", Cond.fieldLink RX1 24 "TapCascade$Line" "log" "LTapCascade$StepLog;", Cond.fieldLink RX1 29 "TapCascade$Line" "size" "I", Cond.fieldLink RX1 33 "TapCascade$Line" "source" "I", Cond.fieldLink RX1 36 "TapCascade$Line" "ticks" "I", Cond.methodLink RX1 42 yX4_copyFrom, Cond.instanceMethod yX4_copyFrom, Cond.selects RX4 yX4_copyFrom yX4_copyFrom]
def wsX7_undo_r2 : List Cond := [Cond.initialized RX4, Cond.code yX4_copyFrom cX4_copyFrom 2 none, Cond.fieldLink RX4 13 "TapCascade$Stage" "step" "I", Cond.fieldLink RX4 19 "TapCascade$Stage" "target" "I", Cond.fieldLink RX4 22 "TapCascade$Stage" "band" "I", Cond.fieldLink RX4 25 "TapCascade$Stage" "wait" "I", Cond.fieldLink RX4 28 "TapCascade$Stage" "rule" "I", Cond.fieldLink RX4 31 "TapCascade$Stage" "load" "I", Cond.fieldLink RX4 34 "TapCascade$Stage" "way" "I", Cond.fieldLink RX4 37 "TapCascade$Stage" "tap" "I", Cond.fieldLink RX4 40 "TapCascade$Stage" "count" "I", Cond.fieldLink RX4 43 "TapCascade$Stage" "wanted" "I", Cond.fieldLink RX4 46 "TapCascade$Stage" "lastStep" "I", Cond.fieldLink RX4 49 "TapCascade$Stage" "stuck" "Z", Cond.fieldLink RX4 53 "TapCascade$Stage" "flow" "I", Cond.fieldLink RX4 56 "TapCascade$Stage" "in" "I", Cond.fieldLink RX4 59 "TapCascade$Stage" "out" "I", Cond.methodLink RX1 46 yX5_copyFrom, Cond.instanceMethod yX5_copyFrom, Cond.selects RX5 yX5_copyFrom yX5_copyFrom, Cond.initialized RX5, Cond.code yX5_copyFrom cX5_copyFrom 2 none, Cond.fieldLink RX5 9 "TapCascade$StepLog" "ticks" "[I", Cond.methodLink RX5 28 arraycopyName]
def wsX7_undo_r3 : List Cond := [Cond.native arraycopyName, Cond.static arraycopyName, Cond.initialized "java/lang/System", Cond.fieldLink RX5 15 "TapCascade$StepLog" "stages" "[I", Cond.fieldLink RX5 18 "TapCascade$StepLog" "ways" "[I", Cond.fieldLink RX5 21 "TapCascade$StepLog" "total" "I", Cond.fieldLink RX5 25 "TapCascade$StepLog" "back" "I"]
def wsX7_undo : List Cond := .code yX7_undo cX7_undo 1 (some .int) :: ((wsX7_undo_r1 ++ (wsX7_undo_r2 ++ wsX7_undo_r3)) ++ wsX70 ++ wsX20 ++ wsX10 ++ wsX40 ++ wsX50)
def wsX7_stage_r1 : List Cond := [Cond.fieldLink RX7 19 "TapCascade" "line" "LTapCascade$Line;", Cond.fieldLink RX7 96 "TapCascade$Line" "stages" "[LTapCascade$Stage;", Cond.methodLink RX7 89 yX1_has, Cond.instanceMethod yX1_has, Cond.selects RX1 yX1_has yX1_has, Cond.initialized RX1, Cond.code yX1_has cX1_has 2 (some .boolean), Cond.fieldLink RX1 29 "TapCascade$Line" "size" "I", Cond.methodLink RX7 136 yX4_valueOf, Cond.instanceMethod yX4_valueOf, Cond.selects RX4 yX4_valueOf yX4_valueOf, Cond.initialized RX4, Cond.code yX4_valueOf cX4_valueOf 2 (some .int), Cond.fieldLink RX4 13 "TapCascade$Stage" "step" "I", Cond.fieldLink RX4 19 "TapCascade$Stage" "target" "I", Cond.fieldLink RX4 22 "TapCascade$Stage" "band" "I", Cond.fieldLink RX4 25 "TapCascade$Stage" "wait" "I", Cond.fieldLink RX4 28 "TapCascade$Stage" "rule" "I", Cond.fieldLink RX4 31 "TapCascade$Stage" "load" "I", Cond.fieldLink RX4 34 "TapCascade$Stage" "way" "I", Cond.fieldLink RX4 37 "TapCascade$Stage" "tap" "I", Cond.fieldLink RX4 49 "TapCascade$Stage" "stuck" "Z", Cond.fieldLink RX4 53 "TapCascade$Stage" "flow" "I", Cond.fieldLink RX4 56 "TapCascade$Stage" "in" "I"]
def wsX7_stage_r2 : List Cond := [Cond.fieldLink RX4 59 "TapCascade$Stage" "out" "I", Cond.fieldLink RX4 40 "TapCascade$Stage" "count" "I", Cond.methodLink RX4 68 yX4_judged, Cond.instanceMethod yX4_judged, Cond.selects RX4 yX4_judged yX4_judged, Cond.code yX4_judged cX4_judged 1 (some .int), Cond.methodLink RX4 72 yX4_wants, Cond.instanceMethod yX4_wants, Cond.selects RX4 yX4_wants yX4_wants, Cond.code yX4_wants cX4_wants 3 (some .int), Cond.methodLink RX4 75 yX4_canAsItWants, Cond.instanceMethod yX4_canAsItWants, Cond.selects RX4 yX4_canAsItWants yX4_canAsItWants, Cond.code yX4_canAsItWants cX4_canAsItWants 1 (some .boolean)]
def wsX7_stage : List Cond := .code yX7_stage cX7_stage 3 (some .int) :: ((wsX7_stage_r1 ++ wsX7_stage_r2) ++ wsX70 ++ wsX10 ++ wsX40)
def wsX7_done : List Cond := .code yX7_done cX7_done 3 (some .int) :: ([.fieldLink RX7 19 "TapCascade" "line" "LTapCascade$Line;", .fieldLink RX7 120 "TapCascade$Line" "log" "LTapCascade$StepLog;", .methodLink RX7 139 yX5_told, .instanceMethod yX5_told, .selects RX5 yX5_told yX5_told, .initialized RX5, .code yX5_told cX5_told 1 (some .int), .fieldLink RX5 21 "TapCascade$StepLog" "total" "I", .methodLink RX5 34 Lib.Math.min.name, .static Lib.Math.min.name, .initialized "java/lang/Math", .code Lib.Math.min.name Lib.Math.min.code 2 (some .int), .methodLink RX7 142 yX5_valueOf, .instanceMethod yX5_valueOf, .selects RX5 yX5_valueOf yX5_valueOf, .code yX5_valueOf cX5_valueOf 4 (some .int), .fieldLink RX5 9 "TapCascade$StepLog" "ticks" "[I", .fieldLink RX5 15 "TapCascade$StepLog" "stages" "[I", .fieldLink RX5 18 "TapCascade$StepLog" "ways" "[I", .methodLink RX5 40 yX5_told] ++ wsX70 ++ wsX10 ++ wsX50)
def wsX7_settle_r1 : List Cond := [Cond.fieldLink RX7 36 "TapCascade" "course" "LTapCascade$Course;", Cond.fieldLink RX7 19 "TapCascade" "line" "LTapCascade$Line;", Cond.fieldLink RX7 148 "TapCascade$Course" "quietBehind" "I", Cond.fieldLink RX7 151 "TapCascade$Course" "roundFrom" "I", Cond.fieldLink RX7 154 "TapCascade$Course" "roundTicks" "I", Cond.fieldLink RX7 157 "TapCascade$Course" "roundSteps" "I", Cond.methodLink RX7 145 yX0_follow, Cond.instanceMethod yX0_follow, Cond.selects RX0 yX0_follow yX0_follow, Cond.initialized RX0, Cond.code yX0_follow cX0_follow 4 none, Cond.fieldLink RX0 12 "TapCascade$Course" "trial" "LTapCascade$Line;", Cond.fieldLink RX0 30 "TapCascade$Course" "quietBehind" "I", Cond.fieldLink RX0 34 "TapCascade$Course" "roundFrom" "I", Cond.fieldLink RX0 37 "TapCascade$Course" "roundTicks" "I", Cond.fieldLink RX0 40 "TapCascade$Course" "roundSteps" "I", Cond.fieldLink RX0 18 "TapCascade$Course" "seen" "[J", Cond.fieldLink RX0 22 "TapCascade$Course" "stepsBehind" "[I", Cond.fieldLink RX0 51 "TapCascade$Line" "log" "LTapCascade$StepLog;", Cond.fieldLink RX0 55 "TapCascade$StepLog" "total" "I", Cond.methodLink RX0 26 yX1_copyFrom, Cond.instanceMethod yX1_copyFrom, Cond.selects RX1 yX1_copyFrom yX1_copyFrom, Cond.initialized RX1]
def wsX7_settle_r2 : List Cond := [Cond.code yX1_copyFrom cX1_copyFrom 3 none, Cond.fieldLink RX1 11 "TapCascade$Line" "stages" "[LTapCascade$Stage;", Cond.fieldLink RX1 24 "TapCascade$Line" "log" "LTapCascade$StepLog;", Cond.fieldLink RX1 29 "TapCascade$Line" "size" "I", Cond.fieldLink RX1 33 "TapCascade$Line" "source" "I", Cond.fieldLink RX1 36 "TapCascade$Line" "ticks" "I", Cond.methodLink RX1 42 yX4_copyFrom, Cond.instanceMethod yX4_copyFrom, Cond.selects RX4 yX4_copyFrom yX4_copyFrom, Cond.initialized RX4, Cond.code yX4_copyFrom cX4_copyFrom 2 none, Cond.fieldLink RX4 13 "TapCascade$Stage" "step" "I", Cond.fieldLink RX4 19 "TapCascade$Stage" "target" "I", Cond.fieldLink RX4 22 "TapCascade$Stage" "band" "I", Cond.fieldLink RX4 25 "TapCascade$Stage" "wait" "I", Cond.fieldLink RX4 28 "TapCascade$Stage" "rule" "I", Cond.fieldLink RX4 31 "TapCascade$Stage" "load" "I", Cond.fieldLink RX4 34 "TapCascade$Stage" "way" "I", Cond.fieldLink RX4 37 "TapCascade$Stage" "tap" "I", Cond.fieldLink RX4 40 "TapCascade$Stage" "count" "I", Cond.fieldLink RX4 43 "TapCascade$Stage" "wanted" "I", Cond.fieldLink RX4 46 "TapCascade$Stage" "lastStep" "I", Cond.fieldLink RX4 49 "TapCascade$Stage" "stuck" "Z", Cond.fieldLink RX4 53 "TapCascade$Stage" "flow" "I"]
def wsX7_settle_r3 : List Cond := [Cond.fieldLink RX4 56 "TapCascade$Stage" "in" "I", Cond.fieldLink RX4 59 "TapCascade$Stage" "out" "I", Cond.methodLink RX1 46 yX5_copyFrom, Cond.instanceMethod yX5_copyFrom, Cond.selects RX5 yX5_copyFrom yX5_copyFrom, Cond.initialized RX5, Cond.code yX5_copyFrom cX5_copyFrom 2 none, Cond.fieldLink RX5 9 "TapCascade$StepLog" "ticks" "[I", Cond.methodLink RX5 28 arraycopyName, Cond.native arraycopyName, Cond.static arraycopyName, Cond.initialized "java/lang/System", Cond.fieldLink RX5 15 "TapCascade$StepLog" "stages" "[I", Cond.fieldLink RX5 18 "TapCascade$StepLog" "ways" "[I", Cond.fieldLink RX5 21 "TapCascade$StepLog" "total" "I", Cond.fieldLink RX5 25 "TapCascade$StepLog" "back" "I", Cond.methodLink RX0 43 yX1_isQuiet, Cond.instanceMethod yX1_isQuiet, Cond.selects RX1 yX1_isQuiet yX1_isQuiet, Cond.code yX1_isQuiet cX1_isQuiet 2 (some .boolean), Cond.methodLink RX1 102 yX4_canAsItWants, Cond.instanceMethod yX4_canAsItWants, Cond.selects RX4 yX4_canAsItWants yX4_canAsItWants, Cond.code yX4_canAsItWants cX4_canAsItWants 1 (some .boolean)]
def wsX7_settle_r4 : List Cond := [Cond.methodLink RX4 72 yX4_wants, Cond.instanceMethod yX4_wants, Cond.selects RX4 yX4_wants yX4_wants, Cond.code yX4_wants cX4_wants 3 (some .int), Cond.methodLink RX4 68 yX4_judged, Cond.instanceMethod yX4_judged, Cond.selects RX4 yX4_judged yX4_judged, Cond.code yX4_judged cX4_judged 1 (some .int), Cond.methodLink RX0 47 yX1_packed, Cond.instanceMethod yX1_packed, Cond.selects RX1 yX1_packed yX1_packed, Cond.code yX1_packed cX1_packed 5 (some .long), Cond.fieldLink RX1 112 "TapCascade$Stage" "tap" "I", Cond.fieldLink RX1 86 "TapCascade$Stage" "count" "I", Cond.fieldLink RX1 125 "TapCascade$Stage" "wanted" "I", Cond.methodLink RX0 60 yX0_firstLike, Cond.instanceMethod yX0_firstLike, Cond.selects RX0 yX0_firstLike yX0_firstLike, Cond.code yX0_firstLike cX0_firstLike 3 (some .int), Cond.methodLink RX0 64 yX1_runTick, Cond.instanceMethod yX1_runTick, Cond.selects RX1 yX1_runTick yX1_runTick, Cond.code yX1_runTick cX1_runTick 2 none, Cond.fieldLink RX1 17 "TapCascade$Line" "called" "[Z"]
def wsX7_settle_r5 : List Cond := [Cond.fieldLink RX1 89 "TapCascade$Stage" "wait" "I", Cond.methodLink RX1 83 yX4_countOn, Cond.instanceMethod yX4_countOn, Cond.selects RX4 yX4_countOn yX4_countOn, Cond.code yX4_countOn cX4_countOn 2 none, Cond.methodLink RX1 92 yX1_passCallsOn, Cond.instanceMethod yX1_passCallsOn, Cond.selects RX1 yX1_passCallsOn yX1_passCallsOn, Cond.code yX1_passCallsOn cX1_passCallsOn 2 none, Cond.methodLink RX1 106 yX1_callNextBehind, Cond.instanceMethod yX1_callNextBehind, Cond.selects RX1 yX1_callNextBehind yX1_callNextBehind, Cond.code yX1_callNextBehind cX1_callNextBehind 3 none, Cond.methodLink RX1 109 yX4_wants, Cond.methodLink RX1 95 yX1_heedCall, Cond.instanceMethod yX1_heedCall, Cond.selects RX1 yX1_heedCall yX1_heedCall, Cond.code yX1_heedCall cX1_heedCall 4 none, Cond.fieldLink RX1 119 "TapCascade$Stage" "lastStep" "I", Cond.fieldLink RX1 122 "TapCascade$StepLog" "back" "I", Cond.methodLink RX1 115 yX5_add, Cond.instanceMethod yX5_add, Cond.selects RX5 yX5_add yX5_add, Cond.code yX5_add cX5_add 5 none]
def wsX7_settle_r6 : List Cond := [Cond.methodLink RX1 99 yX1_reckon, Cond.instanceMethod yX1_reckon, Cond.selects RX1 yX1_reckon yX1_reckon, Cond.code yX1_reckon cX1_reckon 5 none, Cond.fieldLink RX1 53 "TapCascade$Stage" "load" "I", Cond.fieldLink RX1 56 "TapCascade$Stage" "flow" "I", Cond.fieldLink RX1 59 "TapCascade$Stage" "in" "I", Cond.fieldLink RX1 70 "TapCascade$Stage" "out" "I", Cond.methodLink RX1 62 yX4_turned, Cond.instanceMethod yX4_turned, Cond.selects RX4 yX4_turned yX4_turned, Cond.code yX4_turned cX4_turned 1 (some .int), Cond.static yX7_outOf, Cond.initialized RX7, Cond.code yX7_outOf cX7_outOf 2 (some .int), Cond.methodLink RX1 73 yX1_lostBehind, Cond.instanceMethod yX1_lostBehind, Cond.selects RX1 yX1_lostBehind yX1_lostBehind, Cond.code yX1_lostBehind cX1_lostBehind 2 (some .int), Cond.fieldLink RX1 77 "TapCascade$Stage" "way" "I", Cond.static yX7_lostBetween, Cond.code yX7_lostBetween cX7_lostBetween 2 (some .int)]
def wsX7_settle : List Cond := .code yX7_settle cX7_settle 2 (some .int) :: ((wsX7_settle_r1 ++ (wsX7_settle_r2 ++ (wsX7_settle_r3 ++ (wsX7_settle_r4 ++ (wsX7_settle_r5 ++ wsX7_settle_r6))))) ++ wsX70 ++ wsX00 ++ wsX10 ++ wsX50 ++ wsX40)
def wsX7_best_r1 : List Cond := [Cond.fieldLink RX7 19 "TapCascade" "line" "LTapCascade$Line;", Cond.fieldLink RX7 43 "TapCascade" "search" "LTapCascade$Search;", Cond.fieldLink RX7 163 "TapCascade$Search" "leastOff" "I", Cond.fieldLink RX7 166 "TapCascade$Search" "bestTaps" "[I", Cond.methodLink RX7 89 yX1_has, Cond.instanceMethod yX1_has, Cond.selects RX1 yX1_has yX1_has, Cond.initialized RX1, Cond.code yX1_has cX1_has 2 (some .boolean), Cond.fieldLink RX1 29 "TapCascade$Line" "size" "I", Cond.methodLink RX7 160 yX3_start, Cond.instanceMethod yX3_start, Cond.selects RX3 yX3_start yX3_start, Cond.initialized RX3, Cond.code yX3_start cX3_start 2 none, Cond.constant RX3 20 (2147483647), Cond.fieldLink RX3 21 "TapCascade$Search" "leastOff" "I", Cond.fieldLink RX3 25 "TapCascade$Line" "source" "I", Cond.methodLink RX3 30 yX3_tryTaps, Cond.static yX3_tryTaps, Cond.code yX3_tryTaps cX3_tryTaps 11 none, Cond.fieldLink RX3 34 "TapCascade$Line" "size" "I", Cond.fieldLink RX3 9 "TapCascade$Search" "taps" "[I", Cond.fieldLink RX3 15 "TapCascade$Search" "bestTaps" "[I"]
def wsX7_best_r2 : List Cond := [Cond.methodLink RX3 37 arraycopyName, Cond.native arraycopyName, Cond.static arraycopyName, Cond.initialized "java/lang/System", Cond.fieldLink RX3 43 "TapCascade$Line" "stages" "[LTapCascade$Stage;", Cond.fieldLink RX3 47 "TapCascade$Stage" "stuck" "Z", Cond.fieldLink RX3 53 "TapCascade$Stage" "tap" "I", Cond.fieldLink RX3 56 "TapCascade$Stage" "step" "I", Cond.fieldLink RX3 63 "TapCascade$Stage" "target" "I", Cond.methodLink RX3 66 Lib.Math.abs.name, Cond.static Lib.Math.abs.name, Cond.initialized "java/lang/Math", Cond.code Lib.Math.abs.name Lib.Math.abs.code 1 (some .int), Cond.static yX7_outOf, Cond.initialized RX7, Cond.code yX7_outOf cX7_outOf 2 (some .int), Cond.methodLink RX3 72 yX1_lostBehind, Cond.instanceMethod yX1_lostBehind, Cond.selects RX1 yX1_lostBehind yX1_lostBehind, Cond.code yX1_lostBehind cX1_lostBehind 2 (some .int), Cond.fieldLink RX1 11 "TapCascade$Line" "stages" "[LTapCascade$Stage;", Cond.fieldLink RX1 77 "TapCascade$Stage" "way" "I", Cond.fieldLink RX1 56 "TapCascade$Stage" "flow" "I", Cond.static yX7_lostBetween]
def wsX7_best_r3 : List Cond := [Cond.code yX7_lostBetween cX7_lostBetween 2 (some .int)]
def wsX7_best : List Cond := .code yX7_best cX7_best 2 (some .int) :: ((wsX7_best_r1 ++ (wsX7_best_r2 ++ wsX7_best_r3)) ++ wsX70 ++ wsX30 ++ wsX10 ++ wsX40)
def wsX7_greatestCommon : List Cond := .code yX7_greatestCommon cX7_greatestCommon 7 (some .long) :: ([])
def wsX7_ratio : List Cond := .code yX7_ratio cX7_ratio 9 (some .long) :: ([.fieldLink RX7 19 "TapCascade" "line" "LTapCascade$Line;", .constantLong RX7 170 (-1), .fieldLink RX7 96 "TapCascade$Line" "stages" "[LTapCascade$Stage;", .constantLong RX7 175 (1000), .methodLink RX7 89 yX1_has, .instanceMethod yX1_has, .selects RX1 yX1_has yX1_has, .initialized RX1, .code yX1_has cX1_has 2 (some .boolean), .fieldLink RX1 29 "TapCascade$Line" "size" "I", .methodLink RX7 172 yX4_turned, .instanceMethod yX4_turned, .selects RX4 yX4_turned yX4_turned, .initialized RX4, .code yX4_turned cX4_turned 1 (some .int), .fieldLink RX4 37 "TapCascade$Stage" "tap" "I", .fieldLink RX4 13 "TapCascade$Stage" "step" "I", .methodLink RX7 177 yX7_greatestCommon, .static yX7_greatestCommon, .initialized RX7, .code yX7_greatestCommon cX7_greatestCommon 7 (some .long)] ++ wsX70 ++ wsX10 ++ wsX40)
def wsX7_isGrade : List Cond := .code yX7_isGrade cX7_isGrade 1 (some .boolean) :: ([])
def wsX7_graded : List Cond := .code yX7_graded cX7_graded 3 (some .int) :: ([.fieldLink RX7 19 "TapCascade" "line" "LTapCascade$Line;", .fieldLink RX7 74 "TapCascade$Line" "size" "I", .fieldLink RX7 96 "TapCascade$Line" "stages" "[LTapCascade$Stage;", .fieldLink RX7 184 "TapCascade$Stage" "wait" "I", .methodLink RX7 181 yX7_isGrade, .static yX7_isGrade, .initialized RX7, .code yX7_isGrade cX7_isGrade 1 (some .boolean)] ++ wsX70 ++ wsX10 ++ wsX40)
def wsX7_waits : List Cond := .code yX7_waits cX7_waits 5 (some .int) :: ([.fieldLink RX7 19 "TapCascade" "line" "LTapCascade$Line;", .fieldLink RX7 96 "TapCascade$Line" "stages" "[LTapCascade$Stage;", .fieldLink RX7 184 "TapCascade$Stage" "wait" "I", .methodLink RX7 187 Lib.Math.max.name, .static Lib.Math.max.name, .initialized "java/lang/Math", .code Lib.Math.max.name Lib.Math.max.code 2 (some .int), .methodLink RX7 89 yX1_has, .instanceMethod yX1_has, .selects RX1 yX1_has yX1_has, .initialized RX1, .code yX1_has cX1_has 2 (some .boolean), .fieldLink RX1 29 "TapCascade$Line" "size" "I", .methodLink RX7 181 yX7_isGrade, .static yX7_isGrade, .initialized RX7, .code yX7_isGrade cX7_isGrade 1 (some .boolean)] ++ wsX70 ++ wsX10 ++ wsX40)
def wsX7_count_r1 : List Cond := [Cond.fieldLink RX7 19 "TapCascade" "line" "LTapCascade$Line;", Cond.fieldLink RX7 74 "TapCascade$Line" "size" "I", Cond.fieldLink RX7 80 "TapCascade$Line" "source" "I", Cond.fieldLink RX7 117 "TapCascade$Line" "ticks" "I", Cond.fieldLink RX7 120 "TapCascade$Line" "log" "LTapCascade$StepLog;", Cond.fieldLink RX7 124 "TapCascade$StepLog" "total" "I", Cond.fieldLink RX7 192 "TapCascade$StepLog" "back" "I", Cond.fieldLink RX7 29 "TapCascade" "past" "LTapCascade$Past;", Cond.fieldLink RX7 132 "TapCascade$Past" "size" "I", Cond.fieldLink RX7 10 "TapCascade" "text" "LTapCascade$Text;", Cond.fieldLink RX7 71 "TapCascade$Text" "length" "I", Cond.methodLink RX7 195 yX1_goodStages, Cond.instanceMethod yX1_goodStages, Cond.selects RX1 yX1_goodStages yX1_goodStages, Cond.initialized RX1, Cond.code yX1_goodStages cX1_goodStages 3 (some .int), Cond.fieldLink RX1 29 "TapCascade$Line" "size" "I", Cond.fieldLink RX1 11 "TapCascade$Line" "stages" "[LTapCascade$Stage;", Cond.methodLink RX1 128 yX4_judged, Cond.instanceMethod yX4_judged, Cond.selects RX4 yX4_judged yX4_judged, Cond.initialized RX4, Cond.code yX4_judged cX4_judged 1 (some .int), Cond.fieldLink RX4 59 "TapCascade$Stage" "out" "I"]
def wsX7_count_r2 : List Cond := [Cond.fieldLink RX4 19 "TapCascade$Stage" "target" "I", Cond.fieldLink RX4 22 "TapCascade$Stage" "band" "I", Cond.methodLink RX7 114 yX1_stuckStages, Cond.instanceMethod yX1_stuckStages, Cond.selects RX1 yX1_stuckStages yX1_stuckStages, Cond.code yX1_stuckStages cX1_stuckStages 3 (some .int), Cond.fieldLink RX1 131 "TapCascade$Stage" "stuck" "Z", Cond.methodLink RX7 198 yX1_off, Cond.instanceMethod yX1_off, Cond.selects RX1 yX1_off yX1_off, Cond.code yX1_off cX1_off 3 (some .int), Cond.methodLink RX1 135 yX4_off, Cond.instanceMethod yX4_off, Cond.selects RX4 yX4_off yX4_off, Cond.code yX4_off cX4_off 1 (some .int), Cond.methodLink RX4 62 Lib.Math.abs.name, Cond.static Lib.Math.abs.name, Cond.initialized "java/lang/Math", Cond.code Lib.Math.abs.name Lib.Math.abs.code 1 (some .int), Cond.methodLink RX7 201 yX1_isQuiet, Cond.instanceMethod yX1_isQuiet, Cond.selects RX1 yX1_isQuiet yX1_isQuiet, Cond.code yX1_isQuiet cX1_isQuiet 2 (some .boolean), Cond.methodLink RX1 102 yX4_canAsItWants]
def wsX7_count_r3 : List Cond := [Cond.instanceMethod yX4_canAsItWants, Cond.selects RX4 yX4_canAsItWants yX4_canAsItWants, Cond.code yX4_canAsItWants cX4_canAsItWants 1 (some .boolean), Cond.fieldLink RX4 49 "TapCascade$Stage" "stuck" "Z", Cond.fieldLink RX4 37 "TapCascade$Stage" "tap" "I", Cond.methodLink RX4 72 yX4_wants, Cond.instanceMethod yX4_wants, Cond.selects RX4 yX4_wants yX4_wants, Cond.code yX4_wants cX4_wants 3 (some .int), Cond.fieldLink RX4 53 "TapCascade$Stage" "flow" "I", Cond.fieldLink RX4 28 "TapCascade$Stage" "rule" "I", Cond.methodLink RX4 68 yX4_judged, Cond.methodLink RX7 205 yX5_unlikeTold, Cond.instanceMethod yX5_unlikeTold, Cond.selects RX5 yX5_unlikeTold yX5_unlikeTold, Cond.initialized RX5, Cond.code yX5_unlikeTold cX5_unlikeTold 3 (some .int), Cond.fieldLink RX5 15 "TapCascade$StepLog" "stages" "[I", Cond.fieldLink RX5 18 "TapCascade$StepLog" "ways" "[I", Cond.methodLink RX5 40 yX5_told, Cond.instanceMethod yX5_told, Cond.selects RX5 yX5_told yX5_told, Cond.code yX5_told cX5_told 1 (some .int), Cond.fieldLink RX5 21 "TapCascade$StepLog" "total" "I"]
def wsX7_count_r4 : List Cond := [Cond.methodLink RX5 34 Lib.Math.min.name, Cond.static Lib.Math.min.name, Cond.code Lib.Math.min.name Lib.Math.min.code 2 (some .int), Cond.methodLink RX5 44 yJ6_bitCount_0f7a4, Cond.static yJ6_bitCount_0f7a4, Cond.initialized RJ6, Cond.code yJ6_bitCount_0f7a4 cJ6_bitCount_0f7a4 1 (some .int), Cond.constant RJ6 265 (1431655765), Cond.constant RJ6 266 (858993459), Cond.constant RJ6 267 (252645135)]
def wsX7_count : List Cond := .code yX7_count cX7_count 2 (some .int) :: ((wsX7_count_r1 ++ (wsX7_count_r2 ++ (wsX7_count_r3 ++ wsX7_count_r4))) ++ wsX70 ++ wsX10 ++ wsX50 ++ wsX20 ++ wsX60 ++ wsX40)
def wsX8_stands : List Cond := .code yX8_stands cX8_stands 10 none :: ([.fieldLink RX8 13 "TapCascadeModel" "s" "[I"] ++ wsX80)
def wsX8_init_r1 : List Cond := [Cond.methodLink RX8 1 objectInit, Cond.instanceMethod objectInit, Cond.code objectInit ⟨#[0xb1]⟩ 1 none, Cond.arrayClass .byte, Cond.fieldLink RX8 7 "TapCascadeModel" "text" "[B", Cond.arrayClass .int, Cond.fieldLink RX8 13 "TapCascadeModel" "s" "[I", Cond.fieldLink RX8 17 "TapCascadeModel" "draft" "[I", Cond.fieldLink RX8 20 "TapCascadeModel" "past" "[I", Cond.fieldLink RX8 23 "TapCascadeModel" "flow" "[I", Cond.fieldLink RX8 26 "TapCascadeModel" "comesIn" "[I", Cond.fieldLink RX8 29 "TapCascadeModel" "goesOut" "[I", Cond.fieldLink RX8 32 "TapCascadeModel" "want" "[I", Cond.arrayClass .boolean, Cond.fieldLink RX8 35 "TapCascadeModel" "can" "[Z", Cond.fieldLink RX8 39 "TapCascadeModel" "called" "[Z", Cond.arrayClass .long, Cond.fieldLink RX8 42 "TapCascadeModel" "met" "[J", Cond.fieldLink RX8 46 "TapCascadeModel" "stepsThen" "[I", Cond.fieldLink RX8 49 "TapCascadeModel" "spare" "[I", Cond.fieldLink RX8 52 "TapCascadeModel" "bestTap" "[I", Cond.methodLink RX8 55 yX8_stands, Cond.instanceMethod yX8_stands, Cond.selects RX8 yX8_stands yX8_stands]
def wsX8_init_r2 : List Cond := [Cond.initialized RX8, Cond.code yX8_stands cX8_stands 10 none]
def wsX8_init : List Cond := .code yX8_init cX8_init 1 none :: ((wsX8_init_r1 ++ wsX8_init_r2) ++ wsX80)
def wsX8_in : List Cond := .code yX8_in cX8_in 3 (some .boolean) :: ([])
def wsX8_write : List Cond := .code yX8_write cX8_write 2 (some .int) :: ([.fieldLink RX8 59 "TapCascadeModel" "thrown" "I", .fieldLink RX8 67 "TapCascadeModel" "letters" "I", .fieldLink RX8 7 "TapCascadeModel" "text" "[B", .methodLink RX8 63 yX8_in, .static yX8_in, .initialized RX8, .code yX8_in cX8_in 3 (some .boolean)] ++ wsX80)
def wsX8_wipe : List Cond := .code yX8_wipe cX8_wipe 2 (some .int) :: ([.fieldLink RX8 59 "TapCascadeModel" "thrown" "I", .fieldLink RX8 67 "TapCascadeModel" "letters" "I"] ++ wsX80)
def wsX8_isHere : List Cond := .code yX8_isHere cX8_isHere 2 (some .boolean) :: ([.fieldLink RX8 70 "TapCascadeModel" "at" "I", .fieldLink RX8 67 "TapCascadeModel" "letters" "I", .fieldLink RX8 7 "TapCascadeModel" "text" "[B"] ++ wsX80)
def wsX8_takes : List Cond := .code yX8_takes cX8_takes 2 none :: ([.fieldLink RX8 70 "TapCascadeModel" "at" "I", .fieldLink RX8 77 "TapCascadeModel" "isSo" "Z", .methodLink RX8 73 yX8_isHere, .instanceMethod yX8_isHere, .selects RX8 yX8_isHere yX8_isHere, .initialized RX8, .code yX8_isHere cX8_isHere 2 (some .boolean), .fieldLink RX8 67 "TapCascadeModel" "letters" "I", .fieldLink RX8 7 "TapCascadeModel" "text" "[B"] ++ wsX80)
def wsX8_takesNumber : List Cond := .code yX8_takesNumber cX8_takesNumber 6 (some .int) :: ([.fieldLink RX8 70 "TapCascadeModel" "at" "I", .fieldLink RX8 67 "TapCascadeModel" "letters" "I", .fieldLink RX8 7 "TapCascadeModel" "text" "[B", .fieldLink RX8 77 "TapCascadeModel" "isSo" "Z", .methodLink RX8 73 yX8_isHere, .instanceMethod yX8_isHere, .selects RX8 yX8_isHere yX8_isHere, .initialized RX8, .code yX8_isHere cX8_isHere 2 (some .boolean), .methodLink RX8 63 yX8_in, .static yX8_in, .code yX8_in cX8_in 3 (some .boolean)] ++ wsX80)
def wsX8_lowOf : List Cond := .code yX8_lowOf cX8_lowOf 1 (some .int) :: ([])
def wsX8_highOf : List Cond := .code yX8_highOf cX8_highOf 1 (some .int) :: ([])
def wsX8_takesStage_r1 : List Cond := [Cond.fieldLink RX8 77 "TapCascadeModel" "isSo" "Z", Cond.fieldLink RX8 17 "TapCascadeModel" "draft" "[I", Cond.methodLink RX8 81 yX8_takes, Cond.instanceMethod yX8_takes, Cond.selects RX8 yX8_takes yX8_takes, Cond.initialized RX8, Cond.code yX8_takes cX8_takes 2 none, Cond.fieldLink RX8 70 "TapCascadeModel" "at" "I", Cond.methodLink RX8 73 yX8_isHere, Cond.instanceMethod yX8_isHere, Cond.selects RX8 yX8_isHere yX8_isHere, Cond.code yX8_isHere cX8_isHere 2 (some .boolean), Cond.fieldLink RX8 67 "TapCascadeModel" "letters" "I", Cond.fieldLink RX8 7 "TapCascadeModel" "text" "[B", Cond.methodLink RX8 85 yX8_lowOf, Cond.static yX8_lowOf, Cond.code yX8_lowOf cX8_lowOf 1 (some .int), Cond.methodLink RX8 89 yX8_highOf, Cond.static yX8_highOf, Cond.code yX8_highOf cX8_highOf 1 (some .int), Cond.methodLink RX8 92 yX8_takesNumber, Cond.instanceMethod yX8_takesNumber, Cond.selects RX8 yX8_takesNumber yX8_takesNumber, Cond.code yX8_takesNumber cX8_takesNumber 6 (some .int)]
def wsX8_takesStage_r2 : List Cond := [Cond.methodLink RX8 63 yX8_in, Cond.static yX8_in, Cond.code yX8_in cX8_in 3 (some .boolean)]
def wsX8_takesStage : List Cond := .code yX8_takesStage cX8_takesStage 3 none :: ((wsX8_takesStage_r1 ++ wsX8_takesStage_r2) ++ wsX80)
def wsX8_reads_r1 : List Cond := [Cond.fieldLink RX8 17 "TapCascadeModel" "draft" "[I", Cond.fieldLink RX8 70 "TapCascadeModel" "at" "I", Cond.fieldLink RX8 67 "TapCascadeModel" "letters" "I", Cond.fieldLink RX8 77 "TapCascadeModel" "isSo" "Z", Cond.methodLink RX8 73 yX8_isHere, Cond.instanceMethod yX8_isHere, Cond.selects RX8 yX8_isHere yX8_isHere, Cond.initialized RX8, Cond.code yX8_isHere cX8_isHere 2 (some .boolean), Cond.fieldLink RX8 7 "TapCascadeModel" "text" "[B", Cond.methodLink RX8 92 yX8_takesNumber, Cond.instanceMethod yX8_takesNumber, Cond.selects RX8 yX8_takesNumber yX8_takesNumber, Cond.code yX8_takesNumber cX8_takesNumber 6 (some .int), Cond.methodLink RX8 63 yX8_in, Cond.static yX8_in, Cond.code yX8_in cX8_in 3 (some .boolean), Cond.methodLink RX8 81 yX8_takes, Cond.instanceMethod yX8_takes, Cond.selects RX8 yX8_takes yX8_takes, Cond.code yX8_takes cX8_takes 2 none, Cond.methodLink RX8 96 yX8_takesStage, Cond.instanceMethod yX8_takesStage, Cond.selects RX8 yX8_takesStage yX8_takesStage]
def wsX8_reads_r2 : List Cond := [Cond.code yX8_takesStage cX8_takesStage 3 none, Cond.methodLink RX8 85 yX8_lowOf, Cond.static yX8_lowOf, Cond.code yX8_lowOf cX8_lowOf 1 (some .int), Cond.methodLink RX8 89 yX8_highOf, Cond.static yX8_highOf, Cond.code yX8_highOf cX8_highOf 1 (some .int)]
def wsX8_reads : List Cond := .code yX8_reads cX8_reads 3 (some .int) :: ((wsX8_reads_r1 ++ wsX8_reads_r2) ++ wsX80)
def wsX8_fault_r1 : List Cond := [Cond.fieldLink RX8 59 "TapCascadeModel" "thrown" "I", Cond.methodLink RX8 99 yX8_reads, Cond.instanceMethod yX8_reads, Cond.selects RX8 yX8_reads yX8_reads, Cond.initialized RX8, Cond.code yX8_reads cX8_reads 3 (some .int), Cond.fieldLink RX8 17 "TapCascadeModel" "draft" "[I", Cond.fieldLink RX8 70 "TapCascadeModel" "at" "I", Cond.fieldLink RX8 67 "TapCascadeModel" "letters" "I", Cond.fieldLink RX8 77 "TapCascadeModel" "isSo" "Z", Cond.methodLink RX8 73 yX8_isHere, Cond.instanceMethod yX8_isHere, Cond.selects RX8 yX8_isHere yX8_isHere, Cond.code yX8_isHere cX8_isHere 2 (some .boolean), Cond.fieldLink RX8 7 "TapCascadeModel" "text" "[B", Cond.methodLink RX8 92 yX8_takesNumber, Cond.instanceMethod yX8_takesNumber, Cond.selects RX8 yX8_takesNumber yX8_takesNumber, Cond.code yX8_takesNumber cX8_takesNumber 6 (some .int), Cond.methodLink RX8 63 yX8_in, Cond.static yX8_in, Cond.code yX8_in cX8_in 3 (some .boolean), Cond.methodLink RX8 81 yX8_takes, Cond.instanceMethod yX8_takes]
def wsX8_fault_r2 : List Cond := [Cond.selects RX8 yX8_takes yX8_takes, Cond.code yX8_takes cX8_takes 2 none, Cond.methodLink RX8 96 yX8_takesStage, Cond.instanceMethod yX8_takesStage, Cond.selects RX8 yX8_takesStage yX8_takesStage, Cond.code yX8_takesStage cX8_takesStage 3 none, Cond.methodLink RX8 85 yX8_lowOf, Cond.static yX8_lowOf, Cond.code yX8_lowOf cX8_lowOf 1 (some .int), Cond.methodLink RX8 89 yX8_highOf, Cond.static yX8_highOf, Cond.code yX8_highOf cX8_highOf 1 (some .int)]
def wsX8_fault : List Cond := .code yX8_fault cX8_fault 1 (some .int) :: ((wsX8_fault_r1 ++ wsX8_fault_r2) ++ wsX80)
def wsX8_lay_r1 : List Cond := [Cond.fieldLink RX8 59 "TapCascadeModel" "thrown" "I", Cond.fieldLink RX8 17 "TapCascadeModel" "draft" "[I", Cond.fieldLink RX8 13 "TapCascadeModel" "s" "[I", Cond.fieldLink RX8 103 "TapCascadeModel" "undos" "I", Cond.methodLink RX8 99 yX8_reads, Cond.instanceMethod yX8_reads, Cond.selects RX8 yX8_reads yX8_reads, Cond.initialized RX8, Cond.code yX8_reads cX8_reads 3 (some .int), Cond.fieldLink RX8 70 "TapCascadeModel" "at" "I", Cond.fieldLink RX8 67 "TapCascadeModel" "letters" "I", Cond.fieldLink RX8 77 "TapCascadeModel" "isSo" "Z", Cond.methodLink RX8 73 yX8_isHere, Cond.instanceMethod yX8_isHere, Cond.selects RX8 yX8_isHere yX8_isHere, Cond.code yX8_isHere cX8_isHere 2 (some .boolean), Cond.fieldLink RX8 7 "TapCascadeModel" "text" "[B", Cond.methodLink RX8 92 yX8_takesNumber, Cond.instanceMethod yX8_takesNumber, Cond.selects RX8 yX8_takesNumber yX8_takesNumber, Cond.code yX8_takesNumber cX8_takesNumber 6 (some .int), Cond.methodLink RX8 63 yX8_in, Cond.static yX8_in, Cond.code yX8_in cX8_in 3 (some .boolean)]
def wsX8_lay_r2 : List Cond := [Cond.methodLink RX8 81 yX8_takes, Cond.instanceMethod yX8_takes, Cond.selects RX8 yX8_takes yX8_takes, Cond.code yX8_takes cX8_takes 2 none, Cond.methodLink RX8 96 yX8_takesStage, Cond.instanceMethod yX8_takesStage, Cond.selects RX8 yX8_takesStage yX8_takesStage, Cond.code yX8_takesStage cX8_takesStage 3 none, Cond.methodLink RX8 85 yX8_lowOf, Cond.static yX8_lowOf, Cond.code yX8_lowOf cX8_lowOf 1 (some .int), Cond.methodLink RX8 89 yX8_highOf, Cond.static yX8_highOf, Cond.code yX8_highOf cX8_highOf 1 (some .int)]
def wsX8_lay : List Cond := .code yX8_lay cX8_lay 2 (some .int) :: ((wsX8_lay_r1 ++ wsX8_lay_r2) ++ wsX80)
def wsX8_isStage : List Cond := .code yX8_isStage cX8_isStage 2 (some .boolean) :: ([.fieldLink RX8 13 "TapCascadeModel" "s" "[I", .methodLink RX8 63 yX8_in, .static yX8_in, .initialized RX8, .code yX8_in cX8_in 3 (some .boolean)] ++ wsX80)
def wsX8_of : List Cond := .code yX8_of cX8_of 3 (some .int) :: ([.fieldLink RX8 13 "TapCascadeModel" "s" "[I"] ++ wsX80)
def wsX8_puts : List Cond := .code yX8_puts cX8_puts 4 none :: ([.fieldLink RX8 13 "TapCascadeModel" "s" "[I"] ++ wsX80)
def wsX8_goodOf : List Cond := .code yX8_goodOf cX8_goodOf 2 (some .int) :: ([.fieldLink RX8 29 "TapCascadeModel" "goesOut" "[I", .methodLink RX8 106 yX8_of, .instanceMethod yX8_of, .selects RX8 yX8_of yX8_of, .initialized RX8, .code yX8_of cX8_of 3 (some .int), .fieldLink RX8 13 "TapCascadeModel" "s" "[I"] ++ wsX80)
def wsX8_way : List Cond := .code yX8_way cX8_way 1 (some .int) :: ([])
def wsX8_lays : List Cond := .code yX8_lays cX8_lays 4 none :: ([.fieldLink RX8 13 "TapCascadeModel" "s" "[I", .fieldLink RX8 23 "TapCascadeModel" "flow" "[I", .fieldLink RX8 26 "TapCascadeModel" "comesIn" "[I", .fieldLink RX8 29 "TapCascadeModel" "goesOut" "[I", .fieldLink RX8 32 "TapCascadeModel" "want" "[I", .fieldLink RX8 35 "TapCascadeModel" "can" "[Z", .methodLink RX8 106 yX8_of, .instanceMethod yX8_of, .selects RX8 yX8_of yX8_of, .initialized RX8, .code yX8_of cX8_of 3 (some .int), .methodLink RX8 109 yX8_goodOf, .instanceMethod yX8_goodOf, .selects RX8 yX8_goodOf yX8_goodOf, .code yX8_goodOf cX8_goodOf 2 (some .int), .methodLink RX8 112 yX8_way, .static yX8_way, .code yX8_way cX8_way 1 (some .int), .methodLink RX8 63 yX8_in, .static yX8_in, .code yX8_in cX8_in 3 (some .boolean)] ++ wsX80)
def wsX8_isQuiet : List Cond := .code yX8_isQuiet cX8_isQuiet 3 (some .boolean) :: ([.fieldLink RX8 13 "TapCascadeModel" "s" "[I", .fieldLink RX8 35 "TapCascadeModel" "can" "[Z"] ++ wsX80)
def wsX8_offOf : List Cond := .code yX8_offOf cX8_offOf 4 (some .int) :: ([.fieldLink RX8 13 "TapCascadeModel" "s" "[I", .fieldLink RX8 29 "TapCascadeModel" "goesOut" "[I", .methodLink RX8 106 yX8_of, .instanceMethod yX8_of, .selects RX8 yX8_of yX8_of, .initialized RX8, .code yX8_of cX8_of 3 (some .int)] ++ wsX80)
def wsX8_counts : List Cond := .code yX8_counts cX8_counts 2 none :: ([.fieldLink RX8 13 "TapCascadeModel" "s" "[I", .fieldLink RX8 32 "TapCascadeModel" "want" "[I", .fieldLink RX8 39 "TapCascadeModel" "called" "[Z", .methodLink RX8 106 yX8_of, .instanceMethod yX8_of, .selects RX8 yX8_of yX8_of, .initialized RX8, .code yX8_of cX8_of 3 (some .int), .methodLink RX8 115 yX8_puts, .instanceMethod yX8_puts, .selects RX8 yX8_puts yX8_puts, .code yX8_puts cX8_puts 4 none] ++ wsX80)
def wsX8_passesOn : List Cond := .code yX8_passesOn cX8_passesOn 3 none :: ([.fieldLink RX8 13 "TapCascadeModel" "s" "[I", .fieldLink RX8 39 "TapCascadeModel" "called" "[Z", .fieldLink RX8 35 "TapCascadeModel" "can" "[Z", .fieldLink RX8 32 "TapCascadeModel" "want" "[I"] ++ wsX80)
def wsX8_notesStep : List Cond := .code yX8_notesStep cX8_notesStep 3 none :: ([.fieldLink RX8 13 "TapCascadeModel" "s" "[I", .fieldLink RX8 32 "TapCascadeModel" "want" "[I", .methodLink RX8 106 yX8_of, .instanceMethod yX8_of, .selects RX8 yX8_of yX8_of, .initialized RX8, .code yX8_of cX8_of 3 (some .int), .methodLink RX8 115 yX8_puts, .instanceMethod yX8_puts, .selects RX8 yX8_puts yX8_puts, .code yX8_puts cX8_puts 4 none] ++ wsX80)
def wsX8_ticks_r1 : List Cond := [Cond.fieldLink RX8 13 "TapCascadeModel" "s" "[I", Cond.fieldLink RX8 39 "TapCascadeModel" "called" "[Z", Cond.fieldLink RX8 35 "TapCascadeModel" "can" "[Z", Cond.fieldLink RX8 32 "TapCascadeModel" "want" "[I", Cond.methodLink RX8 119 yX8_lays, Cond.instanceMethod yX8_lays, Cond.selects RX8 yX8_lays yX8_lays, Cond.initialized RX8, Cond.code yX8_lays cX8_lays 4 none, Cond.fieldLink RX8 23 "TapCascadeModel" "flow" "[I", Cond.fieldLink RX8 26 "TapCascadeModel" "comesIn" "[I", Cond.fieldLink RX8 29 "TapCascadeModel" "goesOut" "[I", Cond.methodLink RX8 106 yX8_of, Cond.instanceMethod yX8_of, Cond.selects RX8 yX8_of yX8_of, Cond.code yX8_of cX8_of 3 (some .int), Cond.methodLink RX8 109 yX8_goodOf, Cond.instanceMethod yX8_goodOf, Cond.selects RX8 yX8_goodOf yX8_goodOf, Cond.code yX8_goodOf cX8_goodOf 2 (some .int), Cond.methodLink RX8 112 yX8_way, Cond.static yX8_way, Cond.code yX8_way cX8_way 1 (some .int), Cond.methodLink RX8 63 yX8_in]
def wsX8_ticks_r2 : List Cond := [Cond.static yX8_in, Cond.code yX8_in cX8_in 3 (some .boolean), Cond.methodLink RX8 122 yX8_counts, Cond.instanceMethod yX8_counts, Cond.selects RX8 yX8_counts yX8_counts, Cond.code yX8_counts cX8_counts 2 none, Cond.methodLink RX8 115 yX8_puts, Cond.instanceMethod yX8_puts, Cond.selects RX8 yX8_puts yX8_puts, Cond.code yX8_puts cX8_puts 4 none, Cond.methodLink RX8 125 yX8_passesOn, Cond.instanceMethod yX8_passesOn, Cond.selects RX8 yX8_passesOn yX8_passesOn, Cond.code yX8_passesOn cX8_passesOn 3 none, Cond.methodLink RX8 128 yX8_notesStep, Cond.instanceMethod yX8_notesStep, Cond.selects RX8 yX8_notesStep yX8_notesStep, Cond.code yX8_notesStep cX8_notesStep 3 none]
def wsX8_ticks : List Cond := .code yX8_ticks cX8_ticks 2 none :: ((wsX8_ticks_r1 ++ wsX8_ticks_r2) ++ wsX80)
def wsX8_notes : List Cond := .code yX8_notes cX8_notes 2 none :: ([.fieldLink RX8 103 "TapCascadeModel" "undos" "I", .fieldLink RX8 20 "TapCascadeModel" "past" "[I", .fieldLink RX8 13 "TapCascadeModel" "s" "[I"] ++ wsX80)
def wsX8_source : List Cond := .code yX8_source cX8_source 3 (some .int) :: ([.fieldLink RX8 59 "TapCascadeModel" "thrown" "I", .fieldLink RX8 13 "TapCascadeModel" "s" "[I", .methodLink RX8 63 yX8_in, .static yX8_in, .initialized RX8, .code yX8_in cX8_in 3 (some .boolean), .methodLink RX8 131 yX8_notes, .instanceMethod yX8_notes, .selects RX8 yX8_notes yX8_notes, .code yX8_notes cX8_notes 2 none, .fieldLink RX8 103 "TapCascadeModel" "undos" "I", .fieldLink RX8 20 "TapCascadeModel" "past" "[I"] ++ wsX80)
def wsX8_tell : List Cond := .code yX8_tell cX8_tell 8 (some .int) :: ([.fieldLink RX8 59 "TapCascadeModel" "thrown" "I", .methodLink RX8 134 yX8_isStage, .instanceMethod yX8_isStage, .selects RX8 yX8_isStage yX8_isStage, .initialized RX8, .code yX8_isStage cX8_isStage 2 (some .boolean), .fieldLink RX8 13 "TapCascadeModel" "s" "[I", .methodLink RX8 63 yX8_in, .static yX8_in, .code yX8_in cX8_in 3 (some .boolean), .methodLink RX8 106 yX8_of, .instanceMethod yX8_of, .selects RX8 yX8_of yX8_of, .code yX8_of cX8_of 3 (some .int), .methodLink RX8 131 yX8_notes, .instanceMethod yX8_notes, .selects RX8 yX8_notes yX8_notes, .code yX8_notes cX8_notes 2 none, .fieldLink RX8 103 "TapCascadeModel" "undos" "I", .fieldLink RX8 20 "TapCascadeModel" "past" "[I", .methodLink RX8 115 yX8_puts, .instanceMethod yX8_puts, .selects RX8 yX8_puts yX8_puts, .code yX8_puts cX8_puts 4 none] ++ wsX80)
def wsX8_stuck : List Cond := .code yX8_stuck cX8_stuck 3 (some .int) :: ([.fieldLink RX8 13 "TapCascadeModel" "s" "[I", .methodLink RX8 106 yX8_of, .instanceMethod yX8_of, .selects RX8 yX8_of yX8_of, .initialized RX8, .code yX8_of cX8_of 3 (some .int)] ++ wsX80)
def wsX8_stick_r1 : List Cond := [Cond.fieldLink RX8 59 "TapCascadeModel" "thrown" "I", Cond.methodLink RX8 134 yX8_isStage, Cond.instanceMethod yX8_isStage, Cond.selects RX8 yX8_isStage yX8_isStage, Cond.initialized RX8, Cond.code yX8_isStage cX8_isStage 2 (some .boolean), Cond.fieldLink RX8 13 "TapCascadeModel" "s" "[I", Cond.methodLink RX8 63 yX8_in, Cond.static yX8_in, Cond.code yX8_in cX8_in 3 (some .boolean), Cond.methodLink RX8 106 yX8_of, Cond.instanceMethod yX8_of, Cond.selects RX8 yX8_of yX8_of, Cond.code yX8_of cX8_of 3 (some .int), Cond.methodLink RX8 131 yX8_notes, Cond.instanceMethod yX8_notes, Cond.selects RX8 yX8_notes yX8_notes, Cond.code yX8_notes cX8_notes 2 none, Cond.fieldLink RX8 103 "TapCascadeModel" "undos" "I", Cond.fieldLink RX8 20 "TapCascadeModel" "past" "[I", Cond.methodLink RX8 115 yX8_puts, Cond.instanceMethod yX8_puts, Cond.selects RX8 yX8_puts yX8_puts, Cond.code yX8_puts cX8_puts 4 none]
def wsX8_stick_r2 : List Cond := [Cond.methodLink RX8 137 yX8_stuck, Cond.instanceMethod yX8_stuck, Cond.selects RX8 yX8_stuck yX8_stuck, Cond.code yX8_stuck cX8_stuck 3 (some .int)]
def wsX8_stick : List Cond := .code yX8_stick cX8_stick 3 (some .int) :: ((wsX8_stick_r1 ++ wsX8_stick_r2) ++ wsX80)
def wsX8_tick_r1 : List Cond := [Cond.fieldLink RX8 59 "TapCascadeModel" "thrown" "I", Cond.fieldLink RX8 13 "TapCascadeModel" "s" "[I", Cond.methodLink RX8 63 yX8_in, Cond.static yX8_in, Cond.initialized RX8, Cond.code yX8_in cX8_in 3 (some .boolean), Cond.methodLink RX8 131 yX8_notes, Cond.instanceMethod yX8_notes, Cond.selects RX8 yX8_notes yX8_notes, Cond.code yX8_notes cX8_notes 2 none, Cond.fieldLink RX8 103 "TapCascadeModel" "undos" "I", Cond.fieldLink RX8 20 "TapCascadeModel" "past" "[I", Cond.methodLink RX8 140 yX8_ticks, Cond.instanceMethod yX8_ticks, Cond.selects RX8 yX8_ticks yX8_ticks, Cond.code yX8_ticks cX8_ticks 2 none, Cond.fieldLink RX8 39 "TapCascadeModel" "called" "[Z", Cond.fieldLink RX8 35 "TapCascadeModel" "can" "[Z", Cond.fieldLink RX8 32 "TapCascadeModel" "want" "[I", Cond.methodLink RX8 119 yX8_lays, Cond.instanceMethod yX8_lays, Cond.selects RX8 yX8_lays yX8_lays, Cond.code yX8_lays cX8_lays 4 none, Cond.fieldLink RX8 23 "TapCascadeModel" "flow" "[I"]
def wsX8_tick_r2 : List Cond := [Cond.fieldLink RX8 26 "TapCascadeModel" "comesIn" "[I", Cond.fieldLink RX8 29 "TapCascadeModel" "goesOut" "[I", Cond.methodLink RX8 106 yX8_of, Cond.instanceMethod yX8_of, Cond.selects RX8 yX8_of yX8_of, Cond.code yX8_of cX8_of 3 (some .int), Cond.methodLink RX8 109 yX8_goodOf, Cond.instanceMethod yX8_goodOf, Cond.selects RX8 yX8_goodOf yX8_goodOf, Cond.code yX8_goodOf cX8_goodOf 2 (some .int), Cond.methodLink RX8 112 yX8_way, Cond.static yX8_way, Cond.code yX8_way cX8_way 1 (some .int), Cond.methodLink RX8 122 yX8_counts, Cond.instanceMethod yX8_counts, Cond.selects RX8 yX8_counts yX8_counts, Cond.code yX8_counts cX8_counts 2 none, Cond.methodLink RX8 115 yX8_puts, Cond.instanceMethod yX8_puts, Cond.selects RX8 yX8_puts yX8_puts, Cond.code yX8_puts cX8_puts 4 none, Cond.methodLink RX8 125 yX8_passesOn, Cond.instanceMethod yX8_passesOn, Cond.selects RX8 yX8_passesOn yX8_passesOn]
def wsX8_tick_r3 : List Cond := [Cond.code yX8_passesOn cX8_passesOn 3 none, Cond.methodLink RX8 128 yX8_notesStep, Cond.instanceMethod yX8_notesStep, Cond.selects RX8 yX8_notesStep yX8_notesStep, Cond.code yX8_notesStep cX8_notesStep 3 none]
def wsX8_tick : List Cond := .code yX8_tick cX8_tick 4 (some .int) :: ((wsX8_tick_r1 ++ (wsX8_tick_r2 ++ wsX8_tick_r3)) ++ wsX80)
def wsX8_undo : List Cond := .code yX8_undo cX8_undo 2 (some .int) :: ([.fieldLink RX8 59 "TapCascadeModel" "thrown" "I", .fieldLink RX8 103 "TapCascadeModel" "undos" "I", .fieldLink RX8 13 "TapCascadeModel" "s" "[I", .fieldLink RX8 20 "TapCascadeModel" "past" "[I"] ++ wsX80)
def wsX8_stage_r1 : List Cond := [Cond.fieldLink RX8 59 "TapCascadeModel" "thrown" "I", Cond.fieldLink RX8 23 "TapCascadeModel" "flow" "[I", Cond.fieldLink RX8 26 "TapCascadeModel" "comesIn" "[I", Cond.fieldLink RX8 29 "TapCascadeModel" "goesOut" "[I", Cond.fieldLink RX8 32 "TapCascadeModel" "want" "[I", Cond.fieldLink RX8 35 "TapCascadeModel" "can" "[Z", Cond.methodLink RX8 134 yX8_isStage, Cond.instanceMethod yX8_isStage, Cond.selects RX8 yX8_isStage yX8_isStage, Cond.initialized RX8, Cond.code yX8_isStage cX8_isStage 2 (some .boolean), Cond.fieldLink RX8 13 "TapCascadeModel" "s" "[I", Cond.methodLink RX8 63 yX8_in, Cond.static yX8_in, Cond.code yX8_in cX8_in 3 (some .boolean), Cond.methodLink RX8 119 yX8_lays, Cond.instanceMethod yX8_lays, Cond.selects RX8 yX8_lays yX8_lays, Cond.code yX8_lays cX8_lays 4 none, Cond.methodLink RX8 106 yX8_of, Cond.instanceMethod yX8_of, Cond.selects RX8 yX8_of yX8_of, Cond.code yX8_of cX8_of 3 (some .int), Cond.methodLink RX8 109 yX8_goodOf]
def wsX8_stage_r2 : List Cond := [Cond.instanceMethod yX8_goodOf, Cond.selects RX8 yX8_goodOf yX8_goodOf, Cond.code yX8_goodOf cX8_goodOf 2 (some .int), Cond.methodLink RX8 112 yX8_way, Cond.static yX8_way, Cond.code yX8_way cX8_way 1 (some .int)]
def wsX8_stage : List Cond := .code yX8_stage cX8_stage 3 (some .int) :: ((wsX8_stage_r1 ++ wsX8_stage_r2) ++ wsX80)
def wsX8_done : List Cond := .code yX8_done cX8_done 3 (some .int) :: ([.fieldLink RX8 59 "TapCascadeModel" "thrown" "I", .fieldLink RX8 13 "TapCascadeModel" "s" "[I", .methodLink RX8 63 yX8_in, .static yX8_in, .initialized RX8, .code yX8_in cX8_in 3 (some .boolean)] ++ wsX80)
def wsX8_codeOf : List Cond := .code yX8_codeOf cX8_codeOf 4 (some .long) :: ([.fieldLink RX8 13 "TapCascadeModel" "s" "[I", .constantLong RX8 143 (1024), .methodLink RX8 106 yX8_of, .instanceMethod yX8_of, .selects RX8 yX8_of yX8_of, .initialized RX8, .code yX8_of cX8_of 3 (some .int)] ++ wsX80)
def wsX8_settles_r1 : List Cond := [Cond.fieldLink RX8 145 "TapCascadeModel" "quietBehind" "I", Cond.fieldLink RX8 148 "TapCascadeModel" "roundFrom" "I", Cond.fieldLink RX8 151 "TapCascadeModel" "roundLong" "I", Cond.fieldLink RX8 154 "TapCascadeModel" "roundSteps" "I", Cond.fieldLink RX8 49 "TapCascadeModel" "spare" "[I", Cond.fieldLink RX8 13 "TapCascadeModel" "s" "[I", Cond.fieldLink RX8 42 "TapCascadeModel" "met" "[J", Cond.fieldLink RX8 46 "TapCascadeModel" "stepsThen" "[I", Cond.methodLink RX8 119 yX8_lays, Cond.instanceMethod yX8_lays, Cond.selects RX8 yX8_lays yX8_lays, Cond.initialized RX8, Cond.code yX8_lays cX8_lays 4 none, Cond.fieldLink RX8 23 "TapCascadeModel" "flow" "[I", Cond.fieldLink RX8 26 "TapCascadeModel" "comesIn" "[I", Cond.fieldLink RX8 29 "TapCascadeModel" "goesOut" "[I", Cond.fieldLink RX8 32 "TapCascadeModel" "want" "[I", Cond.fieldLink RX8 35 "TapCascadeModel" "can" "[Z", Cond.methodLink RX8 106 yX8_of, Cond.instanceMethod yX8_of, Cond.selects RX8 yX8_of yX8_of, Cond.code yX8_of cX8_of 3 (some .int), Cond.methodLink RX8 109 yX8_goodOf, Cond.instanceMethod yX8_goodOf]
def wsX8_settles_r2 : List Cond := [Cond.selects RX8 yX8_goodOf yX8_goodOf, Cond.code yX8_goodOf cX8_goodOf 2 (some .int), Cond.methodLink RX8 112 yX8_way, Cond.static yX8_way, Cond.code yX8_way cX8_way 1 (some .int), Cond.methodLink RX8 63 yX8_in, Cond.static yX8_in, Cond.code yX8_in cX8_in 3 (some .boolean), Cond.methodLink RX8 157 yX8_isQuiet, Cond.instanceMethod yX8_isQuiet, Cond.selects RX8 yX8_isQuiet yX8_isQuiet, Cond.code yX8_isQuiet cX8_isQuiet 3 (some .boolean), Cond.methodLink RX8 161 yX8_codeOf, Cond.instanceMethod yX8_codeOf, Cond.selects RX8 yX8_codeOf yX8_codeOf, Cond.code yX8_codeOf cX8_codeOf 4 (some .long), Cond.constantLong RX8 143 (1024), Cond.methodLink RX8 140 yX8_ticks, Cond.instanceMethod yX8_ticks, Cond.selects RX8 yX8_ticks yX8_ticks, Cond.code yX8_ticks cX8_ticks 2 none, Cond.fieldLink RX8 39 "TapCascadeModel" "called" "[Z", Cond.methodLink RX8 122 yX8_counts, Cond.instanceMethod yX8_counts]
def wsX8_settles_r3 : List Cond := [Cond.selects RX8 yX8_counts yX8_counts, Cond.code yX8_counts cX8_counts 2 none, Cond.methodLink RX8 115 yX8_puts, Cond.instanceMethod yX8_puts, Cond.selects RX8 yX8_puts yX8_puts, Cond.code yX8_puts cX8_puts 4 none, Cond.methodLink RX8 125 yX8_passesOn, Cond.instanceMethod yX8_passesOn, Cond.selects RX8 yX8_passesOn yX8_passesOn, Cond.code yX8_passesOn cX8_passesOn 3 none, Cond.methodLink RX8 128 yX8_notesStep, Cond.instanceMethod yX8_notesStep, Cond.selects RX8 yX8_notesStep yX8_notesStep, Cond.code yX8_notesStep cX8_notesStep 3 none]
def wsX8_settles : List Cond := .code yX8_settles cX8_settles 3 none :: ((wsX8_settles_r1 ++ (wsX8_settles_r2 ++ wsX8_settles_r3)) ++ wsX80)
def wsX8_settle_r1 : List Cond := [Cond.fieldLink RX8 59 "TapCascadeModel" "thrown" "I", Cond.fieldLink RX8 145 "TapCascadeModel" "quietBehind" "I", Cond.fieldLink RX8 148 "TapCascadeModel" "roundFrom" "I", Cond.fieldLink RX8 151 "TapCascadeModel" "roundLong" "I", Cond.fieldLink RX8 154 "TapCascadeModel" "roundSteps" "I", Cond.methodLink RX8 63 yX8_in, Cond.static yX8_in, Cond.initialized RX8, Cond.code yX8_in cX8_in 3 (some .boolean), Cond.methodLink RX8 165 yX8_settles, Cond.instanceMethod yX8_settles, Cond.selects RX8 yX8_settles yX8_settles, Cond.code yX8_settles cX8_settles 3 none, Cond.fieldLink RX8 49 "TapCascadeModel" "spare" "[I", Cond.fieldLink RX8 13 "TapCascadeModel" "s" "[I", Cond.fieldLink RX8 42 "TapCascadeModel" "met" "[J", Cond.fieldLink RX8 46 "TapCascadeModel" "stepsThen" "[I", Cond.methodLink RX8 119 yX8_lays, Cond.instanceMethod yX8_lays, Cond.selects RX8 yX8_lays yX8_lays, Cond.code yX8_lays cX8_lays 4 none, Cond.fieldLink RX8 23 "TapCascadeModel" "flow" "[I", Cond.fieldLink RX8 26 "TapCascadeModel" "comesIn" "[I", Cond.fieldLink RX8 29 "TapCascadeModel" "goesOut" "[I"]
def wsX8_settle_r2 : List Cond := [Cond.fieldLink RX8 32 "TapCascadeModel" "want" "[I", Cond.fieldLink RX8 35 "TapCascadeModel" "can" "[Z", Cond.methodLink RX8 106 yX8_of, Cond.instanceMethod yX8_of, Cond.selects RX8 yX8_of yX8_of, Cond.code yX8_of cX8_of 3 (some .int), Cond.methodLink RX8 109 yX8_goodOf, Cond.instanceMethod yX8_goodOf, Cond.selects RX8 yX8_goodOf yX8_goodOf, Cond.code yX8_goodOf cX8_goodOf 2 (some .int), Cond.methodLink RX8 112 yX8_way, Cond.static yX8_way, Cond.code yX8_way cX8_way 1 (some .int), Cond.methodLink RX8 157 yX8_isQuiet, Cond.instanceMethod yX8_isQuiet, Cond.selects RX8 yX8_isQuiet yX8_isQuiet, Cond.code yX8_isQuiet cX8_isQuiet 3 (some .boolean), Cond.methodLink RX8 161 yX8_codeOf, Cond.instanceMethod yX8_codeOf, Cond.selects RX8 yX8_codeOf yX8_codeOf, Cond.code yX8_codeOf cX8_codeOf 4 (some .long), Cond.constantLong RX8 143 (1024), Cond.methodLink RX8 140 yX8_ticks, Cond.instanceMethod yX8_ticks]
def wsX8_settle_r3 : List Cond := [Cond.selects RX8 yX8_ticks yX8_ticks, Cond.code yX8_ticks cX8_ticks 2 none, Cond.fieldLink RX8 39 "TapCascadeModel" "called" "[Z", Cond.methodLink RX8 122 yX8_counts, Cond.instanceMethod yX8_counts, Cond.selects RX8 yX8_counts yX8_counts, Cond.code yX8_counts cX8_counts 2 none, Cond.methodLink RX8 115 yX8_puts, Cond.instanceMethod yX8_puts, Cond.selects RX8 yX8_puts yX8_puts, Cond.code yX8_puts cX8_puts 4 none, Cond.methodLink RX8 125 yX8_passesOn, Cond.instanceMethod yX8_passesOn, Cond.selects RX8 yX8_passesOn yX8_passesOn, Cond.code yX8_passesOn cX8_passesOn 3 none, Cond.methodLink RX8 128 yX8_notesStep, Cond.instanceMethod yX8_notesStep, Cond.selects RX8 yX8_notesStep yX8_notesStep, Cond.code yX8_notesStep cX8_notesStep 3 none]
def wsX8_settle : List Cond := .code yX8_settle cX8_settle 2 (some .int) :: ((wsX8_settle_r1 ++ (wsX8_settle_r2 ++ wsX8_settle_r3)) ++ wsX80)
def wsX8_nextTaps : List Cond := .code yX8_nextTaps cX8_nextTaps 2 (some .boolean) :: ([.fieldLink RX8 13 "TapCascadeModel" "s" "[I", .methodLink RX8 106 yX8_of, .instanceMethod yX8_of, .selects RX8 yX8_of yX8_of, .initialized RX8, .code yX8_of cX8_of 3 (some .int), .methodLink RX8 115 yX8_puts, .instanceMethod yX8_puts, .selects RX8 yX8_puts yX8_puts, .code yX8_puts cX8_puts 4 none] ++ wsX80)
def wsX8_findsBest_r1 : List Cond := [Cond.fieldLink RX8 49 "TapCascadeModel" "spare" "[I", Cond.fieldLink RX8 13 "TapCascadeModel" "s" "[I", Cond.fieldLink RX8 168 "TapCascadeModel" "bestOff" "I", Cond.fieldLink RX8 52 "TapCascadeModel" "bestTap" "[I", Cond.methodLink RX8 106 yX8_of, Cond.instanceMethod yX8_of, Cond.selects RX8 yX8_of yX8_of, Cond.initialized RX8, Cond.code yX8_of cX8_of 3 (some .int), Cond.methodLink RX8 115 yX8_puts, Cond.instanceMethod yX8_puts, Cond.selects RX8 yX8_puts yX8_puts, Cond.code yX8_puts cX8_puts 4 none, Cond.methodLink RX8 119 yX8_lays, Cond.instanceMethod yX8_lays, Cond.selects RX8 yX8_lays yX8_lays, Cond.code yX8_lays cX8_lays 4 none, Cond.fieldLink RX8 23 "TapCascadeModel" "flow" "[I", Cond.fieldLink RX8 26 "TapCascadeModel" "comesIn" "[I", Cond.fieldLink RX8 29 "TapCascadeModel" "goesOut" "[I", Cond.fieldLink RX8 32 "TapCascadeModel" "want" "[I", Cond.fieldLink RX8 35 "TapCascadeModel" "can" "[Z", Cond.methodLink RX8 109 yX8_goodOf, Cond.instanceMethod yX8_goodOf]
def wsX8_findsBest_r2 : List Cond := [Cond.selects RX8 yX8_goodOf yX8_goodOf, Cond.code yX8_goodOf cX8_goodOf 2 (some .int), Cond.methodLink RX8 112 yX8_way, Cond.static yX8_way, Cond.code yX8_way cX8_way 1 (some .int), Cond.methodLink RX8 63 yX8_in, Cond.static yX8_in, Cond.code yX8_in cX8_in 3 (some .boolean), Cond.methodLink RX8 171 yX8_offOf, Cond.instanceMethod yX8_offOf, Cond.selects RX8 yX8_offOf yX8_offOf, Cond.code yX8_offOf cX8_offOf 4 (some .int), Cond.methodLink RX8 174 yX8_nextTaps, Cond.instanceMethod yX8_nextTaps, Cond.selects RX8 yX8_nextTaps yX8_nextTaps, Cond.code yX8_nextTaps cX8_nextTaps 2 (some .boolean)]
def wsX8_findsBest : List Cond := .code yX8_findsBest cX8_findsBest 3 none :: ((wsX8_findsBest_r1 ++ wsX8_findsBest_r2) ++ wsX80)
def wsX8_best_r1 : List Cond := [Cond.fieldLink RX8 59 "TapCascadeModel" "thrown" "I", Cond.fieldLink RX8 168 "TapCascadeModel" "bestOff" "I", Cond.fieldLink RX8 52 "TapCascadeModel" "bestTap" "[I", Cond.methodLink RX8 134 yX8_isStage, Cond.instanceMethod yX8_isStage, Cond.selects RX8 yX8_isStage yX8_isStage, Cond.initialized RX8, Cond.code yX8_isStage cX8_isStage 2 (some .boolean), Cond.fieldLink RX8 13 "TapCascadeModel" "s" "[I", Cond.methodLink RX8 63 yX8_in, Cond.static yX8_in, Cond.code yX8_in cX8_in 3 (some .boolean), Cond.methodLink RX8 177 yX8_findsBest, Cond.instanceMethod yX8_findsBest, Cond.selects RX8 yX8_findsBest yX8_findsBest, Cond.code yX8_findsBest cX8_findsBest 3 none, Cond.fieldLink RX8 49 "TapCascadeModel" "spare" "[I", Cond.methodLink RX8 106 yX8_of, Cond.instanceMethod yX8_of, Cond.selects RX8 yX8_of yX8_of, Cond.code yX8_of cX8_of 3 (some .int), Cond.methodLink RX8 115 yX8_puts, Cond.instanceMethod yX8_puts, Cond.selects RX8 yX8_puts yX8_puts]
def wsX8_best_r2 : List Cond := [Cond.code yX8_puts cX8_puts 4 none, Cond.methodLink RX8 119 yX8_lays, Cond.instanceMethod yX8_lays, Cond.selects RX8 yX8_lays yX8_lays, Cond.code yX8_lays cX8_lays 4 none, Cond.fieldLink RX8 23 "TapCascadeModel" "flow" "[I", Cond.fieldLink RX8 26 "TapCascadeModel" "comesIn" "[I", Cond.fieldLink RX8 29 "TapCascadeModel" "goesOut" "[I", Cond.fieldLink RX8 32 "TapCascadeModel" "want" "[I", Cond.fieldLink RX8 35 "TapCascadeModel" "can" "[Z", Cond.methodLink RX8 109 yX8_goodOf, Cond.instanceMethod yX8_goodOf, Cond.selects RX8 yX8_goodOf yX8_goodOf, Cond.code yX8_goodOf cX8_goodOf 2 (some .int), Cond.methodLink RX8 112 yX8_way, Cond.static yX8_way, Cond.code yX8_way cX8_way 1 (some .int), Cond.methodLink RX8 171 yX8_offOf, Cond.instanceMethod yX8_offOf, Cond.selects RX8 yX8_offOf yX8_offOf, Cond.code yX8_offOf cX8_offOf 4 (some .int), Cond.methodLink RX8 174 yX8_nextTaps, Cond.instanceMethod yX8_nextTaps, Cond.selects RX8 yX8_nextTaps yX8_nextTaps]
def wsX8_best_r3 : List Cond := [Cond.code yX8_nextTaps cX8_nextTaps 2 (some .boolean)]
def wsX8_best : List Cond := .code yX8_best cX8_best 2 (some .int) :: ((wsX8_best_r1 ++ (wsX8_best_r2 ++ wsX8_best_r3)) ++ wsX80)
def wsX8_ratio : List Cond := .code yX8_ratio cX8_ratio 13 (some .long) :: ([.fieldLink RX8 59 "TapCascadeModel" "thrown" "I", .constantLong RX8 180 (-1), .constantLong RX8 182 (1000), .methodLink RX8 134 yX8_isStage, .instanceMethod yX8_isStage, .selects RX8 yX8_isStage yX8_isStage, .initialized RX8, .code yX8_isStage cX8_isStage 2 (some .boolean), .fieldLink RX8 13 "TapCascadeModel" "s" "[I", .methodLink RX8 63 yX8_in, .static yX8_in, .code yX8_in cX8_in 3 (some .boolean), .methodLink RX8 106 yX8_of, .instanceMethod yX8_of, .selects RX8 yX8_of yX8_of, .code yX8_of cX8_of 3 (some .int)] ++ wsX80)
def wsX8_waitOf : List Cond := .code yX8_waitOf cX8_waitOf 5 (some .int) :: ([.methodLink RX8 106 yX8_of, .instanceMethod yX8_of, .selects RX8 yX8_of yX8_of, .initialized RX8, .code yX8_of cX8_of 3 (some .int), .fieldLink RX8 13 "TapCascadeModel" "s" "[I"] ++ wsX80)
def wsX8_graded : List Cond := .code yX8_graded cX8_graded 4 (some .int) :: ([.fieldLink RX8 59 "TapCascadeModel" "thrown" "I", .fieldLink RX8 13 "TapCascadeModel" "s" "[I", .methodLink RX8 63 yX8_in, .static yX8_in, .initialized RX8, .code yX8_in cX8_in 3 (some .boolean), .methodLink RX8 106 yX8_of, .instanceMethod yX8_of, .selects RX8 yX8_of yX8_of, .code yX8_of cX8_of 3 (some .int)] ++ wsX80)
def wsX8_waits : List Cond := .code yX8_waits cX8_waits 3 (some .int) :: ([.fieldLink RX8 59 "TapCascadeModel" "thrown" "I", .methodLink RX8 134 yX8_isStage, .instanceMethod yX8_isStage, .selects RX8 yX8_isStage yX8_isStage, .initialized RX8, .code yX8_isStage cX8_isStage 2 (some .boolean), .fieldLink RX8 13 "TapCascadeModel" "s" "[I", .methodLink RX8 63 yX8_in, .static yX8_in, .code yX8_in cX8_in 3 (some .boolean), .methodLink RX8 184 yX8_waitOf, .instanceMethod yX8_waitOf, .selects RX8 yX8_waitOf yX8_waitOf, .code yX8_waitOf cX8_waitOf 5 (some .int), .methodLink RX8 106 yX8_of, .instanceMethod yX8_of, .selects RX8 yX8_of yX8_of, .code yX8_of cX8_of 3 (some .int)] ++ wsX80)
def wsX8_good : List Cond := .code yX8_good cX8_good 3 (some .int) :: ([.fieldLink RX8 13 "TapCascadeModel" "s" "[I", .methodLink RX8 109 yX8_goodOf, .instanceMethod yX8_goodOf, .selects RX8 yX8_goodOf yX8_goodOf, .initialized RX8, .code yX8_goodOf cX8_goodOf 2 (some .int), .fieldLink RX8 29 "TapCascadeModel" "goesOut" "[I", .methodLink RX8 106 yX8_of, .instanceMethod yX8_of, .selects RX8 yX8_of yX8_of, .code yX8_of cX8_of 3 (some .int)] ++ wsX80)
def wsX8_unlike : List Cond := .code yX8_unlike cX8_unlike 5 (some .int) :: ([.fieldLink RX8 13 "TapCascadeModel" "s" "[I"] ++ wsX80)
def wsX8_count_r1 : List Cond := [Cond.fieldLink RX8 59 "TapCascadeModel" "thrown" "I", Cond.fieldLink RX8 13 "TapCascadeModel" "s" "[I", Cond.fieldLink RX8 103 "TapCascadeModel" "undos" "I", Cond.fieldLink RX8 67 "TapCascadeModel" "letters" "I", Cond.methodLink RX8 119 yX8_lays, Cond.instanceMethod yX8_lays, Cond.selects RX8 yX8_lays yX8_lays, Cond.initialized RX8, Cond.code yX8_lays cX8_lays 4 none, Cond.fieldLink RX8 23 "TapCascadeModel" "flow" "[I", Cond.fieldLink RX8 26 "TapCascadeModel" "comesIn" "[I", Cond.fieldLink RX8 29 "TapCascadeModel" "goesOut" "[I", Cond.fieldLink RX8 32 "TapCascadeModel" "want" "[I", Cond.fieldLink RX8 35 "TapCascadeModel" "can" "[Z", Cond.methodLink RX8 106 yX8_of, Cond.instanceMethod yX8_of, Cond.selects RX8 yX8_of yX8_of, Cond.code yX8_of cX8_of 3 (some .int), Cond.methodLink RX8 109 yX8_goodOf, Cond.instanceMethod yX8_goodOf, Cond.selects RX8 yX8_goodOf yX8_goodOf, Cond.code yX8_goodOf cX8_goodOf 2 (some .int), Cond.methodLink RX8 112 yX8_way, Cond.static yX8_way]
def wsX8_count_r2 : List Cond := [Cond.code yX8_way cX8_way 1 (some .int), Cond.methodLink RX8 63 yX8_in, Cond.static yX8_in, Cond.code yX8_in cX8_in 3 (some .boolean), Cond.methodLink RX8 187 yX8_good, Cond.instanceMethod yX8_good, Cond.selects RX8 yX8_good yX8_good, Cond.code yX8_good cX8_good 3 (some .int), Cond.methodLink RX8 137 yX8_stuck, Cond.instanceMethod yX8_stuck, Cond.selects RX8 yX8_stuck yX8_stuck, Cond.code yX8_stuck cX8_stuck 3 (some .int), Cond.methodLink RX8 171 yX8_offOf, Cond.instanceMethod yX8_offOf, Cond.selects RX8 yX8_offOf yX8_offOf, Cond.code yX8_offOf cX8_offOf 4 (some .int), Cond.methodLink RX8 157 yX8_isQuiet, Cond.instanceMethod yX8_isQuiet, Cond.selects RX8 yX8_isQuiet yX8_isQuiet, Cond.code yX8_isQuiet cX8_isQuiet 3 (some .boolean), Cond.methodLink RX8 190 yX8_unlike, Cond.instanceMethod yX8_unlike, Cond.selects RX8 yX8_unlike yX8_unlike, Cond.code yX8_unlike cX8_unlike 5 (some .int)]
def wsX8_count : List Cond := .code yX8_count cX8_count 2 (some .int) :: ((wsX8_count_r1 ++ wsX8_count_r2) ++ wsX80)
def wsJ9_abs_0f7a4 : List Cond := .code yJ9_abs_0f7a4 cJ9_abs_0f7a4 1 (some .int) :: ([])
def wsJ9_max_7cf53 : List Cond := .code yJ9_max_7cf53 cJ9_max_7cf53 2 (some .int) :: ([])
def wsJ9_min_7cf53 : List Cond := .code yJ9_min_7cf53 cJ9_min_7cf53 2 (some .int) :: ([])
def wsL_law_r1 : List Cond := [Cond.classLink RL 7 RX7, Cond.instantiable RX7 6, Cond.initialized RX7, Cond.classLink RL 10 RX8, Cond.instantiable RX8 24, Cond.initialized RX8, Cond.methodLink RL 9 yX7_init, Cond.instanceMethod yX7_init, Cond.code yX7_init cX7_init 2 none, Cond.methodLink RX7 1 objectInit, Cond.instanceMethod objectInit, Cond.code objectInit ⟨#[0xb1]⟩ 1 none, Cond.classLink RX7 7 RX6, Cond.instantiable RX6 4, Cond.initialized RX6, Cond.fieldLink RX7 10 "TapCascade" "text" "LTapCascade$Text;", Cond.classLink RX7 16 RX1, Cond.instantiable RX1 6, Cond.initialized RX1, Cond.fieldLink RX7 19 "TapCascade" "line" "LTapCascade$Line;", Cond.fieldLink RX7 23 "TapCascade" "draft" "LTapCascade$Line;", Cond.classLink RX7 26 RX2, Cond.instantiable RX2 3, Cond.initialized RX2]
def wsL_law_r2 : List Cond := [Cond.fieldLink RX7 29 "TapCascade" "past" "LTapCascade$Past;", Cond.classLink RX7 33 RX0, Cond.instantiable RX0 7, Cond.initialized RX0, Cond.fieldLink RX7 36 "TapCascade" "course" "LTapCascade$Course;", Cond.classLink RX7 40 RX3, Cond.instantiable RX3 3, Cond.initialized RX3, Cond.fieldLink RX7 43 "TapCascade" "search" "LTapCascade$Search;", Cond.fieldLink RX7 71 "TapCascade$Text" "length" "I", Cond.methodLink RX7 9 yX6_init, Cond.instanceMethod yX6_init, Cond.code yX6_init cX6_init 1 none, Cond.methodLink RX6 3 objectInit, Cond.arrayClass .int, Cond.fieldLink RX6 9 "TapCascade$Text" "letters" "[I", Cond.fieldLink RX6 18 "TapCascade$Text" "told" "[I", Cond.methodLink RX7 18 yX1_init, Cond.instanceMethod yX1_init, Cond.code yX1_init cX1_init 2 none, Cond.methodLink RX1 3 objectInit, Cond.classLink RX1 9 RX4, Cond.fieldLink RX1 11 "TapCascade$Line" "stages" "[LTapCascade$Stage;", Cond.arrayClass .boolean]
def wsL_law_r3 : List Cond := [Cond.fieldLink RX1 17 "TapCascade$Line" "called" "[Z", Cond.classLink RX1 21 RX5, Cond.instantiable RX5 5, Cond.initialized RX5, Cond.fieldLink RX1 24 "TapCascade$Line" "log" "LTapCascade$StepLog;", Cond.instantiable RX4 15, Cond.initialized RX4, Cond.methodLink RX1 23 yX5_init, Cond.instanceMethod yX5_init, Cond.code yX5_init cX5_init 1 none, Cond.methodLink RX5 3 objectInit, Cond.fieldLink RX5 9 "TapCascade$StepLog" "ticks" "[I", Cond.fieldLink RX5 15 "TapCascade$StepLog" "stages" "[I", Cond.fieldLink RX5 18 "TapCascade$StepLog" "ways" "[I", Cond.methodLink RX1 28 yX4_init, Cond.instanceMethod yX4_init, Cond.code yX4_init cX4_init 1 none, Cond.methodLink RX4 3 objectInit, Cond.methodLink RX7 28 yX2_init, Cond.instanceMethod yX2_init, Cond.code yX2_init cX2_init 2 none, Cond.methodLink RX2 3 objectInit, Cond.classLink RX2 9 RX1, Cond.fieldLink RX2 11 "TapCascade$Past" "kept" "[LTapCascade$Line;"]
def wsL_law_r4 : List Cond := [Cond.methodLink RX2 17 yX1_init, Cond.methodLink RX7 35 yX0_init, Cond.instanceMethod yX0_init, Cond.code yX0_init cX0_init 1 none, Cond.methodLink RX0 3 objectInit, Cond.classLink RX0 9 RX1, Cond.fieldLink RX0 12 "TapCascade$Course" "trial" "LTapCascade$Line;", Cond.arrayClass .long, Cond.fieldLink RX0 18 "TapCascade$Course" "seen" "[J", Cond.fieldLink RX0 22 "TapCascade$Course" "stepsBehind" "[I", Cond.methodLink RX0 11 yX1_init, Cond.methodLink RX7 42 yX3_init, Cond.instanceMethod yX3_init, Cond.code yX3_init cX3_init 1 none, Cond.methodLink RX3 3 objectInit, Cond.fieldLink RX3 9 "TapCascade$Search" "taps" "[I", Cond.fieldLink RX3 15 "TapCascade$Search" "bestTaps" "[I", Cond.methodLink RX7 49 yJ0_length_8abf5, Cond.instanceMethod yJ0_length_8abf5, Cond.selects RJ0 yJ0_length_8abf5 yJ0_length_8abf5, Cond.initialized RJ0, Cond.code yJ0_length_8abf5 cJ0_length_8abf5 1 (some .int), Cond.fieldLink RJ0 9 "java/lang/String" "value" "[B", Cond.methodLink RJ0 335 yJ0_coder_7d493]
def wsL_law_r5 : List Cond := [Cond.instanceMethod yJ0_coder_7d493, Cond.selects RJ0 yJ0_coder_7d493 yJ0_coder_7d493, Cond.code yJ0_coder_7d493 cJ0_coder_7d493 1 (some .byte), Cond.fieldLink RJ0 38 "java/lang/String" "COMPACT_STRINGS" "Z", Cond.fieldLink RJ0 15 "java/lang/String" "coder" "B", Cond.methodLink RX7 55 yJ0_charAt_5068e, Cond.instanceMethod yJ0_charAt_5068e, Cond.selects RJ0 yJ0_charAt_5068e yJ0_charAt_5068e, Cond.code yJ0_charAt_5068e cJ0_charAt_5068e 2 (some .char), Cond.methodLink RJ0 492 yJ0_isLatin1_aae02, Cond.instanceMethod yJ0_isLatin1_aae02, Cond.selects RJ0 yJ0_isLatin1_aae02 yJ0_isLatin1_aae02, Cond.code yJ0_isLatin1_aae02 cJ0_isLatin1_aae02 1 (some .boolean), Cond.methodLink RJ0 495 yJ1_charAt_3b067, Cond.static yJ1_charAt_3b067, Cond.initialized RJ1, Cond.code yJ1_charAt_3b067 cJ1_charAt_3b067 2 (some .char), Cond.methodLink RJ1 9 yJ0_checkIndex_df160, Cond.static yJ0_checkIndex_df160, Cond.code yJ0_checkIndex_df160 cJ0_checkIndex_df160 2 none, Cond.fieldLink RJ0 1053 "jdk/internal/util/Preconditions" "SIOOBE_FORMATTER" "Ljava/util/function/BiFunction;", Cond.methodLink RJ0 1059 yJ3_checkIndex_8e157, Cond.static yJ3_checkIndex_8e157, Cond.initialized RJ3]
def wsL_law_r6 : List Cond := [Cond.code yJ3_checkIndex_8e157 cJ3_checkIndex_8e157 3 (some .int), Cond.methodLink RJ0 498 yJ2_charAt_3b067, Cond.static yJ2_charAt_3b067, Cond.initialized RJ2, Cond.code yJ2_charAt_3b067 cJ2_charAt_3b067 2 (some .char), Cond.methodLink RJ2 67 yJ2_checkIndex_2214a, Cond.static yJ2_checkIndex_2214a, Cond.code yJ2_checkIndex_2214a cJ2_checkIndex_2214a 2 none, Cond.methodLink RJ2 48 yJ2_length_9d52b, Cond.static yJ2_length_9d52b, Cond.code yJ2_length_9d52b cJ2_length_9d52b 1 (some .int), Cond.methodLink RJ2 414 yJ0_checkIndex_df160, Cond.methodLink RJ2 71 yJ2_getChar_3b067, Cond.static yJ2_getChar_3b067, Cond.code yJ2_getChar_3b067 cJ2_getChar_3b067 2 (some .char), Cond.fieldLink RJ2 44 "java/lang/StringUTF16" "$assertionsDisabled" "Z", Cond.fieldLink RJ2 59 "java/lang/StringUTF16" "HI_BYTE_SHIFT" "I", Cond.fieldLink RJ2 63 "java/lang/StringUTF16" "LO_BYTE_SHIFT" "I", Cond.methodLink RX7 59 yX6_append, Cond.instanceMethod yX6_append, Cond.selects RX6 yX6_append yX6_append, Cond.code yX6_append cX6_append 2 (some .boolean), Cond.fieldLink RX6 21 "TapCascade$Text" "length" "I", Cond.methodLink RX7 63 yX6_readInto]
def wsL_law_r7 : List Cond := [Cond.instanceMethod yX6_readInto, Cond.selects RX6 yX6_readInto yX6_readInto, Cond.code yX6_readInto cX6_readInto 4 (some .int), Cond.fieldLink RX6 30 "TapCascade$Text" "place" "I", Cond.methodLink RX6 25 yX1_empty, Cond.instanceMethod yX1_empty, Cond.selects RX1 yX1_empty yX1_empty, Cond.code yX1_empty cX1_empty 1 none, Cond.fieldLink RX1 29 "TapCascade$Line" "size" "I", Cond.fieldLink RX1 33 "TapCascade$Line" "source" "I", Cond.fieldLink RX1 36 "TapCascade$Line" "ticks" "I", Cond.methodLink RX1 39 yX5_empty, Cond.instanceMethod yX5_empty, Cond.selects RX5 yX5_empty yX5_empty, Cond.code yX5_empty cX5_empty 1 none, Cond.fieldLink RX5 21 "TapCascade$StepLog" "total" "I", Cond.fieldLink RX5 25 "TapCascade$StepLog" "back" "I", Cond.methodLink RX6 33 yX6_readItem, Cond.instanceMethod yX6_readItem, Cond.selects RX6 yX6_readItem yX6_readItem, Cond.code yX6_readItem cX6_readItem 2 (some .boolean), Cond.methodLink RX6 40 yX6_take, Cond.instanceMethod yX6_take, Cond.selects RX6 yX6_take yX6_take]
def wsL_law_r8 : List Cond := [Cond.code yX6_take cX6_take 2 (some .boolean), Cond.methodLink RX6 44 yX6_readSource, Cond.instanceMethod yX6_readSource, Cond.selects RX6 yX6_readSource yX6_readSource, Cond.code yX6_readSource cX6_readSource 3 (some .boolean), Cond.fieldLink RX6 54 "TapCascade$Line" "source" "I", Cond.methodLink RX6 50 yX6_readNumber, Cond.instanceMethod yX6_readNumber, Cond.selects RX6 yX6_readNumber yX6_readNumber, Cond.code yX6_readNumber cX6_readNumber 7 (some .int), Cond.methodLink RX6 64 yX6_isFigure, Cond.instanceMethod yX6_isFigure, Cond.selects RX6 yX6_isFigure yX6_isFigure, Cond.code yX6_isFigure cX6_isFigure 1 (some .boolean), Cond.methodLink RX6 47 yX6_readStage, Cond.instanceMethod yX6_readStage, Cond.selects RX6 yX6_readStage yX6_readStage, Cond.code yX6_readStage cX6_readStage 4 (some .boolean), Cond.methodLink RX6 60 yX1_addStage, Cond.instanceMethod yX1_addStage, Cond.selects RX1 yX1_addStage yX1_addStage, Cond.code yX1_addStage cX1_addStage 2 (some .boolean), Cond.methodLink RX1 49 yX4_layDown, Cond.instanceMethod yX4_layDown]
def wsL_law_r9 : List Cond := [Cond.selects RX4 yX4_layDown yX4_layDown, Cond.code yX4_layDown cX4_layDown 2 none, Cond.fieldLink RX4 13 "TapCascade$Stage" "step" "I", Cond.fieldLink RX4 19 "TapCascade$Stage" "target" "I", Cond.fieldLink RX4 22 "TapCascade$Stage" "band" "I", Cond.fieldLink RX4 25 "TapCascade$Stage" "wait" "I", Cond.fieldLink RX4 28 "TapCascade$Stage" "rule" "I", Cond.fieldLink RX4 31 "TapCascade$Stage" "load" "I", Cond.fieldLink RX4 34 "TapCascade$Stage" "way" "I", Cond.fieldLink RX4 37 "TapCascade$Stage" "tap" "I", Cond.fieldLink RX4 40 "TapCascade$Stage" "count" "I", Cond.fieldLink RX4 43 "TapCascade$Stage" "wanted" "I", Cond.fieldLink RX4 46 "TapCascade$Stage" "lastStep" "I", Cond.fieldLink RX4 49 "TapCascade$Stage" "stuck" "Z", Cond.methodLink RX6 37 yX1_reckon, Cond.instanceMethod yX1_reckon, Cond.selects RX1 yX1_reckon yX1_reckon, Cond.code yX1_reckon cX1_reckon 5 none, Cond.fieldLink RX1 53 "TapCascade$Stage" "load" "I", Cond.fieldLink RX1 56 "TapCascade$Stage" "flow" "I", Cond.fieldLink RX1 59 "TapCascade$Stage" "in" "I", Cond.fieldLink RX1 70 "TapCascade$Stage" "out" "I", Cond.methodLink RX1 62 yX4_turned, Cond.instanceMethod yX4_turned]
def wsL_law_r10 : List Cond := [Cond.selects RX4 yX4_turned yX4_turned, Cond.code yX4_turned cX4_turned 1 (some .int), Cond.static yX7_outOf, Cond.code yX7_outOf cX7_outOf 2 (some .int), Cond.methodLink RX1 73 yX1_lostBehind, Cond.instanceMethod yX1_lostBehind, Cond.selects RX1 yX1_lostBehind yX1_lostBehind, Cond.code yX1_lostBehind cX1_lostBehind 2 (some .int), Cond.fieldLink RX1 77 "TapCascade$Stage" "way" "I", Cond.static yX7_lostBetween, Cond.code yX7_lostBetween cX7_lostBetween 2 (some .int), Cond.methodLink RX7 67 yX1_copyFrom, Cond.instanceMethod yX1_copyFrom, Cond.selects RX1 yX1_copyFrom yX1_copyFrom, Cond.code yX1_copyFrom cX1_copyFrom 3 none, Cond.methodLink RX1 42 yX4_copyFrom, Cond.instanceMethod yX4_copyFrom, Cond.selects RX4 yX4_copyFrom yX4_copyFrom, Cond.code yX4_copyFrom cX4_copyFrom 2 none, Cond.fieldLink RX4 53 "TapCascade$Stage" "flow" "I", Cond.fieldLink RX4 56 "TapCascade$Stage" "in" "I", Cond.fieldLink RX4 59 "TapCascade$Stage" "out" "I", Cond.methodLink RX1 46 yX5_copyFrom, Cond.instanceMethod yX5_copyFrom]
def wsL_law_r11 : List Cond := [Cond.selects RX5 yX5_copyFrom yX5_copyFrom, Cond.code yX5_copyFrom cX5_copyFrom 2 none, Cond.methodLink RX5 28 arraycopyName, Cond.native arraycopyName, Cond.static arraycopyName, Cond.initialized "java/lang/System", Cond.methodLink RL 12 yX8_init, Cond.instanceMethod yX8_init, Cond.code yX8_init cX8_init 1 none, Cond.methodLink RX8 1 objectInit, Cond.arrayClass .byte, Cond.fieldLink RX8 7 "TapCascadeModel" "text" "[B", Cond.fieldLink RX8 13 "TapCascadeModel" "s" "[I", Cond.fieldLink RX8 17 "TapCascadeModel" "draft" "[I", Cond.fieldLink RX8 20 "TapCascadeModel" "past" "[I", Cond.fieldLink RX8 23 "TapCascadeModel" "flow" "[I", Cond.fieldLink RX8 26 "TapCascadeModel" "comesIn" "[I", Cond.fieldLink RX8 29 "TapCascadeModel" "goesOut" "[I", Cond.fieldLink RX8 32 "TapCascadeModel" "want" "[I", Cond.fieldLink RX8 35 "TapCascadeModel" "can" "[Z", Cond.fieldLink RX8 39 "TapCascadeModel" "called" "[Z", Cond.fieldLink RX8 42 "TapCascadeModel" "met" "[J", Cond.fieldLink RX8 46 "TapCascadeModel" "stepsThen" "[I", Cond.fieldLink RX8 49 "TapCascadeModel" "spare" "[I"]
def wsL_law_r12 : List Cond := [Cond.fieldLink RX8 52 "TapCascadeModel" "bestTap" "[I", Cond.methodLink RX8 55 yX8_stands, Cond.instanceMethod yX8_stands, Cond.selects RX8 yX8_stands yX8_stands, Cond.code yX8_stands cX8_stands 10 none, Cond.methodLink RL 13 yX7_write, Cond.instanceMethod yX7_write, Cond.selects RX7 yX7_write yX7_write, Cond.code yX7_write cX7_write 2 (some .int), Cond.methodLink RL 17 yX8_write, Cond.instanceMethod yX8_write, Cond.selects RX8 yX8_write yX8_write, Cond.code yX8_write cX8_write 2 (some .int), Cond.fieldLink RX8 59 "TapCascadeModel" "thrown" "I", Cond.fieldLink RX8 67 "TapCascadeModel" "letters" "I", Cond.methodLink RX8 63 yX8_in, Cond.static yX8_in, Cond.code yX8_in cX8_in 3 (some .boolean), Cond.methodLink RL 18 yX7_wipe, Cond.instanceMethod yX7_wipe, Cond.selects RX7 yX7_wipe yX7_wipe, Cond.code yX7_wipe cX7_wipe 2 (some .int), Cond.methodLink RL 22 yX8_wipe, Cond.instanceMethod yX8_wipe]
def wsL_law_r13 : List Cond := [Cond.selects RX8 yX8_wipe yX8_wipe, Cond.code yX8_wipe cX8_wipe 2 (some .int), Cond.methodLink RL 23 yX7_fault, Cond.instanceMethod yX7_fault, Cond.selects RX7 yX7_fault yX7_fault, Cond.code yX7_fault cX7_fault 1 (some .int), Cond.methodLink RL 26 yX8_fault, Cond.instanceMethod yX8_fault, Cond.selects RX8 yX8_fault yX8_fault, Cond.code yX8_fault cX8_fault 1 (some .int), Cond.methodLink RX8 99 yX8_reads, Cond.instanceMethod yX8_reads, Cond.selects RX8 yX8_reads yX8_reads, Cond.code yX8_reads cX8_reads 3 (some .int), Cond.fieldLink RX8 70 "TapCascadeModel" "at" "I", Cond.fieldLink RX8 77 "TapCascadeModel" "isSo" "Z", Cond.methodLink RX8 73 yX8_isHere, Cond.instanceMethod yX8_isHere, Cond.selects RX8 yX8_isHere yX8_isHere, Cond.code yX8_isHere cX8_isHere 2 (some .boolean), Cond.methodLink RX8 92 yX8_takesNumber, Cond.instanceMethod yX8_takesNumber, Cond.selects RX8 yX8_takesNumber yX8_takesNumber, Cond.code yX8_takesNumber cX8_takesNumber 6 (some .int)]
def wsL_law_r14 : List Cond := [Cond.methodLink RX8 81 yX8_takes, Cond.instanceMethod yX8_takes, Cond.selects RX8 yX8_takes yX8_takes, Cond.code yX8_takes cX8_takes 2 none, Cond.methodLink RX8 96 yX8_takesStage, Cond.instanceMethod yX8_takesStage, Cond.selects RX8 yX8_takesStage yX8_takesStage, Cond.code yX8_takesStage cX8_takesStage 3 none, Cond.methodLink RX8 85 yX8_lowOf, Cond.static yX8_lowOf, Cond.code yX8_lowOf cX8_lowOf 1 (some .int), Cond.methodLink RX8 89 yX8_highOf, Cond.static yX8_highOf, Cond.code yX8_highOf cX8_highOf 1 (some .int), Cond.methodLink RL 27 yX7_lay, Cond.instanceMethod yX7_lay, Cond.selects RX7 yX7_lay yX7_lay, Cond.code yX7_lay cX7_lay 1 (some .int), Cond.fieldLink RX7 74 "TapCascade$Line" "size" "I", Cond.methodLink RX7 77 yX2_forget, Cond.instanceMethod yX2_forget, Cond.selects RX2 yX2_forget yX2_forget, Cond.code yX2_forget cX2_forget 1 none, Cond.fieldLink RX2 18 "TapCascade$Past" "size" "I"]
def wsL_law_r15 : List Cond := [Cond.methodLink RL 30 yX8_lay, Cond.instanceMethod yX8_lay, Cond.selects RX8 yX8_lay yX8_lay, Cond.code yX8_lay cX8_lay 2 (some .int), Cond.fieldLink RX8 103 "TapCascadeModel" "undos" "I", Cond.methodLink RL 31 yX7_source, Cond.instanceMethod yX7_source, Cond.selects RX7 yX7_source yX7_source, Cond.code yX7_source cX7_source 3 (some .int), Cond.fieldLink RX7 80 "TapCascade$Line" "source" "I", Cond.methodLink RX7 83 yX2_keep, Cond.instanceMethod yX2_keep, Cond.selects RX2 yX2_keep yX2_keep, Cond.code yX2_keep cX2_keep 2 none, Cond.fieldLink RX2 22 "TapCascade$Past" "next" "I", Cond.methodLink RX2 29 Lib.Math.min.name, Cond.static Lib.Math.min.name, Cond.initialized "java/lang/Math", Cond.code Lib.Math.min.name Lib.Math.min.code 2 (some .int), Cond.methodLink RX2 25 yX1_copyFrom, Cond.methodLink RX7 86 yX1_reckon, Cond.methodLink RL 34 yX8_source, Cond.instanceMethod yX8_source, Cond.selects RX8 yX8_source yX8_source]
def wsL_law_r16 : List Cond := [Cond.code yX8_source cX8_source 3 (some .int), Cond.methodLink RX8 131 yX8_notes, Cond.instanceMethod yX8_notes, Cond.selects RX8 yX8_notes yX8_notes, Cond.code yX8_notes cX8_notes 2 none, Cond.methodLink RL 35 yX7_tell, Cond.instanceMethod yX7_tell, Cond.selects RX7 yX7_tell yX7_tell, Cond.code yX7_tell cX7_tell 6 (some .int), Cond.fieldLink RX7 96 "TapCascade$Line" "stages" "[LTapCascade$Stage;", Cond.methodLink RX7 89 yX1_has, Cond.instanceMethod yX1_has, Cond.selects RX1 yX1_has yX1_has, Cond.code yX1_has cX1_has 2 (some .boolean), Cond.methodLink RX7 92 yX7_mayBeTold, Cond.static yX7_mayBeTold, Cond.code yX7_mayBeTold cX7_mayBeTold 2 (some .boolean), Cond.methodLink RX7 100 yX4_valueToTell, Cond.instanceMethod yX4_valueToTell, Cond.selects RX4 yX4_valueToTell yX4_valueToTell, Cond.code yX4_valueToTell cX4_valueToTell 2 (some .int), Cond.methodLink RX7 106 yX4_takeTold, Cond.instanceMethod yX4_takeTold, Cond.selects RX4 yX4_takeTold yX4_takeTold]
def wsL_law_r17 : List Cond := [Cond.code yX4_takeTold cX4_takeTold 3 none, Cond.methodLink RL 39 yX8_tell, Cond.instanceMethod yX8_tell, Cond.selects RX8 yX8_tell yX8_tell, Cond.code yX8_tell cX8_tell 8 (some .int), Cond.methodLink RX8 134 yX8_isStage, Cond.instanceMethod yX8_isStage, Cond.selects RX8 yX8_isStage yX8_isStage, Cond.code yX8_isStage cX8_isStage 2 (some .boolean), Cond.methodLink RX8 106 yX8_of, Cond.instanceMethod yX8_of, Cond.selects RX8 yX8_of yX8_of, Cond.code yX8_of cX8_of 3 (some .int), Cond.methodLink RX8 115 yX8_puts, Cond.instanceMethod yX8_puts, Cond.selects RX8 yX8_puts yX8_puts, Cond.code yX8_puts cX8_puts 4 none, Cond.methodLink RL 40 yX7_stick, Cond.instanceMethod yX7_stick, Cond.selects RX7 yX7_stick yX7_stick, Cond.code yX7_stick cX7_stick 4 (some .int), Cond.fieldLink RX7 110 "TapCascade$Stage" "stuck" "Z", Cond.methodLink RX7 114 yX1_stuckStages, Cond.instanceMethod yX1_stuckStages]
def wsL_law_r18 : List Cond := [Cond.selects RX1 yX1_stuckStages yX1_stuckStages, Cond.code yX1_stuckStages cX1_stuckStages 3 (some .int), Cond.fieldLink RX1 131 "TapCascade$Stage" "stuck" "Z", Cond.methodLink RL 44 yX8_stick, Cond.instanceMethod yX8_stick, Cond.selects RX8 yX8_stick yX8_stick, Cond.code yX8_stick cX8_stick 3 (some .int), Cond.methodLink RX8 137 yX8_stuck, Cond.instanceMethod yX8_stuck, Cond.selects RX8 yX8_stuck yX8_stuck, Cond.code yX8_stuck cX8_stuck 3 (some .int), Cond.methodLink RL 45 yX7_tick, Cond.instanceMethod yX7_tick, Cond.selects RX7 yX7_tick yX7_tick, Cond.code yX7_tick cX7_tick 4 (some .int), Cond.fieldLink RX7 117 "TapCascade$Line" "ticks" "I", Cond.fieldLink RX7 120 "TapCascade$Line" "log" "LTapCascade$StepLog;", Cond.fieldLink RX7 124 "TapCascade$StepLog" "total" "I", Cond.methodLink RX7 129 yX1_runTick, Cond.instanceMethod yX1_runTick, Cond.selects RX1 yX1_runTick yX1_runTick, Cond.code yX1_runTick cX1_runTick 2 none, Cond.fieldLink RX1 86 "TapCascade$Stage" "count" "I", Cond.fieldLink RX1 89 "TapCascade$Stage" "wait" "I"]
def wsL_law_r19 : List Cond := [Cond.methodLink RX1 83 yX4_countOn, Cond.instanceMethod yX4_countOn, Cond.selects RX4 yX4_countOn yX4_countOn, Cond.code yX4_countOn cX4_countOn 2 none, Cond.methodLink RX4 72 yX4_wants, Cond.instanceMethod yX4_wants, Cond.selects RX4 yX4_wants yX4_wants, Cond.code yX4_wants cX4_wants 3 (some .int), Cond.methodLink RX4 68 yX4_judged, Cond.instanceMethod yX4_judged, Cond.selects RX4 yX4_judged yX4_judged, Cond.code yX4_judged cX4_judged 1 (some .int), Cond.methodLink RX1 92 yX1_passCallsOn, Cond.instanceMethod yX1_passCallsOn, Cond.selects RX1 yX1_passCallsOn yX1_passCallsOn, Cond.code yX1_passCallsOn cX1_passCallsOn 2 none, Cond.methodLink RX1 102 yX4_canAsItWants, Cond.instanceMethod yX4_canAsItWants, Cond.selects RX4 yX4_canAsItWants yX4_canAsItWants, Cond.code yX4_canAsItWants cX4_canAsItWants 1 (some .boolean), Cond.methodLink RX1 106 yX1_callNextBehind, Cond.instanceMethod yX1_callNextBehind, Cond.selects RX1 yX1_callNextBehind yX1_callNextBehind, Cond.code yX1_callNextBehind cX1_callNextBehind 3 none]
def wsL_law_r20 : List Cond := [Cond.methodLink RX1 109 yX4_wants, Cond.methodLink RX1 95 yX1_heedCall, Cond.instanceMethod yX1_heedCall, Cond.selects RX1 yX1_heedCall yX1_heedCall, Cond.code yX1_heedCall cX1_heedCall 4 none, Cond.fieldLink RX1 112 "TapCascade$Stage" "tap" "I", Cond.fieldLink RX1 119 "TapCascade$Stage" "lastStep" "I", Cond.fieldLink RX1 122 "TapCascade$StepLog" "back" "I", Cond.fieldLink RX1 125 "TapCascade$Stage" "wanted" "I", Cond.methodLink RX1 115 yX5_add, Cond.instanceMethod yX5_add, Cond.selects RX5 yX5_add yX5_add, Cond.code yX5_add cX5_add 5 none, Cond.methodLink RX1 99 yX1_reckon, Cond.methodLink RL 48 yX8_tick, Cond.instanceMethod yX8_tick, Cond.selects RX8 yX8_tick yX8_tick, Cond.code yX8_tick cX8_tick 4 (some .int), Cond.methodLink RX8 140 yX8_ticks, Cond.instanceMethod yX8_ticks, Cond.selects RX8 yX8_ticks yX8_ticks, Cond.code yX8_ticks cX8_ticks 2 none, Cond.methodLink RX8 119 yX8_lays, Cond.instanceMethod yX8_lays]
def wsL_law_r21 : List Cond := [Cond.selects RX8 yX8_lays yX8_lays, Cond.code yX8_lays cX8_lays 4 none, Cond.methodLink RX8 109 yX8_goodOf, Cond.instanceMethod yX8_goodOf, Cond.selects RX8 yX8_goodOf yX8_goodOf, Cond.code yX8_goodOf cX8_goodOf 2 (some .int), Cond.methodLink RX8 112 yX8_way, Cond.static yX8_way, Cond.code yX8_way cX8_way 1 (some .int), Cond.methodLink RX8 122 yX8_counts, Cond.instanceMethod yX8_counts, Cond.selects RX8 yX8_counts yX8_counts, Cond.code yX8_counts cX8_counts 2 none, Cond.methodLink RX8 125 yX8_passesOn, Cond.instanceMethod yX8_passesOn, Cond.selects RX8 yX8_passesOn yX8_passesOn, Cond.code yX8_passesOn cX8_passesOn 3 none, Cond.methodLink RX8 128 yX8_notesStep, Cond.instanceMethod yX8_notesStep, Cond.selects RX8 yX8_notesStep yX8_notesStep, Cond.code yX8_notesStep cX8_notesStep 3 none, Cond.methodLink RL 49 yX7_undo, Cond.instanceMethod yX7_undo, Cond.selects RX7 yX7_undo yX7_undo]
def wsL_law_r22 : List Cond := [Cond.code yX7_undo cX7_undo 1 (some .int), Cond.fieldLink RX7 132 "TapCascade$Past" "size" "I", Cond.methodLink RX7 133 yX2_giveBack, Cond.instanceMethod yX2_giveBack, Cond.selects RX2 yX2_giveBack yX2_giveBack, Cond.code yX2_giveBack cX2_giveBack 2 none, Cond.methodLink RL 52 yX8_undo, Cond.instanceMethod yX8_undo, Cond.selects RX8 yX8_undo yX8_undo, Cond.code yX8_undo cX8_undo 2 (some .int), Cond.methodLink RL 53 yX7_stage, Cond.instanceMethod yX7_stage, Cond.selects RX7 yX7_stage yX7_stage, Cond.code yX7_stage cX7_stage 3 (some .int), Cond.methodLink RX7 136 yX4_valueOf, Cond.instanceMethod yX4_valueOf, Cond.selects RX4 yX4_valueOf yX4_valueOf, Cond.code yX4_valueOf cX4_valueOf 2 (some .int), Cond.methodLink RX4 75 yX4_canAsItWants, Cond.methodLink RL 56 yX8_stage, Cond.instanceMethod yX8_stage, Cond.selects RX8 yX8_stage yX8_stage, Cond.code yX8_stage cX8_stage 3 (some .int), Cond.methodLink RL 57 yX7_done]
def wsL_law_r23 : List Cond := [Cond.instanceMethod yX7_done, Cond.selects RX7 yX7_done yX7_done, Cond.code yX7_done cX7_done 3 (some .int), Cond.methodLink RX7 139 yX5_told, Cond.instanceMethod yX5_told, Cond.selects RX5 yX5_told yX5_told, Cond.code yX5_told cX5_told 1 (some .int), Cond.methodLink RX5 34 Lib.Math.min.name, Cond.methodLink RX7 142 yX5_valueOf, Cond.instanceMethod yX5_valueOf, Cond.selects RX5 yX5_valueOf yX5_valueOf, Cond.code yX5_valueOf cX5_valueOf 4 (some .int), Cond.methodLink RX5 40 yX5_told, Cond.methodLink RL 60 yX8_done, Cond.instanceMethod yX8_done, Cond.selects RX8 yX8_done yX8_done, Cond.code yX8_done cX8_done 3 (some .int), Cond.methodLink RL 61 yX7_settle, Cond.instanceMethod yX7_settle, Cond.selects RX7 yX7_settle yX7_settle, Cond.code yX7_settle cX7_settle 2 (some .int), Cond.fieldLink RX7 148 "TapCascade$Course" "quietBehind" "I", Cond.fieldLink RX7 151 "TapCascade$Course" "roundFrom" "I", Cond.fieldLink RX7 154 "TapCascade$Course" "roundTicks" "I"]
def wsL_law_r24 : List Cond := [Cond.fieldLink RX7 157 "TapCascade$Course" "roundSteps" "I", Cond.methodLink RX7 145 yX0_follow, Cond.instanceMethod yX0_follow, Cond.selects RX0 yX0_follow yX0_follow, Cond.code yX0_follow cX0_follow 4 none, Cond.fieldLink RX0 30 "TapCascade$Course" "quietBehind" "I", Cond.fieldLink RX0 34 "TapCascade$Course" "roundFrom" "I", Cond.fieldLink RX0 37 "TapCascade$Course" "roundTicks" "I", Cond.fieldLink RX0 40 "TapCascade$Course" "roundSteps" "I", Cond.fieldLink RX0 51 "TapCascade$Line" "log" "LTapCascade$StepLog;", Cond.fieldLink RX0 55 "TapCascade$StepLog" "total" "I", Cond.methodLink RX0 26 yX1_copyFrom, Cond.methodLink RX0 43 yX1_isQuiet, Cond.instanceMethod yX1_isQuiet, Cond.selects RX1 yX1_isQuiet yX1_isQuiet, Cond.code yX1_isQuiet cX1_isQuiet 2 (some .boolean), Cond.methodLink RX0 47 yX1_packed, Cond.instanceMethod yX1_packed, Cond.selects RX1 yX1_packed yX1_packed, Cond.code yX1_packed cX1_packed 5 (some .long), Cond.methodLink RX0 60 yX0_firstLike, Cond.instanceMethod yX0_firstLike, Cond.selects RX0 yX0_firstLike yX0_firstLike, Cond.code yX0_firstLike cX0_firstLike 3 (some .int)]
def wsL_law_r25 : List Cond := [Cond.methodLink RX0 64 yX1_runTick, Cond.methodLink RL 64 yX8_settle, Cond.instanceMethod yX8_settle, Cond.selects RX8 yX8_settle yX8_settle, Cond.code yX8_settle cX8_settle 2 (some .int), Cond.fieldLink RX8 145 "TapCascadeModel" "quietBehind" "I", Cond.fieldLink RX8 148 "TapCascadeModel" "roundFrom" "I", Cond.fieldLink RX8 151 "TapCascadeModel" "roundLong" "I", Cond.fieldLink RX8 154 "TapCascadeModel" "roundSteps" "I", Cond.methodLink RX8 165 yX8_settles, Cond.instanceMethod yX8_settles, Cond.selects RX8 yX8_settles yX8_settles, Cond.code yX8_settles cX8_settles 3 none, Cond.methodLink RX8 157 yX8_isQuiet, Cond.instanceMethod yX8_isQuiet, Cond.selects RX8 yX8_isQuiet yX8_isQuiet, Cond.code yX8_isQuiet cX8_isQuiet 3 (some .boolean), Cond.methodLink RX8 161 yX8_codeOf, Cond.instanceMethod yX8_codeOf, Cond.selects RX8 yX8_codeOf yX8_codeOf, Cond.code yX8_codeOf cX8_codeOf 4 (some .long), Cond.constantLong RX8 143 (1024), Cond.methodLink RL 65 yX7_best, Cond.instanceMethod yX7_best]
def wsL_law_r26 : List Cond := [Cond.selects RX7 yX7_best yX7_best, Cond.code yX7_best cX7_best 2 (some .int), Cond.fieldLink RX7 163 "TapCascade$Search" "leastOff" "I", Cond.fieldLink RX7 166 "TapCascade$Search" "bestTaps" "[I", Cond.methodLink RX7 160 yX3_start, Cond.instanceMethod yX3_start, Cond.selects RX3 yX3_start yX3_start, Cond.code yX3_start cX3_start 2 none, Cond.constant RX3 20 (2147483647), Cond.fieldLink RX3 21 "TapCascade$Search" "leastOff" "I", Cond.fieldLink RX3 25 "TapCascade$Line" "source" "I", Cond.methodLink RX3 30 yX3_tryTaps, Cond.static yX3_tryTaps, Cond.code yX3_tryTaps cX3_tryTaps 11 none, Cond.fieldLink RX3 34 "TapCascade$Line" "size" "I", Cond.methodLink RX3 37 arraycopyName, Cond.fieldLink RX3 43 "TapCascade$Line" "stages" "[LTapCascade$Stage;", Cond.fieldLink RX3 47 "TapCascade$Stage" "stuck" "Z", Cond.fieldLink RX3 53 "TapCascade$Stage" "tap" "I", Cond.fieldLink RX3 56 "TapCascade$Stage" "step" "I", Cond.fieldLink RX3 63 "TapCascade$Stage" "target" "I", Cond.methodLink RX3 66 Lib.Math.abs.name, Cond.static Lib.Math.abs.name, Cond.code Lib.Math.abs.name Lib.Math.abs.code 1 (some .int)]
def wsL_law_r27 : List Cond := [Cond.methodLink RX3 72 yX1_lostBehind, Cond.methodLink RL 68 yX8_best, Cond.instanceMethod yX8_best, Cond.selects RX8 yX8_best yX8_best, Cond.code yX8_best cX8_best 2 (some .int), Cond.fieldLink RX8 168 "TapCascadeModel" "bestOff" "I", Cond.methodLink RX8 177 yX8_findsBest, Cond.instanceMethod yX8_findsBest, Cond.selects RX8 yX8_findsBest yX8_findsBest, Cond.code yX8_findsBest cX8_findsBest 3 none, Cond.methodLink RX8 171 yX8_offOf, Cond.instanceMethod yX8_offOf, Cond.selects RX8 yX8_offOf yX8_offOf, Cond.code yX8_offOf cX8_offOf 4 (some .int), Cond.methodLink RX8 174 yX8_nextTaps, Cond.instanceMethod yX8_nextTaps, Cond.selects RX8 yX8_nextTaps yX8_nextTaps, Cond.code yX8_nextTaps cX8_nextTaps 2 (some .boolean), Cond.methodLink RL 69 yX7_ratio, Cond.instanceMethod yX7_ratio, Cond.selects RX7 yX7_ratio yX7_ratio, Cond.code yX7_ratio cX7_ratio 9 (some .long), Cond.constantLong RX7 170 (-1), Cond.constantLong RX7 175 (1000)]
def wsL_law_r28 : List Cond := [Cond.methodLink RX7 172 yX4_turned, Cond.methodLink RX7 177 yX7_greatestCommon, Cond.static yX7_greatestCommon, Cond.code yX7_greatestCommon cX7_greatestCommon 7 (some .long), Cond.methodLink RL 73 yX8_ratio, Cond.instanceMethod yX8_ratio, Cond.selects RX8 yX8_ratio yX8_ratio, Cond.code yX8_ratio cX8_ratio 13 (some .long), Cond.constantLong RX8 180 (-1), Cond.constantLong RX8 182 (1000), Cond.methodLink RL 74 yX7_graded, Cond.instanceMethod yX7_graded, Cond.selects RX7 yX7_graded yX7_graded, Cond.code yX7_graded cX7_graded 3 (some .int), Cond.fieldLink RX7 184 "TapCascade$Stage" "wait" "I", Cond.methodLink RX7 181 yX7_isGrade, Cond.static yX7_isGrade, Cond.code yX7_isGrade cX7_isGrade 1 (some .boolean), Cond.methodLink RL 77 yX8_graded, Cond.instanceMethod yX8_graded, Cond.selects RX8 yX8_graded yX8_graded, Cond.code yX8_graded cX8_graded 4 (some .int), Cond.methodLink RL 78 yX7_waits, Cond.instanceMethod yX7_waits]
def wsL_law_r29 : List Cond := [Cond.selects RX7 yX7_waits yX7_waits, Cond.code yX7_waits cX7_waits 5 (some .int), Cond.methodLink RX7 187 Lib.Math.max.name, Cond.static Lib.Math.max.name, Cond.code Lib.Math.max.name Lib.Math.max.code 2 (some .int), Cond.methodLink RL 81 yX8_waits, Cond.instanceMethod yX8_waits, Cond.selects RX8 yX8_waits yX8_waits, Cond.code yX8_waits cX8_waits 3 (some .int), Cond.methodLink RX8 184 yX8_waitOf, Cond.instanceMethod yX8_waitOf, Cond.selects RX8 yX8_waitOf yX8_waitOf, Cond.code yX8_waitOf cX8_waitOf 5 (some .int), Cond.methodLink RL 82 yX7_count, Cond.instanceMethod yX7_count, Cond.selects RX7 yX7_count yX7_count, Cond.code yX7_count cX7_count 2 (some .int), Cond.fieldLink RX7 192 "TapCascade$StepLog" "back" "I", Cond.methodLink RX7 195 yX1_goodStages, Cond.instanceMethod yX1_goodStages, Cond.selects RX1 yX1_goodStages yX1_goodStages, Cond.code yX1_goodStages cX1_goodStages 3 (some .int), Cond.methodLink RX1 128 yX4_judged, Cond.methodLink RX7 198 yX1_off]
def wsL_law_r30 : List Cond := [Cond.instanceMethod yX1_off, Cond.selects RX1 yX1_off yX1_off, Cond.code yX1_off cX1_off 3 (some .int), Cond.methodLink RX1 135 yX4_off, Cond.instanceMethod yX4_off, Cond.selects RX4 yX4_off yX4_off, Cond.code yX4_off cX4_off 1 (some .int), Cond.methodLink RX4 62 Lib.Math.abs.name, Cond.methodLink RX7 201 yX1_isQuiet, Cond.methodLink RX7 205 yX5_unlikeTold, Cond.instanceMethod yX5_unlikeTold, Cond.selects RX5 yX5_unlikeTold yX5_unlikeTold, Cond.code yX5_unlikeTold cX5_unlikeTold 3 (some .int), Cond.methodLink RX5 44 yJ6_bitCount_0f7a4, Cond.static yJ6_bitCount_0f7a4, Cond.initialized RJ6, Cond.code yJ6_bitCount_0f7a4 cJ6_bitCount_0f7a4 1 (some .int), Cond.constant RJ6 265 (1431655765), Cond.constant RJ6 266 (858993459), Cond.constant RJ6 267 (252645135), Cond.methodLink RL 85 yX8_count, Cond.instanceMethod yX8_count, Cond.selects RX8 yX8_count yX8_count, Cond.code yX8_count cX8_count 2 (some .int)]
def wsL_law_r31 : List Cond := [Cond.methodLink RX8 187 yX8_good, Cond.instanceMethod yX8_good, Cond.selects RX8 yX8_good yX8_good, Cond.code yX8_good cX8_good 3 (some .int), Cond.methodLink RX8 190 yX8_unlike, Cond.instanceMethod yX8_unlike, Cond.selects RX8 yX8_unlike yX8_unlike, Cond.code yX8_unlike cX8_unlike 5 (some .int)]
def wsL_law : List Cond := (wsL_law_r1 ++ (wsL_law_r2 ++ (wsL_law_r3 ++ (wsL_law_r4 ++ (wsL_law_r5 ++ (wsL_law_r6 ++ (wsL_law_r7 ++ (wsL_law_r8 ++ (wsL_law_r9 ++ (wsL_law_r10 ++ (wsL_law_r11 ++ (wsL_law_r12 ++ (wsL_law_r13 ++ (wsL_law_r14 ++ (wsL_law_r15 ++ (wsL_law_r16 ++ (wsL_law_r17 ++ (wsL_law_r18 ++ (wsL_law_r19 ++ (wsL_law_r20 ++ (wsL_law_r21 ++ (wsL_law_r22 ++ (wsL_law_r23 ++ (wsL_law_r24 ++ (wsL_law_r25 ++ (wsL_law_r26 ++ (wsL_law_r27 ++ (wsL_law_r28 ++ (wsL_law_r29 ++ (wsL_law_r30 ++ wsL_law_r31)))))))))))))))))))))))))))))) ++ wsX70 ++ wsX80 ++ wsX60 ++ wsX10 ++ wsX20 ++ wsX00 ++ wsX30 ++ wsX50 ++ wsX40 ++ ([] : List Cond)
set_option maxRecDepth 20000 in
theorem ggX0_init_X1_init : GoodIn wsX0_init wsX1_init := goodIn_r _ [14, 15, 2, 3, 16, 17, 18, 19, 20, 21, 22, 23, 24, 25, 26, 27, 28, 29, 10, 30, 31, 32, 33, 34, 35, 36, 37, 38, 39, 40, 41, 42, 50, 51, 52, 53, 54, 55, 56, 57, 58, 59, 60, 61, 62, 63, 64, 65, 66, 67, 68, 69] (by decide +kernel) (by decide +kernel)
set_option maxRecDepth 20000 in
theorem gX0_init_X1_init : GoodIn wsX0_init (wsX1_init) := ggX0_init_X1_init
abbrev vwCl : List vw_C := [(RX0, TX0, 7), (RX1, TX1, 6), (RX2, TX2, 3), (RX3, TX3, 3), (RX4, TX4, 15), (RX5, TX5, 5), (RX6, TX6, 4), (RX7, TX7, 6), (RX8, TX8, 24)]
end
section
theorem dX0_init_0 : decode cX0_init 0 = .ok (.aload_n 0, 1) := by decide +kernel
theorem dX0_init_1 : decode cX0_init 1 = .ok (.invokespecial 3, 3) := by decide +kernel
theorem dX0_init_4 : decode cX0_init 4 = .ok (.aload_n 0, 1) := by decide +kernel
theorem dX0_init_5 : decode cX0_init 5 = .ok (.new 9, 3) := by decide +kernel
theorem dX0_init_8 : decode cX0_init 8 = .ok (.dup, 1) := by decide +kernel
theorem dX0_init_9 : decode cX0_init 9 = .ok (.invokespecial 11, 3) := by decide +kernel
theorem dX0_init_12 : decode cX0_init 12 = .ok (.putfield 12, 3) := by decide +kernel
theorem dX0_init_15 : decode cX0_init 15 = .ok (.aload_n 0, 1) := by decide +kernel
theorem dX0_init_16 : decode cX0_init 16 = .ok (.sipush 301, 3) := by decide +kernel
theorem dX0_init_19 : decode cX0_init 19 = .ok (.newarray .long, 2) := by decide +kernel
theorem dX0_init_21 : decode cX0_init 21 = .ok (.putfield 18, 3) := by decide +kernel
theorem dX0_init_24 : decode cX0_init 24 = .ok (.aload_n 0, 1) := by decide +kernel
theorem dX0_init_25 : decode cX0_init 25 = .ok (.sipush 301, 3) := by decide +kernel
theorem dX0_init_28 : decode cX0_init 28 = .ok (.newarray .int, 2) := by decide +kernel
theorem dX0_init_30 : decode cX0_init 30 = .ok (.putfield 22, 3) := by decide +kernel
theorem dX0_init_33 : decode cX0_init 33 = .ok (.return_, 1) := by decide +kernel
set_option maxRecDepth 20000 in
theorem ggX0_follow_X1_copyFrom : GoodIn wsX0_follow wsX1_copyFrom := goodIn_r _ [14, 15, 16, 17, 18, 19, 20, 21, 22, 23, 24, 25, 26, 27, 28, 29, 30, 31, 32, 33, 34, 35, 36, 37, 38, 39, 40, 41, 42, 43, 44, 45, 46, 47, 48, 49, 50, 51, 52, 53, 140, 141, 142, 143, 144, 145, 151, 152, 153, 154, 155, 156, 157, 158, 159, 160, 161, 162, 163, 164, 165, 146, 147, 148, 149, 150] (by decide +kernel) (by decide +kernel)
set_option maxRecDepth 20000 in
theorem gX0_follow_X1_copyFrom : GoodIn wsX0_follow (wsV RX0 26 RX1 yX1_copyFrom wsX1_copyFrom) := goodIn_app (goodIn_of _ (by decide +kernel)) ggX0_follow_X1_copyFrom
set_option maxRecDepth 20000 in
theorem ggX0_follow_X1_isQuiet : GoodIn wsX0_follow wsX1_isQuiet := goodIn_r _ [57, 17, 15, 58, 59, 60, 23, 61, 36, 32, 62, 63, 64, 65, 37, 29, 66, 67, 68, 69, 39, 26, 27, 140, 141, 142, 143, 144, 145, 151, 152, 153, 154, 155, 156, 157, 158, 159, 160, 161, 162, 163, 164, 165] (by decide +kernel) (by decide +kernel)
set_option maxRecDepth 20000 in
theorem gX0_follow_X1_isQuiet : GoodIn wsX0_follow (wsV RX0 43 RX1 yX1_isQuiet wsX1_isQuiet) := goodIn_app (goodIn_of _ (by decide +kernel)) ggX0_follow_X1_isQuiet
set_option maxRecDepth 20000 in
theorem ggX0_follow_X1_packed : GoodIn wsX0_follow wsX1_packed := goodIn_r _ [73, 17, 15, 74, 75, 76, 140, 141, 142, 143, 144, 145, 151, 152, 153, 154, 155, 156, 157, 158, 159, 160, 161, 162, 163, 164, 165] (by decide +kernel) (by decide +kernel)
set_option maxRecDepth 20000 in
theorem gX0_follow_X1_packed : GoodIn wsX0_follow (wsV RX0 47 RX1 yX1_packed wsX1_packed) := goodIn_app (goodIn_of _ (by decide +kernel)) ggX0_follow_X1_packed
set_option maxRecDepth 20000 in
theorem ggX0_follow_X0_firstLike : GoodIn wsX0_follow wsX0_firstLike := goodIn_r _ [81, 6, 133, 134, 135, 136, 137, 138, 139] (by decide +kernel) (by decide +kernel)
set_option maxRecDepth 20000 in
theorem gX0_follow_X0_firstLike : GoodIn wsX0_follow (wsV RX0 60 RX0 yX0_firstLike wsX0_firstLike) := goodIn_app (goodIn_of _ (by decide +kernel)) ggX0_follow_X0_firstLike
set_option maxRecDepth 20000 in
theorem ggX0_follow_X1_runTick : GoodIn wsX0_follow wsX1_runTick := goodIn_r _ [85, 17, 15, 86, 75, 87, 19, 88, 89, 90, 23, 91, 33, 34, 62, 63, 64, 65, 37, 29, 66, 67, 68, 69, 39, 26, 27, 92, 93, 94, 13, 95, 58, 59, 60, 61, 36, 32, 96, 97, 98, 99, 100, 101, 102, 103, 104, 74, 16, 105, 106, 76, 107, 108, 109, 43, 110, 52, 45, 50, 51, 111, 112, 113, 114, 115, 116, 18, 117, 118, 119, 120, 121, 122, 25, 123, 124, 125, 126, 127, 128, 129, 130, 131, 132, 140, 141, 142, 143, 144, 145, 151, 152, 153, 154, 155, 156, 157, 158, 159, 160, 161, 162, 163, 164, 165, 146, 147, 148, 149, 150] (by decide +kernel) (by decide +kernel)
set_option maxRecDepth 20000 in
theorem gX0_follow_X1_runTick : GoodIn wsX0_follow (wsV RX0 64 RX1 yX1_runTick wsX1_runTick) := goodIn_app (goodIn_of _ (by decide +kernel)) ggX0_follow_X1_runTick
theorem dX0_follow_0 : decode cX0_follow 0 = .ok (.aload_n 0, 1) := by decide +kernel
theorem dX0_follow_1 : decode cX0_follow 1 = .ok (.getfield 12, 3) := by decide +kernel
theorem dX0_follow_4 : decode cX0_follow 4 = .ok (.aload_n 1, 1) := by decide +kernel
theorem dX0_follow_5 : decode cX0_follow 5 = .ok (.invokevirtual 26, 3) := by decide +kernel
theorem dX0_follow_8 : decode cX0_follow 8 = .ok (.aload_n 0, 1) := by decide +kernel
theorem dX0_follow_9 : decode cX0_follow 9 = .ok (.bipush (-4), 2) := by decide +kernel
theorem dX0_follow_11 : decode cX0_follow 11 = .ok (.putfield 30, 3) := by decide +kernel
theorem dX0_follow_14 : decode cX0_follow 14 = .ok (.aload_n 0, 1) := by decide +kernel
theorem dX0_follow_15 : decode cX0_follow 15 = .ok (.bipush (-4), 2) := by decide +kernel
theorem dX0_follow_17 : decode cX0_follow 17 = .ok (.putfield 34, 3) := by decide +kernel
theorem dX0_follow_20 : decode cX0_follow 20 = .ok (.aload_n 0, 1) := by decide +kernel
theorem dX0_follow_21 : decode cX0_follow 21 = .ok (.bipush (-4), 2) := by decide +kernel
theorem dX0_follow_23 : decode cX0_follow 23 = .ok (.putfield 37, 3) := by decide +kernel
theorem dX0_follow_26 : decode cX0_follow 26 = .ok (.aload_n 0, 1) := by decide +kernel
theorem dX0_follow_27 : decode cX0_follow 27 = .ok (.bipush (-4), 2) := by decide +kernel
theorem dX0_follow_29 : decode cX0_follow 29 = .ok (.putfield 40, 3) := by decide +kernel
theorem dX0_follow_32 : decode cX0_follow 32 = .ok (.iconst 0, 1) := by decide +kernel
theorem dX0_follow_33 : decode cX0_follow 33 = .ok (.istore_n 2, 1) := by decide +kernel
theorem dX0_follow_34 : decode cX0_follow 34 = .ok (.iload_n 2, 1) := by decide +kernel
theorem dX0_follow_35 : decode cX0_follow 35 = .ok (.sipush 300, 3) := by decide +kernel
theorem dX0_follow_38 : decode cX0_follow 38 = .ok (.if_icmp .gt 102, 3) := by decide +kernel
theorem dX0_follow_41 : decode cX0_follow 41 = .ok (.aload_n 0, 1) := by decide +kernel
theorem dX0_follow_42 : decode cX0_follow 42 = .ok (.getfield 12, 3) := by decide +kernel
theorem dX0_follow_45 : decode cX0_follow 45 = .ok (.invokevirtual 43, 3) := by decide +kernel
theorem dX0_follow_48 : decode cX0_follow 48 = .ok (.ifCond .eq 9, 3) := by decide +kernel
theorem dX0_follow_51 : decode cX0_follow 51 = .ok (.aload_n 0, 1) := by decide +kernel
theorem dX0_follow_52 : decode cX0_follow 52 = .ok (.iload_n 2, 1) := by decide +kernel
theorem dX0_follow_53 : decode cX0_follow 53 = .ok (.putfield 30, 3) := by decide +kernel
theorem dX0_follow_56 : decode cX0_follow 56 = .ok (.return_, 1) := by decide +kernel
theorem dX0_follow_57 : decode cX0_follow 57 = .ok (.aload_n 0, 1) := by decide +kernel
theorem dX0_follow_58 : decode cX0_follow 58 = .ok (.getfield 18, 3) := by decide +kernel
theorem dX0_follow_61 : decode cX0_follow 61 = .ok (.iload_n 2, 1) := by decide +kernel
theorem dX0_follow_62 : decode cX0_follow 62 = .ok (.aload_n 0, 1) := by decide +kernel
theorem dX0_follow_63 : decode cX0_follow 63 = .ok (.getfield 12, 3) := by decide +kernel
theorem dX0_follow_66 : decode cX0_follow 66 = .ok (.invokevirtual 47, 3) := by decide +kernel
theorem dX0_follow_69 : decode cX0_follow 69 = .ok (.lastore, 1) := by decide +kernel
theorem dX0_follow_70 : decode cX0_follow 70 = .ok (.aload_n 0, 1) := by decide +kernel
theorem dX0_follow_71 : decode cX0_follow 71 = .ok (.getfield 22, 3) := by decide +kernel
theorem dX0_follow_74 : decode cX0_follow 74 = .ok (.iload_n 2, 1) := by decide +kernel
theorem dX0_follow_75 : decode cX0_follow 75 = .ok (.aload_n 0, 1) := by decide +kernel
theorem dX0_follow_76 : decode cX0_follow 76 = .ok (.getfield 12, 3) := by decide +kernel
theorem dX0_follow_79 : decode cX0_follow 79 = .ok (.getfield 51, 3) := by decide +kernel
theorem dX0_follow_82 : decode cX0_follow 82 = .ok (.getfield 55, 3) := by decide +kernel
theorem dX0_follow_85 : decode cX0_follow 85 = .ok (.iastore, 1) := by decide +kernel
theorem dX0_follow_86 : decode cX0_follow 86 = .ok (.aload_n 0, 1) := by decide +kernel
theorem dX0_follow_87 : decode cX0_follow 87 = .ok (.iload_n 2, 1) := by decide +kernel
theorem dX0_follow_88 : decode cX0_follow 88 = .ok (.invokevirtual 60, 3) := by decide +kernel
theorem dX0_follow_91 : decode cX0_follow 91 = .ok (.istore_n 3, 1) := by decide +kernel
theorem dX0_follow_92 : decode cX0_follow 92 = .ok (.iload_n 3, 1) := by decide +kernel
theorem dX0_follow_93 : decode cX0_follow 93 = .ok (.iload_n 2, 1) := by decide +kernel
theorem dX0_follow_94 : decode cX0_follow 94 = .ok (.if_icmp .ge 33, 3) := by decide +kernel
theorem dX0_follow_97 : decode cX0_follow 97 = .ok (.aload_n 0, 1) := by decide +kernel
theorem dX0_follow_98 : decode cX0_follow 98 = .ok (.iload_n 3, 1) := by decide +kernel
theorem dX0_follow_99 : decode cX0_follow 99 = .ok (.putfield 34, 3) := by decide +kernel
theorem dX0_follow_102 : decode cX0_follow 102 = .ok (.aload_n 0, 1) := by decide +kernel
theorem dX0_follow_103 : decode cX0_follow 103 = .ok (.iload_n 2, 1) := by decide +kernel
theorem dX0_follow_104 : decode cX0_follow 104 = .ok (.iload_n 3, 1) := by decide +kernel
theorem dX0_follow_105 : decode cX0_follow 105 = .ok (.isub, 1) := by decide +kernel
theorem dX0_follow_106 : decode cX0_follow 106 = .ok (.putfield 37, 3) := by decide +kernel
theorem dX0_follow_109 : decode cX0_follow 109 = .ok (.aload_n 0, 1) := by decide +kernel
theorem dX0_follow_110 : decode cX0_follow 110 = .ok (.aload_n 0, 1) := by decide +kernel
theorem dX0_follow_111 : decode cX0_follow 111 = .ok (.getfield 22, 3) := by decide +kernel
theorem dX0_follow_114 : decode cX0_follow 114 = .ok (.iload_n 2, 1) := by decide +kernel
theorem dX0_follow_115 : decode cX0_follow 115 = .ok (.iaload, 1) := by decide +kernel
theorem dX0_follow_116 : decode cX0_follow 116 = .ok (.aload_n 0, 1) := by decide +kernel
theorem dX0_follow_117 : decode cX0_follow 117 = .ok (.getfield 22, 3) := by decide +kernel
theorem dX0_follow_120 : decode cX0_follow 120 = .ok (.iload_n 3, 1) := by decide +kernel
theorem dX0_follow_121 : decode cX0_follow 121 = .ok (.iaload, 1) := by decide +kernel
theorem dX0_follow_122 : decode cX0_follow 122 = .ok (.isub, 1) := by decide +kernel
theorem dX0_follow_123 : decode cX0_follow 123 = .ok (.putfield 40, 3) := by decide +kernel
theorem dX0_follow_126 : decode cX0_follow 126 = .ok (.return_, 1) := by decide +kernel
theorem dX0_follow_127 : decode cX0_follow 127 = .ok (.aload_n 0, 1) := by decide +kernel
theorem dX0_follow_128 : decode cX0_follow 128 = .ok (.getfield 12, 3) := by decide +kernel
theorem dX0_follow_131 : decode cX0_follow 131 = .ok (.invokevirtual 64, 3) := by decide +kernel
theorem dX0_follow_134 : decode cX0_follow 134 = .ok (.iinc 2 1, 3) := by decide +kernel
theorem dX0_follow_137 : decode cX0_follow 137 = .ok (.goto (-103), 3) := by decide +kernel
theorem dX0_follow_140 : decode cX0_follow 140 = .ok (.return_, 1) := by decide +kernel
theorem dX0_firstLike_0 : decode cX0_firstLike 0 = .ok (.iconst 0, 1) := by decide +kernel
theorem dX0_firstLike_1 : decode cX0_firstLike 1 = .ok (.istore_n 2, 1) := by decide +kernel
theorem dX0_firstLike_2 : decode cX0_firstLike 2 = .ok (.iload_n 2, 1) := by decide +kernel
theorem dX0_firstLike_3 : decode cX0_firstLike 3 = .ok (.iload_n 1, 1) := by decide +kernel
theorem dX0_firstLike_4 : decode cX0_firstLike 4 = .ok (.if_icmp .ge 27, 3) := by decide +kernel
theorem dX0_firstLike_7 : decode cX0_firstLike 7 = .ok (.aload_n 0, 1) := by decide +kernel
theorem dX0_firstLike_8 : decode cX0_firstLike 8 = .ok (.getfield 18, 3) := by decide +kernel
theorem dX0_firstLike_11 : decode cX0_firstLike 11 = .ok (.iload_n 2, 1) := by decide +kernel
theorem dX0_firstLike_12 : decode cX0_firstLike 12 = .ok (.laload, 1) := by decide +kernel
theorem dX0_firstLike_13 : decode cX0_firstLike 13 = .ok (.aload_n 0, 1) := by decide +kernel
theorem dX0_firstLike_14 : decode cX0_firstLike 14 = .ok (.getfield 18, 3) := by decide +kernel
theorem dX0_firstLike_17 : decode cX0_firstLike 17 = .ok (.iload_n 1, 1) := by decide +kernel
theorem dX0_firstLike_18 : decode cX0_firstLike 18 = .ok (.laload, 1) := by decide +kernel
theorem dX0_firstLike_19 : decode cX0_firstLike 19 = .ok (.lcmp, 1) := by decide +kernel
theorem dX0_firstLike_20 : decode cX0_firstLike 20 = .ok (.ifCond .ne 5, 3) := by decide +kernel
theorem dX0_firstLike_23 : decode cX0_firstLike 23 = .ok (.iload_n 2, 1) := by decide +kernel
theorem dX0_firstLike_24 : decode cX0_firstLike 24 = .ok (.ireturn, 1) := by decide +kernel
theorem dX0_firstLike_25 : decode cX0_firstLike 25 = .ok (.iinc 2 1, 3) := by decide +kernel
theorem dX0_firstLike_28 : decode cX0_firstLike 28 = .ok (.goto (-26), 3) := by decide +kernel
theorem dX0_firstLike_31 : decode cX0_firstLike 31 = .ok (.iload_n 1, 1) := by decide +kernel
theorem dX0_firstLike_32 : decode cX0_firstLike 32 = .ok (.ireturn, 1) := by decide +kernel
set_option maxRecDepth 20000 in
theorem ggX1_init_X5_init : GoodIn wsX1_init wsX5_init := goodIn_r _ [16, 17, 2, 3, 18, 19, 20, 21, 32, 33, 34, 35, 36] (by decide +kernel) (by decide +kernel)
set_option maxRecDepth 20000 in
theorem gX1_init_X5_init : GoodIn wsX1_init (wsX5_init) := ggX1_init_X5_init
set_option maxRecDepth 20000 in
theorem ggX1_init_X4_init : GoodIn wsX1_init wsX4_init := goodIn_r _ [24, 25, 2, 3] (by decide +kernel) (by decide +kernel)
set_option maxRecDepth 20000 in
theorem gX1_init_X4_init : GoodIn wsX1_init (wsX4_init) := ggX1_init_X4_init
theorem dX1_init_0 : decode cX1_init 0 = .ok (.aload_n 0, 1) := by decide +kernel
theorem dX1_init_1 : decode cX1_init 1 = .ok (.invokespecial 3, 3) := by decide +kernel
theorem dX1_init_4 : decode cX1_init 4 = .ok (.aload_n 0, 1) := by decide +kernel
theorem dX1_init_5 : decode cX1_init 5 = .ok (.iconst 4, 1) := by decide +kernel
theorem dX1_init_6 : decode cX1_init 6 = .ok (.anewarray 9, 3) := by decide +kernel
theorem dX1_init_9 : decode cX1_init 9 = .ok (.putfield 11, 3) := by decide +kernel
theorem dX1_init_12 : decode cX1_init 12 = .ok (.aload_n 0, 1) := by decide +kernel
theorem dX1_init_13 : decode cX1_init 13 = .ok (.iconst 4, 1) := by decide +kernel
theorem dX1_init_14 : decode cX1_init 14 = .ok (.newarray .boolean, 2) := by decide +kernel
theorem dX1_init_16 : decode cX1_init 16 = .ok (.putfield 17, 3) := by decide +kernel
theorem dX1_init_19 : decode cX1_init 19 = .ok (.aload_n 0, 1) := by decide +kernel
theorem dX1_init_20 : decode cX1_init 20 = .ok (.new 21, 3) := by decide +kernel
theorem dX1_init_23 : decode cX1_init 23 = .ok (.dup, 1) := by decide +kernel
theorem dX1_init_24 : decode cX1_init 24 = .ok (.invokespecial 23, 3) := by decide +kernel
theorem dX1_init_27 : decode cX1_init 27 = .ok (.putfield 24, 3) := by decide +kernel
theorem dX1_init_30 : decode cX1_init 30 = .ok (.iconst 0, 1) := by decide +kernel
theorem dX1_init_31 : decode cX1_init 31 = .ok (.istore_n 1, 1) := by decide +kernel
theorem dX1_init_32 : decode cX1_init 32 = .ok (.iload_n 1, 1) := by decide +kernel
theorem dX1_init_33 : decode cX1_init 33 = .ok (.iconst 4, 1) := by decide +kernel
theorem dX1_init_34 : decode cX1_init 34 = .ok (.if_icmp .ge 22, 3) := by decide +kernel
theorem dX1_init_37 : decode cX1_init 37 = .ok (.aload_n 0, 1) := by decide +kernel
theorem dX1_init_38 : decode cX1_init 38 = .ok (.getfield 11, 3) := by decide +kernel
theorem dX1_init_41 : decode cX1_init 41 = .ok (.iload_n 1, 1) := by decide +kernel
theorem dX1_init_42 : decode cX1_init 42 = .ok (.new 9, 3) := by decide +kernel
theorem dX1_init_45 : decode cX1_init 45 = .ok (.dup, 1) := by decide +kernel
theorem dX1_init_46 : decode cX1_init 46 = .ok (.invokespecial 28, 3) := by decide +kernel
theorem dX1_init_49 : decode cX1_init 49 = .ok (.aastore, 1) := by decide +kernel
theorem dX1_init_50 : decode cX1_init 50 = .ok (.iinc 1 1, 3) := by decide +kernel
theorem dX1_init_53 : decode cX1_init 53 = .ok (.goto (-21), 3) := by decide +kernel
theorem dX1_init_56 : decode cX1_init 56 = .ok (.return_, 1) := by decide +kernel
set_option maxRecDepth 20000 in
theorem ggX1_empty_X5_empty : GoodIn wsX1_empty wsX5_empty := goodIn_r _ [9, 10, 11, 18, 19, 20, 21, 22] (by decide +kernel) (by decide +kernel)
set_option maxRecDepth 20000 in
theorem gX1_empty_X5_empty : GoodIn wsX1_empty (wsV RX1 39 RX5 yX5_empty wsX5_empty) := goodIn_app (goodIn_of _ (by decide +kernel)) ggX1_empty_X5_empty
theorem dX1_empty_0 : decode cX1_empty 0 = .ok (.aload_n 0, 1) := by decide +kernel
theorem dX1_empty_1 : decode cX1_empty 1 = .ok (.iconst 0, 1) := by decide +kernel
theorem dX1_empty_2 : decode cX1_empty 2 = .ok (.putfield 29, 3) := by decide +kernel
theorem dX1_empty_5 : decode cX1_empty 5 = .ok (.aload_n 0, 1) := by decide +kernel
theorem dX1_empty_6 : decode cX1_empty 6 = .ok (.sipush 1000, 3) := by decide +kernel
theorem dX1_empty_9 : decode cX1_empty 9 = .ok (.putfield 33, 3) := by decide +kernel
theorem dX1_empty_12 : decode cX1_empty 12 = .ok (.aload_n 0, 1) := by decide +kernel
theorem dX1_empty_13 : decode cX1_empty 13 = .ok (.iconst 0, 1) := by decide +kernel
theorem dX1_empty_14 : decode cX1_empty 14 = .ok (.putfield 36, 3) := by decide +kernel
theorem dX1_empty_17 : decode cX1_empty 17 = .ok (.aload_n 0, 1) := by decide +kernel
theorem dX1_empty_18 : decode cX1_empty 18 = .ok (.getfield 24, 3) := by decide +kernel
theorem dX1_empty_21 : decode cX1_empty 21 = .ok (.invokevirtual 39, 3) := by decide +kernel
theorem dX1_empty_24 : decode cX1_empty 24 = .ok (.return_, 1) := by decide +kernel
set_option maxRecDepth 20000 in
theorem ggX1_copyFrom_X4_copyFrom : GoodIn wsX1_copyFrom wsX4_copyFrom := goodIn_r _ [10, 11, 12, 13, 14, 15, 16, 17, 18, 19, 20, 21, 22, 23, 24, 25, 46, 47, 48, 49, 50, 51, 52, 53, 54, 55, 56, 57, 58, 59, 60] (by decide +kernel) (by decide +kernel)
set_option maxRecDepth 20000 in
theorem gX1_copyFrom_X4_copyFrom : GoodIn wsX1_copyFrom (wsV RX1 42 RX4 yX4_copyFrom wsX4_copyFrom) := goodIn_app (goodIn_of _ (by decide +kernel)) ggX1_copyFrom_X4_copyFrom
set_option maxRecDepth 20000 in
theorem ggX1_copyFrom_X5_copyFrom : GoodIn wsX1_copyFrom wsX5_copyFrom := goodIn_r _ [30, 31, 32, 33, 34, 35, 36, 37, 38, 39, 61, 62, 63, 64, 65] (by decide +kernel) (by decide +kernel)
set_option maxRecDepth 20000 in
theorem gX1_copyFrom_X5_copyFrom : GoodIn wsX1_copyFrom (wsV RX1 46 RX5 yX5_copyFrom wsX5_copyFrom) := goodIn_app (goodIn_of _ (by decide +kernel)) ggX1_copyFrom_X5_copyFrom
theorem dX1_copyFrom_0 : decode cX1_copyFrom 0 = .ok (.iconst 0, 1) := by decide +kernel
theorem dX1_copyFrom_1 : decode cX1_copyFrom 1 = .ok (.istore_n 2, 1) := by decide +kernel
theorem dX1_copyFrom_2 : decode cX1_copyFrom 2 = .ok (.iload_n 2, 1) := by decide +kernel
theorem dX1_copyFrom_3 : decode cX1_copyFrom 3 = .ok (.iconst 4, 1) := by decide +kernel
theorem dX1_copyFrom_4 : decode cX1_copyFrom 4 = .ok (.if_icmp .ge 24, 3) := by decide +kernel
theorem dX1_copyFrom_7 : decode cX1_copyFrom 7 = .ok (.aload_n 0, 1) := by decide +kernel
theorem dX1_copyFrom_8 : decode cX1_copyFrom 8 = .ok (.getfield 11, 3) := by decide +kernel
theorem dX1_copyFrom_11 : decode cX1_copyFrom 11 = .ok (.iload_n 2, 1) := by decide +kernel
theorem dX1_copyFrom_12 : decode cX1_copyFrom 12 = .ok (.aaload, 1) := by decide +kernel
theorem dX1_copyFrom_13 : decode cX1_copyFrom 13 = .ok (.aload_n 1, 1) := by decide +kernel
theorem dX1_copyFrom_14 : decode cX1_copyFrom 14 = .ok (.getfield 11, 3) := by decide +kernel
theorem dX1_copyFrom_17 : decode cX1_copyFrom 17 = .ok (.iload_n 2, 1) := by decide +kernel
theorem dX1_copyFrom_18 : decode cX1_copyFrom 18 = .ok (.aaload, 1) := by decide +kernel
theorem dX1_copyFrom_19 : decode cX1_copyFrom 19 = .ok (.invokevirtual 42, 3) := by decide +kernel
theorem dX1_copyFrom_22 : decode cX1_copyFrom 22 = .ok (.iinc 2 1, 3) := by decide +kernel
theorem dX1_copyFrom_25 : decode cX1_copyFrom 25 = .ok (.goto (-23), 3) := by decide +kernel
theorem dX1_copyFrom_28 : decode cX1_copyFrom 28 = .ok (.aload_n 0, 1) := by decide +kernel
theorem dX1_copyFrom_29 : decode cX1_copyFrom 29 = .ok (.getfield 24, 3) := by decide +kernel
theorem dX1_copyFrom_32 : decode cX1_copyFrom 32 = .ok (.aload_n 1, 1) := by decide +kernel
theorem dX1_copyFrom_33 : decode cX1_copyFrom 33 = .ok (.getfield 24, 3) := by decide +kernel
theorem dX1_copyFrom_36 : decode cX1_copyFrom 36 = .ok (.invokevirtual 46, 3) := by decide +kernel
theorem dX1_copyFrom_39 : decode cX1_copyFrom 39 = .ok (.aload_n 0, 1) := by decide +kernel
theorem dX1_copyFrom_40 : decode cX1_copyFrom 40 = .ok (.aload_n 1, 1) := by decide +kernel
theorem dX1_copyFrom_41 : decode cX1_copyFrom 41 = .ok (.getfield 29, 3) := by decide +kernel
theorem dX1_copyFrom_44 : decode cX1_copyFrom 44 = .ok (.putfield 29, 3) := by decide +kernel
theorem dX1_copyFrom_47 : decode cX1_copyFrom 47 = .ok (.aload_n 0, 1) := by decide +kernel
theorem dX1_copyFrom_48 : decode cX1_copyFrom 48 = .ok (.aload_n 1, 1) := by decide +kernel
theorem dX1_copyFrom_49 : decode cX1_copyFrom 49 = .ok (.getfield 33, 3) := by decide +kernel
theorem dX1_copyFrom_52 : decode cX1_copyFrom 52 = .ok (.putfield 33, 3) := by decide +kernel
theorem dX1_copyFrom_55 : decode cX1_copyFrom 55 = .ok (.aload_n 0, 1) := by decide +kernel
theorem dX1_copyFrom_56 : decode cX1_copyFrom 56 = .ok (.aload_n 1, 1) := by decide +kernel
theorem dX1_copyFrom_57 : decode cX1_copyFrom 57 = .ok (.getfield 36, 3) := by decide +kernel
theorem dX1_copyFrom_60 : decode cX1_copyFrom 60 = .ok (.putfield 36, 3) := by decide +kernel
theorem dX1_copyFrom_63 : decode cX1_copyFrom 63 = .ok (.return_, 1) := by decide +kernel
theorem dX1_has_0 : decode cX1_has 0 = .ok (.iload_n 1, 1) := by decide +kernel
theorem dX1_has_1 : decode cX1_has 1 = .ok (.ifCond .lt 15, 3) := by decide +kernel
theorem dX1_has_4 : decode cX1_has 4 = .ok (.iload_n 1, 1) := by decide +kernel
theorem dX1_has_5 : decode cX1_has 5 = .ok (.aload_n 0, 1) := by decide +kernel
theorem dX1_has_6 : decode cX1_has 6 = .ok (.getfield 29, 3) := by decide +kernel
theorem dX1_has_9 : decode cX1_has 9 = .ok (.if_icmp .ge 7, 3) := by decide +kernel
theorem dX1_has_12 : decode cX1_has 12 = .ok (.iconst 1, 1) := by decide +kernel
theorem dX1_has_13 : decode cX1_has 13 = .ok (.goto 4, 3) := by decide +kernel
theorem dX1_has_16 : decode cX1_has 16 = .ok (.iconst 0, 1) := by decide +kernel
theorem dX1_has_17 : decode cX1_has 17 = .ok (.ireturn, 1) := by decide +kernel
set_option maxRecDepth 20000 in
theorem ggX1_addStage_X4_layDown : GoodIn wsX1_addStage wsX4_layDown := goodIn_r _ [7, 8, 9, 10, 11, 12, 13, 14, 15, 16, 17, 18, 19, 26, 27, 28, 29, 30, 31, 32, 33, 34, 35, 36, 37, 38, 39, 40] (by decide +kernel) (by decide +kernel)
set_option maxRecDepth 20000 in
theorem gX1_addStage_X4_layDown : GoodIn wsX1_addStage (wsV RX1 49 RX4 yX4_layDown wsX4_layDown) := goodIn_app (goodIn_of _ (by decide +kernel)) ggX1_addStage_X4_layDown
theorem dX1_addStage_0 : decode cX1_addStage 0 = .ok (.aload_n 0, 1) := by decide +kernel
theorem dX1_addStage_1 : decode cX1_addStage 1 = .ok (.getfield 29, 3) := by decide +kernel
theorem dX1_addStage_4 : decode cX1_addStage 4 = .ok (.iconst 4, 1) := by decide +kernel
theorem dX1_addStage_5 : decode cX1_addStage 5 = .ok (.if_icmp .lt 5, 3) := by decide +kernel
theorem dX1_addStage_8 : decode cX1_addStage 8 = .ok (.iconst 0, 1) := by decide +kernel
theorem dX1_addStage_9 : decode cX1_addStage 9 = .ok (.ireturn, 1) := by decide +kernel
theorem dX1_addStage_10 : decode cX1_addStage 10 = .ok (.aload_n 0, 1) := by decide +kernel
theorem dX1_addStage_11 : decode cX1_addStage 11 = .ok (.getfield 11, 3) := by decide +kernel
theorem dX1_addStage_14 : decode cX1_addStage 14 = .ok (.aload_n 0, 1) := by decide +kernel
theorem dX1_addStage_15 : decode cX1_addStage 15 = .ok (.getfield 29, 3) := by decide +kernel
theorem dX1_addStage_18 : decode cX1_addStage 18 = .ok (.aaload, 1) := by decide +kernel
theorem dX1_addStage_19 : decode cX1_addStage 19 = .ok (.aload_n 1, 1) := by decide +kernel
theorem dX1_addStage_20 : decode cX1_addStage 20 = .ok (.invokevirtual 49, 3) := by decide +kernel
theorem dX1_addStage_23 : decode cX1_addStage 23 = .ok (.aload_n 0, 1) := by decide +kernel
theorem dX1_addStage_24 : decode cX1_addStage 24 = .ok (.dup, 1) := by decide +kernel
theorem dX1_addStage_25 : decode cX1_addStage 25 = .ok (.getfield 29, 3) := by decide +kernel
theorem dX1_addStage_28 : decode cX1_addStage 28 = .ok (.iconst 1, 1) := by decide +kernel
theorem dX1_addStage_29 : decode cX1_addStage 29 = .ok (.iadd, 1) := by decide +kernel
theorem dX1_addStage_30 : decode cX1_addStage 30 = .ok (.putfield 29, 3) := by decide +kernel
theorem dX1_addStage_33 : decode cX1_addStage 33 = .ok (.iconst 1, 1) := by decide +kernel
theorem dX1_addStage_34 : decode cX1_addStage 34 = .ok (.ireturn, 1) := by decide +kernel
set_option maxRecDepth 20000 in
theorem ggX1_reckon_X4_turned : GoodIn wsX1_reckon wsX4_turned := goodIn_r _ [12, 13, 14, 32, 33, 34, 35, 36, 37, 38, 39, 40, 41, 42, 43, 44, 45, 46] (by decide +kernel) (by decide +kernel)
set_option maxRecDepth 20000 in
theorem gX1_reckon_X4_turned : GoodIn wsX1_reckon (wsV RX1 62 RX4 yX4_turned wsX4_turned) := goodIn_app (goodIn_of _ (by decide +kernel)) ggX1_reckon_X4_turned
set_option maxRecDepth 20000 in
theorem ggX1_reckon_X7_outOf : GoodIn wsX1_reckon wsX7_outOf := goodIn_r _ [17] (by decide +kernel) (by decide +kernel)
set_option maxRecDepth 20000 in
theorem gX1_reckon_X7_outOf_n66 : GoodIn wsX1_reckon (wsX7_outOf) := ggX1_reckon_X7_outOf
set_option maxRecDepth 20000 in
theorem ggX1_reckon_X1_lostBehind : GoodIn wsX1_reckon wsX1_lostBehind := goodIn_r _ [22, 1, 2, 23, 4, 24, 16, 25, 26, 27, 28, 29, 30, 31, 32, 33, 34, 35, 36, 37, 38, 39, 40, 41, 42, 43, 44, 45, 46] (by decide +kernel) (by decide +kernel)
set_option maxRecDepth 20000 in
theorem gX1_reckon_X1_lostBehind : GoodIn wsX1_reckon (wsV RX1 73 RX1 yX1_lostBehind wsX1_lostBehind) := goodIn_app (goodIn_of _ (by decide +kernel)) ggX1_reckon_X1_lostBehind
theorem dX1_reckon_0 : decode cX1_reckon 0 = .ok (.iconst 0, 1) := by decide +kernel
theorem dX1_reckon_1 : decode cX1_reckon 1 = .ok (.istore_n 1, 1) := by decide +kernel
theorem dX1_reckon_2 : decode cX1_reckon 2 = .ok (.aload_n 0, 1) := by decide +kernel
theorem dX1_reckon_3 : decode cX1_reckon 3 = .ok (.getfield 29, 3) := by decide +kernel
theorem dX1_reckon_6 : decode cX1_reckon 6 = .ok (.iconst 1, 1) := by decide +kernel
theorem dX1_reckon_7 : decode cX1_reckon 7 = .ok (.isub, 1) := by decide +kernel
theorem dX1_reckon_8 : decode cX1_reckon 8 = .ok (.istore_n 2, 1) := by decide +kernel
theorem dX1_reckon_9 : decode cX1_reckon 9 = .ok (.iload_n 2, 1) := by decide +kernel
theorem dX1_reckon_10 : decode cX1_reckon 10 = .ok (.ifCond .lt 31, 3) := by decide +kernel
theorem dX1_reckon_13 : decode cX1_reckon 13 = .ok (.iload_n 1, 1) := by decide +kernel
theorem dX1_reckon_14 : decode cX1_reckon 14 = .ok (.aload_n 0, 1) := by decide +kernel
theorem dX1_reckon_15 : decode cX1_reckon 15 = .ok (.getfield 11, 3) := by decide +kernel
theorem dX1_reckon_18 : decode cX1_reckon 18 = .ok (.iload_n 2, 1) := by decide +kernel
theorem dX1_reckon_19 : decode cX1_reckon 19 = .ok (.aaload, 1) := by decide +kernel
theorem dX1_reckon_20 : decode cX1_reckon 20 = .ok (.getfield 53, 3) := by decide +kernel
theorem dX1_reckon_23 : decode cX1_reckon 23 = .ok (.iadd, 1) := by decide +kernel
theorem dX1_reckon_24 : decode cX1_reckon 24 = .ok (.istore_n 1, 1) := by decide +kernel
theorem dX1_reckon_25 : decode cX1_reckon 25 = .ok (.aload_n 0, 1) := by decide +kernel
theorem dX1_reckon_26 : decode cX1_reckon 26 = .ok (.getfield 11, 3) := by decide +kernel
theorem dX1_reckon_29 : decode cX1_reckon 29 = .ok (.iload_n 2, 1) := by decide +kernel
theorem dX1_reckon_30 : decode cX1_reckon 30 = .ok (.aaload, 1) := by decide +kernel
theorem dX1_reckon_31 : decode cX1_reckon 31 = .ok (.iload_n 1, 1) := by decide +kernel
theorem dX1_reckon_32 : decode cX1_reckon 32 = .ok (.putfield 56, 3) := by decide +kernel
theorem dX1_reckon_35 : decode cX1_reckon 35 = .ok (.iinc 2 (-1), 3) := by decide +kernel
theorem dX1_reckon_38 : decode cX1_reckon 38 = .ok (.goto (-29), 3) := by decide +kernel
theorem dX1_reckon_41 : decode cX1_reckon 41 = .ok (.aload_n 0, 1) := by decide +kernel
theorem dX1_reckon_42 : decode cX1_reckon 42 = .ok (.getfield 33, 3) := by decide +kernel
theorem dX1_reckon_45 : decode cX1_reckon 45 = .ok (.istore_n 2, 1) := by decide +kernel
theorem dX1_reckon_46 : decode cX1_reckon 46 = .ok (.iconst 0, 1) := by decide +kernel
theorem dX1_reckon_47 : decode cX1_reckon 47 = .ok (.istore_n 3, 1) := by decide +kernel
theorem dX1_reckon_48 : decode cX1_reckon 48 = .ok (.iload_n 3, 1) := by decide +kernel
theorem dX1_reckon_49 : decode cX1_reckon 49 = .ok (.aload_n 0, 1) := by decide +kernel
theorem dX1_reckon_50 : decode cX1_reckon 50 = .ok (.getfield 29, 3) := by decide +kernel
theorem dX1_reckon_53 : decode cX1_reckon 53 = .ok (.if_icmp .ge 49, 3) := by decide +kernel
theorem dX1_reckon_56 : decode cX1_reckon 56 = .ok (.aload_n 0, 1) := by decide +kernel
theorem dX1_reckon_57 : decode cX1_reckon 57 = .ok (.getfield 11, 3) := by decide +kernel
theorem dX1_reckon_60 : decode cX1_reckon 60 = .ok (.iload_n 3, 1) := by decide +kernel
theorem dX1_reckon_61 : decode cX1_reckon 61 = .ok (.aaload, 1) := by decide +kernel
theorem dX1_reckon_62 : decode cX1_reckon 62 = .ok (.astore 4, 2) := by decide +kernel
theorem dX1_reckon_64 : decode cX1_reckon 64 = .ok (.aload 4, 2) := by decide +kernel
theorem dX1_reckon_66 : decode cX1_reckon 66 = .ok (.iload_n 2, 1) := by decide +kernel
theorem dX1_reckon_67 : decode cX1_reckon 67 = .ok (.putfield 59, 3) := by decide +kernel
theorem dX1_reckon_70 : decode cX1_reckon 70 = .ok (.aload 4, 2) := by decide +kernel
theorem dX1_reckon_72 : decode cX1_reckon 72 = .ok (.iload_n 2, 1) := by decide +kernel
theorem dX1_reckon_73 : decode cX1_reckon 73 = .ok (.aload 4, 2) := by decide +kernel
theorem dX1_reckon_75 : decode cX1_reckon 75 = .ok (.invokevirtual 62, 3) := by decide +kernel
theorem dX1_reckon_78 : decode cX1_reckon 78 = .ok (.invokestatic 66, 3) := by decide +kernel
theorem dX1_reckon_81 : decode cX1_reckon 81 = .ok (.putfield 70, 3) := by decide +kernel
theorem dX1_reckon_84 : decode cX1_reckon 84 = .ok (.aload 4, 2) := by decide +kernel
theorem dX1_reckon_86 : decode cX1_reckon 86 = .ok (.getfield 70, 3) := by decide +kernel
theorem dX1_reckon_89 : decode cX1_reckon 89 = .ok (.aload_n 0, 1) := by decide +kernel
theorem dX1_reckon_90 : decode cX1_reckon 90 = .ok (.iload_n 3, 1) := by decide +kernel
theorem dX1_reckon_91 : decode cX1_reckon 91 = .ok (.invokevirtual 73, 3) := by decide +kernel
theorem dX1_reckon_94 : decode cX1_reckon 94 = .ok (.isub, 1) := by decide +kernel
theorem dX1_reckon_95 : decode cX1_reckon 95 = .ok (.istore_n 2, 1) := by decide +kernel
theorem dX1_reckon_96 : decode cX1_reckon 96 = .ok (.iinc 3 1, 3) := by decide +kernel
theorem dX1_reckon_99 : decode cX1_reckon 99 = .ok (.goto (-51), 3) := by decide +kernel
theorem dX1_reckon_102 : decode cX1_reckon 102 = .ok (.return_, 1) := by decide +kernel
set_option maxRecDepth 20000 in
theorem ggX1_lostBehind_X7_lostBetween : GoodIn wsX1_lostBehind wsX7_lostBetween := goodIn_r _ [7] (by decide +kernel) (by decide +kernel)
set_option maxRecDepth 20000 in
theorem gX1_lostBehind_X7_lostBetween_n80 : GoodIn wsX1_lostBehind (wsX7_lostBetween) := ggX1_lostBehind_X7_lostBetween
theorem dX1_lostBehind_0 : decode cX1_lostBehind 0 = .ok (.iload_n 1, 1) := by decide +kernel
theorem dX1_lostBehind_1 : decode cX1_lostBehind 1 = .ok (.iconst 1, 1) := by decide +kernel
theorem dX1_lostBehind_2 : decode cX1_lostBehind 2 = .ok (.iadd, 1) := by decide +kernel
theorem dX1_lostBehind_3 : decode cX1_lostBehind 3 = .ok (.aload_n 0, 1) := by decide +kernel
theorem dX1_lostBehind_4 : decode cX1_lostBehind 4 = .ok (.getfield 29, 3) := by decide +kernel
theorem dX1_lostBehind_7 : decode cX1_lostBehind 7 = .ok (.if_icmp .ge 29, 3) := by decide +kernel
theorem dX1_lostBehind_10 : decode cX1_lostBehind 10 = .ok (.aload_n 0, 1) := by decide +kernel
theorem dX1_lostBehind_11 : decode cX1_lostBehind 11 = .ok (.getfield 11, 3) := by decide +kernel
theorem dX1_lostBehind_14 : decode cX1_lostBehind 14 = .ok (.iload_n 1, 1) := by decide +kernel
theorem dX1_lostBehind_15 : decode cX1_lostBehind 15 = .ok (.aaload, 1) := by decide +kernel
theorem dX1_lostBehind_16 : decode cX1_lostBehind 16 = .ok (.getfield 77, 3) := by decide +kernel
theorem dX1_lostBehind_19 : decode cX1_lostBehind 19 = .ok (.aload_n 0, 1) := by decide +kernel
theorem dX1_lostBehind_20 : decode cX1_lostBehind 20 = .ok (.getfield 11, 3) := by decide +kernel
theorem dX1_lostBehind_23 : decode cX1_lostBehind 23 = .ok (.iload_n 1, 1) := by decide +kernel
theorem dX1_lostBehind_24 : decode cX1_lostBehind 24 = .ok (.iconst 1, 1) := by decide +kernel
theorem dX1_lostBehind_25 : decode cX1_lostBehind 25 = .ok (.iadd, 1) := by decide +kernel
theorem dX1_lostBehind_26 : decode cX1_lostBehind 26 = .ok (.aaload, 1) := by decide +kernel
theorem dX1_lostBehind_27 : decode cX1_lostBehind 27 = .ok (.getfield 56, 3) := by decide +kernel
theorem dX1_lostBehind_30 : decode cX1_lostBehind 30 = .ok (.invokestatic 80, 3) := by decide +kernel
theorem dX1_lostBehind_33 : decode cX1_lostBehind 33 = .ok (.goto 4, 3) := by decide +kernel
theorem dX1_lostBehind_36 : decode cX1_lostBehind 36 = .ok (.iconst 0, 1) := by decide +kernel
theorem dX1_lostBehind_37 : decode cX1_lostBehind 37 = .ok (.ireturn, 1) := by decide +kernel
set_option maxRecDepth 20000 in
theorem ggX1_runTick_X4_countOn : GoodIn wsX1_runTick wsX4_countOn := goodIn_r _ [11, 12, 13, 14, 15, 16, 10, 17, 18, 19, 20, 21, 22, 23, 24, 25, 26, 91, 92, 93, 94, 95, 96, 97, 98, 99, 100, 101, 102, 103, 104, 105] (by decide +kernel) (by decide +kernel)
set_option maxRecDepth 20000 in
theorem gX1_runTick_X4_countOn : GoodIn wsX1_runTick (wsV RX1 83 RX4 yX4_countOn wsX4_countOn) := goodIn_app (goodIn_of _ (by decide +kernel)) ggX1_runTick_X4_countOn
set_option maxRecDepth 20000 in
theorem ggX1_runTick_X1_passCallsOn : GoodIn wsX1_runTick wsX1_passCallsOn := goodIn_r _ [31, 1, 3, 2, 32, 33, 34, 10, 35, 36, 37, 14, 15, 16, 17, 18, 19, 20, 21, 22, 23, 24, 25, 26, 38, 39, 40, 30, 41, 42, 85, 86, 87, 88, 89, 90, 91, 92, 93, 94, 95, 96, 97, 98, 99, 100, 101, 102, 103, 104, 105] (by decide +kernel) (by decide +kernel)
set_option maxRecDepth 20000 in
theorem gX1_runTick_X1_passCallsOn : GoodIn wsX1_runTick (wsV RX1 92 RX1 yX1_passCallsOn wsX1_passCallsOn) := goodIn_app (goodIn_of _ (by decide +kernel)) ggX1_runTick_X1_passCallsOn
set_option maxRecDepth 20000 in
theorem ggX1_runTick_X1_heedCall : GoodIn wsX1_runTick wsX1_heedCall := goodIn_r _ [46, 2, 47, 48, 6, 49, 50, 4, 51, 32, 33, 34, 10, 35, 36, 37, 14, 15, 16, 17, 18, 19, 20, 21, 22, 23, 24, 25, 26, 42, 52, 53, 54, 55, 56, 57, 58, 59, 60, 85, 86, 87, 88, 89, 90, 91, 92, 93, 94, 95, 96, 97, 98, 99, 100, 101, 102, 103, 104, 105, 106, 107, 108, 109, 110] (by decide +kernel) (by decide +kernel)
set_option maxRecDepth 20000 in
theorem gX1_runTick_X1_heedCall : GoodIn wsX1_runTick (wsV RX1 95 RX1 yX1_heedCall wsX1_heedCall) := goodIn_app (goodIn_of _ (by decide +kernel)) ggX1_runTick_X1_heedCall
set_option maxRecDepth 20000 in
theorem ggX1_runTick_X1_reckon : GoodIn wsX1_runTick wsX1_reckon := goodIn_r _ [64, 1, 2, 65, 66, 67, 68, 69, 70, 71, 72, 10, 73, 37, 74, 75, 76, 77, 78, 79, 80, 30, 81, 82, 83, 84, 85, 86, 87, 88, 89, 90, 91, 92, 93, 94, 95, 96, 97, 98, 99, 100, 101, 102, 103, 104, 105] (by decide +kernel) (by decide +kernel)
set_option maxRecDepth 20000 in
theorem gX1_runTick_X1_reckon : GoodIn wsX1_runTick (wsV RX1 99 RX1 yX1_reckon wsX1_reckon) := goodIn_app (goodIn_of _ (by decide +kernel)) ggX1_runTick_X1_reckon
theorem dX1_runTick_0 : decode cX1_runTick 0 = .ok (.iconst 0, 1) := by decide +kernel
theorem dX1_runTick_1 : decode cX1_runTick 1 = .ok (.istore_n 1, 1) := by decide +kernel
theorem dX1_runTick_2 : decode cX1_runTick 2 = .ok (.iload_n 1, 1) := by decide +kernel
theorem dX1_runTick_3 : decode cX1_runTick 3 = .ok (.aload_n 0, 1) := by decide +kernel
theorem dX1_runTick_4 : decode cX1_runTick 4 = .ok (.getfield 29, 3) := by decide +kernel
theorem dX1_runTick_7 : decode cX1_runTick 7 = .ok (.if_icmp .ge 50, 3) := by decide +kernel
theorem dX1_runTick_10 : decode cX1_runTick 10 = .ok (.aload_n 0, 1) := by decide +kernel
theorem dX1_runTick_11 : decode cX1_runTick 11 = .ok (.getfield 11, 3) := by decide +kernel
theorem dX1_runTick_14 : decode cX1_runTick 14 = .ok (.iload_n 1, 1) := by decide +kernel
theorem dX1_runTick_15 : decode cX1_runTick 15 = .ok (.aaload, 1) := by decide +kernel
theorem dX1_runTick_16 : decode cX1_runTick 16 = .ok (.invokevirtual 83, 3) := by decide +kernel
theorem dX1_runTick_19 : decode cX1_runTick 19 = .ok (.aload_n 0, 1) := by decide +kernel
theorem dX1_runTick_20 : decode cX1_runTick 20 = .ok (.getfield 17, 3) := by decide +kernel
theorem dX1_runTick_23 : decode cX1_runTick 23 = .ok (.iload_n 1, 1) := by decide +kernel
theorem dX1_runTick_24 : decode cX1_runTick 24 = .ok (.aload_n 0, 1) := by decide +kernel
theorem dX1_runTick_25 : decode cX1_runTick 25 = .ok (.getfield 11, 3) := by decide +kernel
theorem dX1_runTick_28 : decode cX1_runTick 28 = .ok (.iload_n 1, 1) := by decide +kernel
theorem dX1_runTick_29 : decode cX1_runTick 29 = .ok (.aaload, 1) := by decide +kernel
theorem dX1_runTick_30 : decode cX1_runTick 30 = .ok (.getfield 86, 3) := by decide +kernel
theorem dX1_runTick_33 : decode cX1_runTick 33 = .ok (.aload_n 0, 1) := by decide +kernel
theorem dX1_runTick_34 : decode cX1_runTick 34 = .ok (.getfield 11, 3) := by decide +kernel
theorem dX1_runTick_37 : decode cX1_runTick 37 = .ok (.iload_n 1, 1) := by decide +kernel
theorem dX1_runTick_38 : decode cX1_runTick 38 = .ok (.aaload, 1) := by decide +kernel
theorem dX1_runTick_39 : decode cX1_runTick 39 = .ok (.getfield 89, 3) := by decide +kernel
theorem dX1_runTick_42 : decode cX1_runTick 42 = .ok (.if_icmp .lt 7, 3) := by decide +kernel
theorem dX1_runTick_45 : decode cX1_runTick 45 = .ok (.iconst 1, 1) := by decide +kernel
theorem dX1_runTick_46 : decode cX1_runTick 46 = .ok (.goto 4, 3) := by decide +kernel
theorem dX1_runTick_49 : decode cX1_runTick 49 = .ok (.iconst 0, 1) := by decide +kernel
theorem dX1_runTick_50 : decode cX1_runTick 50 = .ok (.bastore, 1) := by decide +kernel
theorem dX1_runTick_51 : decode cX1_runTick 51 = .ok (.iinc 1 1, 3) := by decide +kernel
theorem dX1_runTick_54 : decode cX1_runTick 54 = .ok (.goto (-52), 3) := by decide +kernel
theorem dX1_runTick_57 : decode cX1_runTick 57 = .ok (.aload_n 0, 1) := by decide +kernel
theorem dX1_runTick_58 : decode cX1_runTick 58 = .ok (.invokevirtual 92, 3) := by decide +kernel
theorem dX1_runTick_61 : decode cX1_runTick 61 = .ok (.iconst 0, 1) := by decide +kernel
theorem dX1_runTick_62 : decode cX1_runTick 62 = .ok (.istore_n 1, 1) := by decide +kernel
theorem dX1_runTick_63 : decode cX1_runTick 63 = .ok (.iload_n 1, 1) := by decide +kernel
theorem dX1_runTick_64 : decode cX1_runTick 64 = .ok (.aload_n 0, 1) := by decide +kernel
theorem dX1_runTick_65 : decode cX1_runTick 65 = .ok (.getfield 29, 3) := by decide +kernel
theorem dX1_runTick_68 : decode cX1_runTick 68 = .ok (.if_icmp .ge 23, 3) := by decide +kernel
theorem dX1_runTick_71 : decode cX1_runTick 71 = .ok (.aload_n 0, 1) := by decide +kernel
theorem dX1_runTick_72 : decode cX1_runTick 72 = .ok (.getfield 17, 3) := by decide +kernel
theorem dX1_runTick_75 : decode cX1_runTick 75 = .ok (.iload_n 1, 1) := by decide +kernel
theorem dX1_runTick_76 : decode cX1_runTick 76 = .ok (.baload, 1) := by decide +kernel
theorem dX1_runTick_77 : decode cX1_runTick 77 = .ok (.ifCond .eq 8, 3) := by decide +kernel
theorem dX1_runTick_80 : decode cX1_runTick 80 = .ok (.aload_n 0, 1) := by decide +kernel
theorem dX1_runTick_81 : decode cX1_runTick 81 = .ok (.iload_n 1, 1) := by decide +kernel
theorem dX1_runTick_82 : decode cX1_runTick 82 = .ok (.invokevirtual 95, 3) := by decide +kernel
theorem dX1_runTick_85 : decode cX1_runTick 85 = .ok (.iinc 1 1, 3) := by decide +kernel
theorem dX1_runTick_88 : decode cX1_runTick 88 = .ok (.goto (-25), 3) := by decide +kernel
theorem dX1_runTick_91 : decode cX1_runTick 91 = .ok (.aload_n 0, 1) := by decide +kernel
theorem dX1_runTick_92 : decode cX1_runTick 92 = .ok (.dup, 1) := by decide +kernel
theorem dX1_runTick_93 : decode cX1_runTick 93 = .ok (.getfield 36, 3) := by decide +kernel
theorem dX1_runTick_96 : decode cX1_runTick 96 = .ok (.iconst 1, 1) := by decide +kernel
theorem dX1_runTick_97 : decode cX1_runTick 97 = .ok (.iadd, 1) := by decide +kernel
theorem dX1_runTick_98 : decode cX1_runTick 98 = .ok (.putfield 36, 3) := by decide +kernel
theorem dX1_runTick_101 : decode cX1_runTick 101 = .ok (.aload_n 0, 1) := by decide +kernel
theorem dX1_runTick_102 : decode cX1_runTick 102 = .ok (.invokevirtual 99, 3) := by decide +kernel
theorem dX1_runTick_105 : decode cX1_runTick 105 = .ok (.return_, 1) := by decide +kernel
set_option maxRecDepth 20000 in
theorem ggX1_passCallsOn_X4_canAsItWants : GoodIn wsX1_passCallsOn wsX4_canAsItWants := goodIn_r _ [8, 9, 10, 11, 12, 13, 7, 14, 15, 16, 17, 18, 19, 20, 21, 22, 23, 36, 37, 38, 39, 40, 41, 42, 43, 44, 45, 46, 47, 48, 49, 50] (by decide +kernel) (by decide +kernel)
set_option maxRecDepth 20000 in
theorem gX1_passCallsOn_X4_canAsItWants : GoodIn wsX1_passCallsOn (wsV RX1 102 RX4 yX4_canAsItWants wsX4_canAsItWants) := goodIn_app (goodIn_of _ (by decide +kernel)) ggX1_passCallsOn_X4_canAsItWants
set_option maxRecDepth 20000 in
theorem ggX1_passCallsOn_X1_callNextBehind : GoodIn wsX1_passCallsOn wsX1_callNextBehind := goodIn_r _ [28, 1, 3, 2, 29, 12, 13, 7, 14, 15, 16, 17, 18, 19, 20, 21, 22, 23, 30, 31, 32, 33, 34, 35, 36, 37, 38, 39, 40, 41, 42, 43, 44, 45, 46, 47, 48, 49, 50] (by decide +kernel) (by decide +kernel)
set_option maxRecDepth 20000 in
theorem gX1_passCallsOn_X1_callNextBehind : GoodIn wsX1_passCallsOn (wsV RX1 106 RX1 yX1_callNextBehind wsX1_callNextBehind) := goodIn_app (goodIn_of _ (by decide +kernel)) ggX1_passCallsOn_X1_callNextBehind
theorem dX1_passCallsOn_0 : decode cX1_passCallsOn 0 = .ok (.iconst 0, 1) := by decide +kernel
theorem dX1_passCallsOn_1 : decode cX1_passCallsOn 1 = .ok (.istore_n 1, 1) := by decide +kernel
theorem dX1_passCallsOn_2 : decode cX1_passCallsOn 2 = .ok (.iload_n 1, 1) := by decide +kernel
theorem dX1_passCallsOn_3 : decode cX1_passCallsOn 3 = .ok (.aload_n 0, 1) := by decide +kernel
theorem dX1_passCallsOn_4 : decode cX1_passCallsOn 4 = .ok (.getfield 29, 3) := by decide +kernel
theorem dX1_passCallsOn_7 : decode cX1_passCallsOn 7 = .ok (.if_icmp .ge 35, 3) := by decide +kernel
theorem dX1_passCallsOn_10 : decode cX1_passCallsOn 10 = .ok (.aload_n 0, 1) := by decide +kernel
theorem dX1_passCallsOn_11 : decode cX1_passCallsOn 11 = .ok (.getfield 17, 3) := by decide +kernel
theorem dX1_passCallsOn_14 : decode cX1_passCallsOn 14 = .ok (.iload_n 1, 1) := by decide +kernel
theorem dX1_passCallsOn_15 : decode cX1_passCallsOn 15 = .ok (.baload, 1) := by decide +kernel
theorem dX1_passCallsOn_16 : decode cX1_passCallsOn 16 = .ok (.ifCond .eq 20, 3) := by decide +kernel
theorem dX1_passCallsOn_19 : decode cX1_passCallsOn 19 = .ok (.aload_n 0, 1) := by decide +kernel
theorem dX1_passCallsOn_20 : decode cX1_passCallsOn 20 = .ok (.getfield 11, 3) := by decide +kernel
theorem dX1_passCallsOn_23 : decode cX1_passCallsOn 23 = .ok (.iload_n 1, 1) := by decide +kernel
theorem dX1_passCallsOn_24 : decode cX1_passCallsOn 24 = .ok (.aaload, 1) := by decide +kernel
theorem dX1_passCallsOn_25 : decode cX1_passCallsOn 25 = .ok (.invokevirtual 102, 3) := by decide +kernel
theorem dX1_passCallsOn_28 : decode cX1_passCallsOn 28 = .ok (.ifCond .ne 8, 3) := by decide +kernel
theorem dX1_passCallsOn_31 : decode cX1_passCallsOn 31 = .ok (.aload_n 0, 1) := by decide +kernel
theorem dX1_passCallsOn_32 : decode cX1_passCallsOn 32 = .ok (.iload_n 1, 1) := by decide +kernel
theorem dX1_passCallsOn_33 : decode cX1_passCallsOn 33 = .ok (.invokevirtual 106, 3) := by decide +kernel
theorem dX1_passCallsOn_36 : decode cX1_passCallsOn 36 = .ok (.iinc 1 1, 3) := by decide +kernel
theorem dX1_passCallsOn_39 : decode cX1_passCallsOn 39 = .ok (.goto (-37), 3) := by decide +kernel
theorem dX1_passCallsOn_42 : decode cX1_passCallsOn 42 = .ok (.return_, 1) := by decide +kernel
set_option maxRecDepth 20000 in
theorem ggX1_callNextBehind_X4_wants : GoodIn wsX1_callNextBehind wsX4_wants := goodIn_r _ [8, 9, 10, 11, 12, 13, 7, 14, 15, 16, 17, 24, 25, 26, 27, 28, 29, 30, 31, 32, 33, 34, 35, 36, 37, 38] (by decide +kernel) (by decide +kernel)
set_option maxRecDepth 20000 in
theorem gX1_callNextBehind_X4_wants : GoodIn wsX1_callNextBehind (wsV RX1 109 RX4 yX4_wants wsX4_wants) := goodIn_app (goodIn_of _ (by decide +kernel)) ggX1_callNextBehind_X4_wants
theorem dX1_callNextBehind_0 : decode cX1_callNextBehind 0 = .ok (.iload_n 1, 1) := by decide +kernel
theorem dX1_callNextBehind_1 : decode cX1_callNextBehind 1 = .ok (.iconst 1, 1) := by decide +kernel
theorem dX1_callNextBehind_2 : decode cX1_callNextBehind 2 = .ok (.iadd, 1) := by decide +kernel
theorem dX1_callNextBehind_3 : decode cX1_callNextBehind 3 = .ok (.istore_n 2, 1) := by decide +kernel
theorem dX1_callNextBehind_4 : decode cX1_callNextBehind 4 = .ok (.iload_n 2, 1) := by decide +kernel
theorem dX1_callNextBehind_5 : decode cX1_callNextBehind 5 = .ok (.aload_n 0, 1) := by decide +kernel
theorem dX1_callNextBehind_6 : decode cX1_callNextBehind 6 = .ok (.getfield 29, 3) := by decide +kernel
theorem dX1_callNextBehind_9 : decode cX1_callNextBehind 9 = .ok (.if_icmp .ge 29, 3) := by decide +kernel
theorem dX1_callNextBehind_12 : decode cX1_callNextBehind 12 = .ok (.aload_n 0, 1) := by decide +kernel
theorem dX1_callNextBehind_13 : decode cX1_callNextBehind 13 = .ok (.getfield 11, 3) := by decide +kernel
theorem dX1_callNextBehind_16 : decode cX1_callNextBehind 16 = .ok (.iload_n 2, 1) := by decide +kernel
theorem dX1_callNextBehind_17 : decode cX1_callNextBehind 17 = .ok (.aaload, 1) := by decide +kernel
theorem dX1_callNextBehind_18 : decode cX1_callNextBehind 18 = .ok (.invokevirtual 109, 3) := by decide +kernel
theorem dX1_callNextBehind_21 : decode cX1_callNextBehind 21 = .ok (.ifCond .eq 11, 3) := by decide +kernel
theorem dX1_callNextBehind_24 : decode cX1_callNextBehind 24 = .ok (.aload_n 0, 1) := by decide +kernel
theorem dX1_callNextBehind_25 : decode cX1_callNextBehind 25 = .ok (.getfield 17, 3) := by decide +kernel
theorem dX1_callNextBehind_28 : decode cX1_callNextBehind 28 = .ok (.iload_n 2, 1) := by decide +kernel
theorem dX1_callNextBehind_29 : decode cX1_callNextBehind 29 = .ok (.iconst 1, 1) := by decide +kernel
theorem dX1_callNextBehind_30 : decode cX1_callNextBehind 30 = .ok (.bastore, 1) := by decide +kernel
theorem dX1_callNextBehind_31 : decode cX1_callNextBehind 31 = .ok (.return_, 1) := by decide +kernel
theorem dX1_callNextBehind_32 : decode cX1_callNextBehind 32 = .ok (.iinc 2 1, 3) := by decide +kernel
theorem dX1_callNextBehind_35 : decode cX1_callNextBehind 35 = .ok (.goto (-31), 3) := by decide +kernel
theorem dX1_callNextBehind_38 : decode cX1_callNextBehind 38 = .ok (.return_, 1) := by decide +kernel
set_option maxRecDepth 20000 in
theorem ggX1_heedCall_X4_canAsItWants : GoodIn wsX1_heedCall wsX4_canAsItWants := goodIn_r _ [13, 14, 15, 16, 17, 18, 12, 19, 20, 21, 22, 23, 24, 25, 26, 27, 28, 45, 46, 47, 48, 49, 50, 51, 52, 53, 54, 55, 56, 57, 58, 59] (by decide +kernel) (by decide +kernel)
set_option maxRecDepth 20000 in
theorem gX1_heedCall_X4_canAsItWants : GoodIn wsX1_heedCall (wsV RX1 102 RX4 yX4_canAsItWants wsX4_canAsItWants) := goodIn_app (goodIn_of _ (by decide +kernel)) ggX1_heedCall_X4_canAsItWants
set_option maxRecDepth 20000 in
theorem ggX1_heedCall_X4_wants : GoodIn wsX1_heedCall wsX4_wants := goodIn_r _ [19, 20, 21, 22, 23, 24, 12, 25, 26, 27, 28, 45, 46, 47, 48, 49, 50, 51, 52, 53, 54, 55, 56, 57, 58, 59] (by decide +kernel) (by decide +kernel)
set_option maxRecDepth 20000 in
theorem gX1_heedCall_X4_wants : GoodIn wsX1_heedCall (wsV RX1 109 RX4 yX4_wants wsX4_wants) := goodIn_app (goodIn_of _ (by decide +kernel)) ggX1_heedCall_X4_wants
set_option maxRecDepth 20000 in
theorem ggX1_heedCall_X5_add : GoodIn wsX1_heedCall wsX5_add := goodIn_r _ [34, 35, 36, 37, 38, 60, 61, 62, 63, 64] (by decide +kernel) (by decide +kernel)
set_option maxRecDepth 20000 in
theorem gX1_heedCall_X5_add : GoodIn wsX1_heedCall (wsV RX1 115 RX5 yX5_add wsX5_add) := goodIn_app (goodIn_of _ (by decide +kernel)) ggX1_heedCall_X5_add
theorem dX1_heedCall_0 : decode cX1_heedCall 0 = .ok (.aload_n 0, 1) := by decide +kernel
theorem dX1_heedCall_1 : decode cX1_heedCall 1 = .ok (.getfield 11, 3) := by decide +kernel
theorem dX1_heedCall_4 : decode cX1_heedCall 4 = .ok (.iload_n 1, 1) := by decide +kernel
theorem dX1_heedCall_5 : decode cX1_heedCall 5 = .ok (.aaload, 1) := by decide +kernel
theorem dX1_heedCall_6 : decode cX1_heedCall 6 = .ok (.astore_n 2, 1) := by decide +kernel
theorem dX1_heedCall_7 : decode cX1_heedCall 7 = .ok (.aload_n 2, 1) := by decide +kernel
theorem dX1_heedCall_8 : decode cX1_heedCall 8 = .ok (.invokevirtual 102, 3) := by decide +kernel
theorem dX1_heedCall_11 : decode cX1_heedCall 11 = .ok (.ifCond .eq 73, 3) := by decide +kernel
theorem dX1_heedCall_14 : decode cX1_heedCall 14 = .ok (.aload_n 2, 1) := by decide +kernel
theorem dX1_heedCall_15 : decode cX1_heedCall 15 = .ok (.invokevirtual 109, 3) := by decide +kernel
theorem dX1_heedCall_18 : decode cX1_heedCall 18 = .ok (.istore_n 3, 1) := by decide +kernel
theorem dX1_heedCall_19 : decode cX1_heedCall 19 = .ok (.aload_n 2, 1) := by decide +kernel
theorem dX1_heedCall_20 : decode cX1_heedCall 20 = .ok (.dup, 1) := by decide +kernel
theorem dX1_heedCall_21 : decode cX1_heedCall 21 = .ok (.getfield 112, 3) := by decide +kernel
theorem dX1_heedCall_24 : decode cX1_heedCall 24 = .ok (.iload_n 3, 1) := by decide +kernel
theorem dX1_heedCall_25 : decode cX1_heedCall 25 = .ok (.iconst 1, 1) := by decide +kernel
theorem dX1_heedCall_26 : decode cX1_heedCall 26 = .ok (.if_icmp .ne 7, 3) := by decide +kernel
theorem dX1_heedCall_29 : decode cX1_heedCall 29 = .ok (.iconst 1, 1) := by decide +kernel
theorem dX1_heedCall_30 : decode cX1_heedCall 30 = .ok (.goto 4, 3) := by decide +kernel
theorem dX1_heedCall_33 : decode cX1_heedCall 33 = .ok (.iconst (-1), 1) := by decide +kernel
theorem dX1_heedCall_34 : decode cX1_heedCall 34 = .ok (.iadd, 1) := by decide +kernel
theorem dX1_heedCall_35 : decode cX1_heedCall 35 = .ok (.putfield 112, 3) := by decide +kernel
theorem dX1_heedCall_38 : decode cX1_heedCall 38 = .ok (.aload_n 0, 1) := by decide +kernel
theorem dX1_heedCall_39 : decode cX1_heedCall 39 = .ok (.getfield 24, 3) := by decide +kernel
theorem dX1_heedCall_42 : decode cX1_heedCall 42 = .ok (.aload_n 0, 1) := by decide +kernel
theorem dX1_heedCall_43 : decode cX1_heedCall 43 = .ok (.getfield 36, 3) := by decide +kernel
theorem dX1_heedCall_46 : decode cX1_heedCall 46 = .ok (.iload_n 1, 1) := by decide +kernel
theorem dX1_heedCall_47 : decode cX1_heedCall 47 = .ok (.iload_n 3, 1) := by decide +kernel
theorem dX1_heedCall_48 : decode cX1_heedCall 48 = .ok (.invokevirtual 115, 3) := by decide +kernel
theorem dX1_heedCall_51 : decode cX1_heedCall 51 = .ok (.aload_n 2, 1) := by decide +kernel
theorem dX1_heedCall_52 : decode cX1_heedCall 52 = .ok (.getfield 119, 3) := by decide +kernel
theorem dX1_heedCall_55 : decode cX1_heedCall 55 = .ok (.ifCond .eq 24, 3) := by decide +kernel
theorem dX1_heedCall_58 : decode cX1_heedCall 58 = .ok (.aload_n 2, 1) := by decide +kernel
theorem dX1_heedCall_59 : decode cX1_heedCall 59 = .ok (.getfield 119, 3) := by decide +kernel
theorem dX1_heedCall_62 : decode cX1_heedCall 62 = .ok (.iload_n 3, 1) := by decide +kernel
theorem dX1_heedCall_63 : decode cX1_heedCall 63 = .ok (.if_icmp .eq 16, 3) := by decide +kernel
theorem dX1_heedCall_66 : decode cX1_heedCall 66 = .ok (.aload_n 0, 1) := by decide +kernel
theorem dX1_heedCall_67 : decode cX1_heedCall 67 = .ok (.getfield 24, 3) := by decide +kernel
theorem dX1_heedCall_70 : decode cX1_heedCall 70 = .ok (.dup, 1) := by decide +kernel
theorem dX1_heedCall_71 : decode cX1_heedCall 71 = .ok (.getfield 122, 3) := by decide +kernel
theorem dX1_heedCall_74 : decode cX1_heedCall 74 = .ok (.iconst 1, 1) := by decide +kernel
theorem dX1_heedCall_75 : decode cX1_heedCall 75 = .ok (.iadd, 1) := by decide +kernel
theorem dX1_heedCall_76 : decode cX1_heedCall 76 = .ok (.putfield 122, 3) := by decide +kernel
theorem dX1_heedCall_79 : decode cX1_heedCall 79 = .ok (.aload_n 2, 1) := by decide +kernel
theorem dX1_heedCall_80 : decode cX1_heedCall 80 = .ok (.iload_n 3, 1) := by decide +kernel
theorem dX1_heedCall_81 : decode cX1_heedCall 81 = .ok (.putfield 119, 3) := by decide +kernel
theorem dX1_heedCall_84 : decode cX1_heedCall 84 = .ok (.aload_n 2, 1) := by decide +kernel
theorem dX1_heedCall_85 : decode cX1_heedCall 85 = .ok (.iconst 0, 1) := by decide +kernel
theorem dX1_heedCall_86 : decode cX1_heedCall 86 = .ok (.putfield 86, 3) := by decide +kernel
theorem dX1_heedCall_89 : decode cX1_heedCall 89 = .ok (.aload_n 2, 1) := by decide +kernel
theorem dX1_heedCall_90 : decode cX1_heedCall 90 = .ok (.iconst 0, 1) := by decide +kernel
theorem dX1_heedCall_91 : decode cX1_heedCall 91 = .ok (.putfield 125, 3) := by decide +kernel
theorem dX1_heedCall_94 : decode cX1_heedCall 94 = .ok (.return_, 1) := by decide +kernel
set_option maxRecDepth 20000 in
theorem ggX1_isQuiet_X4_canAsItWants : GoodIn wsX1_isQuiet wsX4_canAsItWants := goodIn_r _ [7, 8, 9, 10, 11, 12, 6, 13, 14, 15, 16, 17, 18, 19, 20, 21, 22, 29, 30, 31, 32, 33, 34, 35, 36, 37, 38, 39, 40, 41, 42, 43] (by decide +kernel) (by decide +kernel)
set_option maxRecDepth 20000 in
theorem gX1_isQuiet_X4_canAsItWants : GoodIn wsX1_isQuiet (wsV RX1 102 RX4 yX4_canAsItWants wsX4_canAsItWants) := goodIn_app (goodIn_of _ (by decide +kernel)) ggX1_isQuiet_X4_canAsItWants
theorem dX1_isQuiet_0 : decode cX1_isQuiet 0 = .ok (.iconst 0, 1) := by decide +kernel
theorem dX1_isQuiet_1 : decode cX1_isQuiet 1 = .ok (.istore_n 1, 1) := by decide +kernel
theorem dX1_isQuiet_2 : decode cX1_isQuiet 2 = .ok (.iload_n 1, 1) := by decide +kernel
theorem dX1_isQuiet_3 : decode cX1_isQuiet 3 = .ok (.aload_n 0, 1) := by decide +kernel
theorem dX1_isQuiet_4 : decode cX1_isQuiet 4 = .ok (.getfield 29, 3) := by decide +kernel
theorem dX1_isQuiet_7 : decode cX1_isQuiet 7 = .ok (.if_icmp .ge 23, 3) := by decide +kernel
theorem dX1_isQuiet_10 : decode cX1_isQuiet 10 = .ok (.aload_n 0, 1) := by decide +kernel
theorem dX1_isQuiet_11 : decode cX1_isQuiet 11 = .ok (.getfield 11, 3) := by decide +kernel
theorem dX1_isQuiet_14 : decode cX1_isQuiet 14 = .ok (.iload_n 1, 1) := by decide +kernel
theorem dX1_isQuiet_15 : decode cX1_isQuiet 15 = .ok (.aaload, 1) := by decide +kernel
theorem dX1_isQuiet_16 : decode cX1_isQuiet 16 = .ok (.invokevirtual 102, 3) := by decide +kernel
theorem dX1_isQuiet_19 : decode cX1_isQuiet 19 = .ok (.ifCond .eq 5, 3) := by decide +kernel
theorem dX1_isQuiet_22 : decode cX1_isQuiet 22 = .ok (.iconst 0, 1) := by decide +kernel
theorem dX1_isQuiet_23 : decode cX1_isQuiet 23 = .ok (.ireturn, 1) := by decide +kernel
theorem dX1_isQuiet_24 : decode cX1_isQuiet 24 = .ok (.iinc 1 1, 3) := by decide +kernel
theorem dX1_isQuiet_27 : decode cX1_isQuiet 27 = .ok (.goto (-25), 3) := by decide +kernel
theorem dX1_isQuiet_30 : decode cX1_isQuiet 30 = .ok (.iconst 1, 1) := by decide +kernel
theorem dX1_isQuiet_31 : decode cX1_isQuiet 31 = .ok (.ireturn, 1) := by decide +kernel
set_option maxRecDepth 20000 in
theorem ggX1_goodStages_X4_judged : GoodIn wsX1_goodStages wsX4_judged := goodIn_r _ [7, 8, 9, 10, 17, 18, 19, 20, 21, 22, 23, 24, 25, 26, 27, 28, 29, 30, 31] (by decide +kernel) (by decide +kernel)
set_option maxRecDepth 20000 in
theorem gX1_goodStages_X4_judged : GoodIn wsX1_goodStages (wsV RX1 128 RX4 yX4_judged wsX4_judged) := goodIn_app (goodIn_of _ (by decide +kernel)) ggX1_goodStages_X4_judged
theorem dX1_goodStages_0 : decode cX1_goodStages 0 = .ok (.iconst 0, 1) := by decide +kernel
theorem dX1_goodStages_1 : decode cX1_goodStages 1 = .ok (.istore_n 1, 1) := by decide +kernel
theorem dX1_goodStages_2 : decode cX1_goodStages 2 = .ok (.iconst 0, 1) := by decide +kernel
theorem dX1_goodStages_3 : decode cX1_goodStages 3 = .ok (.istore_n 2, 1) := by decide +kernel
theorem dX1_goodStages_4 : decode cX1_goodStages 4 = .ok (.iload_n 2, 1) := by decide +kernel
theorem dX1_goodStages_5 : decode cX1_goodStages 5 = .ok (.aload_n 0, 1) := by decide +kernel
theorem dX1_goodStages_6 : decode cX1_goodStages 6 = .ok (.getfield 29, 3) := by decide +kernel
theorem dX1_goodStages_9 : decode cX1_goodStages 9 = .ok (.if_icmp .ge 29, 3) := by decide +kernel
theorem dX1_goodStages_12 : decode cX1_goodStages 12 = .ok (.iload_n 1, 1) := by decide +kernel
theorem dX1_goodStages_13 : decode cX1_goodStages 13 = .ok (.aload_n 0, 1) := by decide +kernel
theorem dX1_goodStages_14 : decode cX1_goodStages 14 = .ok (.getfield 11, 3) := by decide +kernel
theorem dX1_goodStages_17 : decode cX1_goodStages 17 = .ok (.iload_n 2, 1) := by decide +kernel
theorem dX1_goodStages_18 : decode cX1_goodStages 18 = .ok (.aaload, 1) := by decide +kernel
theorem dX1_goodStages_19 : decode cX1_goodStages 19 = .ok (.invokevirtual 128, 3) := by decide +kernel
theorem dX1_goodStages_22 : decode cX1_goodStages 22 = .ok (.ifCond .ne 7, 3) := by decide +kernel
theorem dX1_goodStages_25 : decode cX1_goodStages 25 = .ok (.iconst 1, 1) := by decide +kernel
theorem dX1_goodStages_26 : decode cX1_goodStages 26 = .ok (.goto 4, 3) := by decide +kernel
theorem dX1_goodStages_29 : decode cX1_goodStages 29 = .ok (.iconst 0, 1) := by decide +kernel
theorem dX1_goodStages_30 : decode cX1_goodStages 30 = .ok (.iadd, 1) := by decide +kernel
theorem dX1_goodStages_31 : decode cX1_goodStages 31 = .ok (.istore_n 1, 1) := by decide +kernel
theorem dX1_goodStages_32 : decode cX1_goodStages 32 = .ok (.iinc 2 1, 3) := by decide +kernel
theorem dX1_goodStages_35 : decode cX1_goodStages 35 = .ok (.goto (-31), 3) := by decide +kernel
theorem dX1_goodStages_38 : decode cX1_goodStages 38 = .ok (.iload_n 1, 1) := by decide +kernel
theorem dX1_goodStages_39 : decode cX1_goodStages 39 = .ok (.ireturn, 1) := by decide +kernel
theorem dX1_stuckStages_0 : decode cX1_stuckStages 0 = .ok (.iconst 0, 1) := by decide +kernel
theorem dX1_stuckStages_1 : decode cX1_stuckStages 1 = .ok (.istore_n 1, 1) := by decide +kernel
theorem dX1_stuckStages_2 : decode cX1_stuckStages 2 = .ok (.iconst 0, 1) := by decide +kernel
theorem dX1_stuckStages_3 : decode cX1_stuckStages 3 = .ok (.istore_n 2, 1) := by decide +kernel
theorem dX1_stuckStages_4 : decode cX1_stuckStages 4 = .ok (.iload_n 2, 1) := by decide +kernel
theorem dX1_stuckStages_5 : decode cX1_stuckStages 5 = .ok (.aload_n 0, 1) := by decide +kernel
theorem dX1_stuckStages_6 : decode cX1_stuckStages 6 = .ok (.getfield 29, 3) := by decide +kernel
theorem dX1_stuckStages_9 : decode cX1_stuckStages 9 = .ok (.if_icmp .ge 29, 3) := by decide +kernel
theorem dX1_stuckStages_12 : decode cX1_stuckStages 12 = .ok (.iload_n 1, 1) := by decide +kernel
theorem dX1_stuckStages_13 : decode cX1_stuckStages 13 = .ok (.aload_n 0, 1) := by decide +kernel
theorem dX1_stuckStages_14 : decode cX1_stuckStages 14 = .ok (.getfield 11, 3) := by decide +kernel
theorem dX1_stuckStages_17 : decode cX1_stuckStages 17 = .ok (.iload_n 2, 1) := by decide +kernel
theorem dX1_stuckStages_18 : decode cX1_stuckStages 18 = .ok (.aaload, 1) := by decide +kernel
theorem dX1_stuckStages_19 : decode cX1_stuckStages 19 = .ok (.getfield 131, 3) := by decide +kernel
theorem dX1_stuckStages_22 : decode cX1_stuckStages 22 = .ok (.ifCond .eq 7, 3) := by decide +kernel
theorem dX1_stuckStages_25 : decode cX1_stuckStages 25 = .ok (.iconst 1, 1) := by decide +kernel
theorem dX1_stuckStages_26 : decode cX1_stuckStages 26 = .ok (.goto 4, 3) := by decide +kernel
theorem dX1_stuckStages_29 : decode cX1_stuckStages 29 = .ok (.iconst 0, 1) := by decide +kernel
theorem dX1_stuckStages_30 : decode cX1_stuckStages 30 = .ok (.iadd, 1) := by decide +kernel
theorem dX1_stuckStages_31 : decode cX1_stuckStages 31 = .ok (.istore_n 1, 1) := by decide +kernel
theorem dX1_stuckStages_32 : decode cX1_stuckStages 32 = .ok (.iinc 2 1, 3) := by decide +kernel
theorem dX1_stuckStages_35 : decode cX1_stuckStages 35 = .ok (.goto (-31), 3) := by decide +kernel
theorem dX1_stuckStages_38 : decode cX1_stuckStages 38 = .ok (.iload_n 1, 1) := by decide +kernel
theorem dX1_stuckStages_39 : decode cX1_stuckStages 39 = .ok (.ireturn, 1) := by decide +kernel
set_option maxRecDepth 20000 in
theorem ggX1_off_X4_off : GoodIn wsX1_off wsX4_off := goodIn_r _ [7, 8, 9, 10, 11, 12, 13, 20, 21, 22, 23, 24, 25, 26, 27, 28, 29, 30, 31, 32, 33, 34] (by decide +kernel) (by decide +kernel)
set_option maxRecDepth 20000 in
theorem gX1_off_X4_off : GoodIn wsX1_off (wsV RX1 135 RX4 yX4_off wsX4_off) := goodIn_app (goodIn_of _ (by decide +kernel)) ggX1_off_X4_off
theorem dX1_off_0 : decode cX1_off 0 = .ok (.iconst 0, 1) := by decide +kernel
theorem dX1_off_1 : decode cX1_off 1 = .ok (.istore_n 1, 1) := by decide +kernel
theorem dX1_off_2 : decode cX1_off 2 = .ok (.iconst 0, 1) := by decide +kernel
theorem dX1_off_3 : decode cX1_off 3 = .ok (.istore_n 2, 1) := by decide +kernel
theorem dX1_off_4 : decode cX1_off 4 = .ok (.iload_n 2, 1) := by decide +kernel
theorem dX1_off_5 : decode cX1_off 5 = .ok (.aload_n 0, 1) := by decide +kernel
theorem dX1_off_6 : decode cX1_off 6 = .ok (.getfield 29, 3) := by decide +kernel
theorem dX1_off_9 : decode cX1_off 9 = .ok (.if_icmp .ge 21, 3) := by decide +kernel
theorem dX1_off_12 : decode cX1_off 12 = .ok (.iload_n 1, 1) := by decide +kernel
theorem dX1_off_13 : decode cX1_off 13 = .ok (.aload_n 0, 1) := by decide +kernel
theorem dX1_off_14 : decode cX1_off 14 = .ok (.getfield 11, 3) := by decide +kernel
theorem dX1_off_17 : decode cX1_off 17 = .ok (.iload_n 2, 1) := by decide +kernel
theorem dX1_off_18 : decode cX1_off 18 = .ok (.aaload, 1) := by decide +kernel
theorem dX1_off_19 : decode cX1_off 19 = .ok (.invokevirtual 135, 3) := by decide +kernel
theorem dX1_off_22 : decode cX1_off 22 = .ok (.iadd, 1) := by decide +kernel
theorem dX1_off_23 : decode cX1_off 23 = .ok (.istore_n 1, 1) := by decide +kernel
theorem dX1_off_24 : decode cX1_off 24 = .ok (.iinc 2 1, 3) := by decide +kernel
theorem dX1_off_27 : decode cX1_off 27 = .ok (.goto (-23), 3) := by decide +kernel
theorem dX1_off_30 : decode cX1_off 30 = .ok (.iload_n 1, 1) := by decide +kernel
theorem dX1_off_31 : decode cX1_off 31 = .ok (.ireturn, 1) := by decide +kernel
theorem dX1_packed_0 : decode cX1_packed 0 = .ok (.lconst 0, 1) := by decide +kernel
theorem dX1_packed_1 : decode cX1_packed 1 = .ok (.lstore_n 1, 1) := by decide +kernel
theorem dX1_packed_2 : decode cX1_packed 2 = .ok (.iconst 0, 1) := by decide +kernel
theorem dX1_packed_3 : decode cX1_packed 3 = .ok (.istore_n 3, 1) := by decide +kernel
theorem dX1_packed_4 : decode cX1_packed 4 = .ok (.iload_n 3, 1) := by decide +kernel
theorem dX1_packed_5 : decode cX1_packed 5 = .ok (.aload_n 0, 1) := by decide +kernel
theorem dX1_packed_6 : decode cX1_packed 6 = .ok (.getfield 29, 3) := by decide +kernel
theorem dX1_packed_9 : decode cX1_packed 9 = .ok (.if_icmp .ge 52, 3) := by decide +kernel
theorem dX1_packed_12 : decode cX1_packed 12 = .ok (.aload_n 0, 1) := by decide +kernel
theorem dX1_packed_13 : decode cX1_packed 13 = .ok (.getfield 11, 3) := by decide +kernel
theorem dX1_packed_16 : decode cX1_packed 16 = .ok (.iload_n 3, 1) := by decide +kernel
theorem dX1_packed_17 : decode cX1_packed 17 = .ok (.aaload, 1) := by decide +kernel
theorem dX1_packed_18 : decode cX1_packed 18 = .ok (.astore 4, 2) := by decide +kernel
theorem dX1_packed_20 : decode cX1_packed 20 = .ok (.lload_n 1, 1) := by decide +kernel
theorem dX1_packed_21 : decode cX1_packed 21 = .ok (.iconst 4, 1) := by decide +kernel
theorem dX1_packed_22 : decode cX1_packed 22 = .ok (.lshl, 1) := by decide +kernel
theorem dX1_packed_23 : decode cX1_packed 23 = .ok (.aload 4, 2) := by decide +kernel
theorem dX1_packed_25 : decode cX1_packed 25 = .ok (.getfield 112, 3) := by decide +kernel
theorem dX1_packed_28 : decode cX1_packed 28 = .ok (.iconst 5, 1) := by decide +kernel
theorem dX1_packed_29 : decode cX1_packed 29 = .ok (.iadd, 1) := by decide +kernel
theorem dX1_packed_30 : decode cX1_packed 30 = .ok (.i2l, 1) := by decide +kernel
theorem dX1_packed_31 : decode cX1_packed 31 = .ok (.lor, 1) := by decide +kernel
theorem dX1_packed_32 : decode cX1_packed 32 = .ok (.lstore_n 1, 1) := by decide +kernel
theorem dX1_packed_33 : decode cX1_packed 33 = .ok (.lload_n 1, 1) := by decide +kernel
theorem dX1_packed_34 : decode cX1_packed 34 = .ok (.iconst 4, 1) := by decide +kernel
theorem dX1_packed_35 : decode cX1_packed 35 = .ok (.lshl, 1) := by decide +kernel
theorem dX1_packed_36 : decode cX1_packed 36 = .ok (.aload 4, 2) := by decide +kernel
theorem dX1_packed_38 : decode cX1_packed 38 = .ok (.getfield 86, 3) := by decide +kernel
theorem dX1_packed_41 : decode cX1_packed 41 = .ok (.i2l, 1) := by decide +kernel
theorem dX1_packed_42 : decode cX1_packed 42 = .ok (.lor, 1) := by decide +kernel
theorem dX1_packed_43 : decode cX1_packed 43 = .ok (.lstore_n 1, 1) := by decide +kernel
theorem dX1_packed_44 : decode cX1_packed 44 = .ok (.lload_n 1, 1) := by decide +kernel
theorem dX1_packed_45 : decode cX1_packed 45 = .ok (.iconst 2, 1) := by decide +kernel
theorem dX1_packed_46 : decode cX1_packed 46 = .ok (.lshl, 1) := by decide +kernel
theorem dX1_packed_47 : decode cX1_packed 47 = .ok (.aload 4, 2) := by decide +kernel
theorem dX1_packed_49 : decode cX1_packed 49 = .ok (.getfield 125, 3) := by decide +kernel
theorem dX1_packed_52 : decode cX1_packed 52 = .ok (.i2l, 1) := by decide +kernel
theorem dX1_packed_53 : decode cX1_packed 53 = .ok (.lor, 1) := by decide +kernel
theorem dX1_packed_54 : decode cX1_packed 54 = .ok (.lstore_n 1, 1) := by decide +kernel
theorem dX1_packed_55 : decode cX1_packed 55 = .ok (.iinc 3 1, 3) := by decide +kernel
theorem dX1_packed_58 : decode cX1_packed 58 = .ok (.goto (-54), 3) := by decide +kernel
theorem dX1_packed_61 : decode cX1_packed 61 = .ok (.lload_n 1, 1) := by decide +kernel
theorem dX1_packed_62 : decode cX1_packed 62 = .ok (.lreturn, 1) := by decide +kernel
set_option maxRecDepth 20000 in
theorem ggX2_init_X1_init : GoodIn wsX2_init wsX1_init := goodIn_r _ [10, 11, 2, 3, 12, 13, 14, 15, 16, 17, 18, 19, 20, 21, 22, 23, 24, 25, 26, 27, 28, 29, 30, 31, 32, 33, 37, 38, 39, 40, 41, 42, 43, 44, 45, 46, 47, 48, 49, 50, 51, 52, 53, 54, 55, 56, 57, 58, 59, 60, 61, 62] (by decide +kernel) (by decide +kernel)
set_option maxRecDepth 20000 in
theorem gX2_init_X1_init : GoodIn wsX2_init (wsX1_init) := ggX2_init_X1_init
theorem dX2_init_0 : decode cX2_init 0 = .ok (.aload_n 0, 1) := by decide +kernel
theorem dX2_init_1 : decode cX2_init 1 = .ok (.invokespecial 3, 3) := by decide +kernel
theorem dX2_init_4 : decode cX2_init 4 = .ok (.aload_n 0, 1) := by decide +kernel
theorem dX2_init_5 : decode cX2_init 5 = .ok (.bipush 6, 2) := by decide +kernel
theorem dX2_init_7 : decode cX2_init 7 = .ok (.anewarray 9, 3) := by decide +kernel
theorem dX2_init_10 : decode cX2_init 10 = .ok (.putfield 11, 3) := by decide +kernel
theorem dX2_init_13 : decode cX2_init 13 = .ok (.iconst 0, 1) := by decide +kernel
theorem dX2_init_14 : decode cX2_init 14 = .ok (.istore_n 1, 1) := by decide +kernel
theorem dX2_init_15 : decode cX2_init 15 = .ok (.iload_n 1, 1) := by decide +kernel
theorem dX2_init_16 : decode cX2_init 16 = .ok (.bipush 6, 2) := by decide +kernel
theorem dX2_init_18 : decode cX2_init 18 = .ok (.if_icmp .ge 22, 3) := by decide +kernel
theorem dX2_init_21 : decode cX2_init 21 = .ok (.aload_n 0, 1) := by decide +kernel
theorem dX2_init_22 : decode cX2_init 22 = .ok (.getfield 11, 3) := by decide +kernel
theorem dX2_init_25 : decode cX2_init 25 = .ok (.iload_n 1, 1) := by decide +kernel
theorem dX2_init_26 : decode cX2_init 26 = .ok (.new 9, 3) := by decide +kernel
theorem dX2_init_29 : decode cX2_init 29 = .ok (.dup, 1) := by decide +kernel
theorem dX2_init_30 : decode cX2_init 30 = .ok (.invokespecial 17, 3) := by decide +kernel
theorem dX2_init_33 : decode cX2_init 33 = .ok (.aastore, 1) := by decide +kernel
theorem dX2_init_34 : decode cX2_init 34 = .ok (.iinc 1 1, 3) := by decide +kernel
theorem dX2_init_37 : decode cX2_init 37 = .ok (.goto (-22), 3) := by decide +kernel
theorem dX2_init_40 : decode cX2_init 40 = .ok (.return_, 1) := by decide +kernel
theorem dX2_forget_0 : decode cX2_forget 0 = .ok (.aload_n 0, 1) := by decide +kernel
theorem dX2_forget_1 : decode cX2_forget 1 = .ok (.iconst 0, 1) := by decide +kernel
theorem dX2_forget_2 : decode cX2_forget 2 = .ok (.putfield 18, 3) := by decide +kernel
theorem dX2_forget_5 : decode cX2_forget 5 = .ok (.return_, 1) := by decide +kernel
set_option maxRecDepth 20000 in
theorem ggX2_keep_X1_copyFrom : GoodIn wsX2_keep wsX1_copyFrom := goodIn_r _ [12, 13, 14, 15, 16, 17, 18, 19, 20, 21, 22, 23, 24, 25, 26, 27, 28, 29, 30, 31, 32, 33, 34, 35, 36, 37, 38, 39, 40, 41, 42, 43, 44, 45, 46, 47, 48, 49, 50, 51, 55, 56, 57, 58, 59, 60, 61, 62, 63, 64, 65, 66, 67, 68, 69, 70, 71, 72, 73, 74, 75, 76, 77, 78, 79, 80] (by decide +kernel) (by decide +kernel)
set_option maxRecDepth 20000 in
theorem gX2_keep_X1_copyFrom : GoodIn wsX2_keep (wsV RX2 25 RX1 yX1_copyFrom wsX1_copyFrom) := goodIn_app (goodIn_of _ (by decide +kernel)) ggX2_keep_X1_copyFrom
theorem dX2_keep_0 : decode cX2_keep 0 = .ok (.aload_n 0, 1) := by decide +kernel
theorem dX2_keep_1 : decode cX2_keep 1 = .ok (.getfield 11, 3) := by decide +kernel
theorem dX2_keep_4 : decode cX2_keep 4 = .ok (.aload_n 0, 1) := by decide +kernel
theorem dX2_keep_5 : decode cX2_keep 5 = .ok (.getfield 22, 3) := by decide +kernel
theorem dX2_keep_8 : decode cX2_keep 8 = .ok (.aaload, 1) := by decide +kernel
theorem dX2_keep_9 : decode cX2_keep 9 = .ok (.aload_n 1, 1) := by decide +kernel
theorem dX2_keep_10 : decode cX2_keep 10 = .ok (.invokevirtual 25, 3) := by decide +kernel
theorem dX2_keep_13 : decode cX2_keep 13 = .ok (.aload_n 0, 1) := by decide +kernel
theorem dX2_keep_14 : decode cX2_keep 14 = .ok (.aload_n 0, 1) := by decide +kernel
theorem dX2_keep_15 : decode cX2_keep 15 = .ok (.getfield 22, 3) := by decide +kernel
theorem dX2_keep_18 : decode cX2_keep 18 = .ok (.iconst 1, 1) := by decide +kernel
theorem dX2_keep_19 : decode cX2_keep 19 = .ok (.iadd, 1) := by decide +kernel
theorem dX2_keep_20 : decode cX2_keep 20 = .ok (.bipush 6, 2) := by decide +kernel
theorem dX2_keep_22 : decode cX2_keep 22 = .ok (.irem, 1) := by decide +kernel
theorem dX2_keep_23 : decode cX2_keep 23 = .ok (.putfield 22, 3) := by decide +kernel
theorem dX2_keep_26 : decode cX2_keep 26 = .ok (.aload_n 0, 1) := by decide +kernel
theorem dX2_keep_27 : decode cX2_keep 27 = .ok (.aload_n 0, 1) := by decide +kernel
theorem dX2_keep_28 : decode cX2_keep 28 = .ok (.getfield 18, 3) := by decide +kernel
theorem dX2_keep_31 : decode cX2_keep 31 = .ok (.iconst 1, 1) := by decide +kernel
theorem dX2_keep_32 : decode cX2_keep 32 = .ok (.iadd, 1) := by decide +kernel
theorem dX2_keep_33 : decode cX2_keep 33 = .ok (.bipush 6, 2) := by decide +kernel
theorem dX2_keep_35 : decode cX2_keep 35 = .ok (.invokestatic 29, 3) := by decide +kernel
theorem dX2_keep_38 : decode cX2_keep 38 = .ok (.putfield 18, 3) := by decide +kernel
theorem dX2_keep_41 : decode cX2_keep 41 = .ok (.return_, 1) := by decide +kernel
set_option maxRecDepth 20000 in
theorem ggX2_giveBack_X1_copyFrom : GoodIn wsX2_giveBack wsX1_copyFrom := goodIn_r _ [8, 9, 10, 11, 12, 13, 14, 15, 16, 17, 18, 19, 20, 21, 22, 23, 24, 25, 26, 27, 28, 29, 30, 31, 32, 33, 34, 35, 36, 37, 38, 39, 40, 41, 42, 43, 44, 45, 46, 47, 51, 52, 53, 54, 55, 56, 57, 58, 59, 60, 61, 62, 63, 64, 65, 66, 67, 68, 69, 70, 71, 72, 73, 74, 75, 76] (by decide +kernel) (by decide +kernel)
set_option maxRecDepth 20000 in
theorem gX2_giveBack_X1_copyFrom : GoodIn wsX2_giveBack (wsV RX2 25 RX1 yX1_copyFrom wsX1_copyFrom) := goodIn_app (goodIn_of _ (by decide +kernel)) ggX2_giveBack_X1_copyFrom
theorem dX2_giveBack_0 : decode cX2_giveBack 0 = .ok (.aload_n 0, 1) := by decide +kernel
theorem dX2_giveBack_1 : decode cX2_giveBack 1 = .ok (.aload_n 0, 1) := by decide +kernel
theorem dX2_giveBack_2 : decode cX2_giveBack 2 = .ok (.getfield 22, 3) := by decide +kernel
theorem dX2_giveBack_5 : decode cX2_giveBack 5 = .ok (.bipush 6, 2) := by decide +kernel
theorem dX2_giveBack_7 : decode cX2_giveBack 7 = .ok (.iadd, 1) := by decide +kernel
theorem dX2_giveBack_8 : decode cX2_giveBack 8 = .ok (.iconst 1, 1) := by decide +kernel
theorem dX2_giveBack_9 : decode cX2_giveBack 9 = .ok (.isub, 1) := by decide +kernel
theorem dX2_giveBack_10 : decode cX2_giveBack 10 = .ok (.bipush 6, 2) := by decide +kernel
theorem dX2_giveBack_12 : decode cX2_giveBack 12 = .ok (.irem, 1) := by decide +kernel
theorem dX2_giveBack_13 : decode cX2_giveBack 13 = .ok (.putfield 22, 3) := by decide +kernel
theorem dX2_giveBack_16 : decode cX2_giveBack 16 = .ok (.aload_n 1, 1) := by decide +kernel
theorem dX2_giveBack_17 : decode cX2_giveBack 17 = .ok (.aload_n 0, 1) := by decide +kernel
theorem dX2_giveBack_18 : decode cX2_giveBack 18 = .ok (.getfield 11, 3) := by decide +kernel
theorem dX2_giveBack_21 : decode cX2_giveBack 21 = .ok (.aload_n 0, 1) := by decide +kernel
theorem dX2_giveBack_22 : decode cX2_giveBack 22 = .ok (.getfield 22, 3) := by decide +kernel
theorem dX2_giveBack_25 : decode cX2_giveBack 25 = .ok (.aaload, 1) := by decide +kernel
theorem dX2_giveBack_26 : decode cX2_giveBack 26 = .ok (.invokevirtual 25, 3) := by decide +kernel
theorem dX2_giveBack_29 : decode cX2_giveBack 29 = .ok (.aload_n 0, 1) := by decide +kernel
theorem dX2_giveBack_30 : decode cX2_giveBack 30 = .ok (.dup, 1) := by decide +kernel
theorem dX2_giveBack_31 : decode cX2_giveBack 31 = .ok (.getfield 18, 3) := by decide +kernel
theorem dX2_giveBack_34 : decode cX2_giveBack 34 = .ok (.iconst 1, 1) := by decide +kernel
theorem dX2_giveBack_35 : decode cX2_giveBack 35 = .ok (.isub, 1) := by decide +kernel
theorem dX2_giveBack_36 : decode cX2_giveBack 36 = .ok (.putfield 18, 3) := by decide +kernel
theorem dX2_giveBack_39 : decode cX2_giveBack 39 = .ok (.return_, 1) := by decide +kernel
theorem dX3_init_0 : decode cX3_init 0 = .ok (.aload_n 0, 1) := by decide +kernel
theorem dX3_init_1 : decode cX3_init 1 = .ok (.invokespecial 3, 3) := by decide +kernel
theorem dX3_init_4 : decode cX3_init 4 = .ok (.aload_n 0, 1) := by decide +kernel
theorem dX3_init_5 : decode cX3_init 5 = .ok (.iconst 4, 1) := by decide +kernel
theorem dX3_init_6 : decode cX3_init 6 = .ok (.newarray .int, 2) := by decide +kernel
theorem dX3_init_8 : decode cX3_init 8 = .ok (.putfield 9, 3) := by decide +kernel
theorem dX3_init_11 : decode cX3_init 11 = .ok (.aload_n 0, 1) := by decide +kernel
theorem dX3_init_12 : decode cX3_init 12 = .ok (.iconst 4, 1) := by decide +kernel
theorem dX3_init_13 : decode cX3_init 13 = .ok (.newarray .int, 2) := by decide +kernel
theorem dX3_init_15 : decode cX3_init 15 = .ok (.putfield 15, 3) := by decide +kernel
theorem dX3_init_18 : decode cX3_init 18 = .ok (.return_, 1) := by decide +kernel
set_option maxRecDepth 20000 in
theorem ggX3_start_X3_tryTaps : GoodIn wsX3_start wsX3_tryTaps := goodIn_r _ [7, 8, 2, 9, 10, 11, 12, 13, 14, 15, 16, 17, 18, 19, 20, 21, 22, 23, 24, 25, 26, 27, 28, 29, 30, 31, 32, 33, 34, 35, 36, 37, 4, 5, 6, 41, 42, 43, 44, 45, 46, 38, 39, 40, 47, 48, 49, 50, 51, 52, 53, 54, 55, 56, 57, 58, 59, 60, 61] (by decide +kernel) (by decide +kernel)
set_option maxRecDepth 20000 in
theorem gX3_start_X3_tryTaps : GoodIn wsX3_start (va_wsS RX3 30 yX3_tryTaps wsX3_tryTaps) := goodIn_app (goodIn_of _ (by decide +kernel)) ggX3_start_X3_tryTaps
theorem dX3_start_0 : decode cX3_start 0 = .ok (.aload_n 0, 1) := by decide +kernel
theorem dX3_start_1 : decode cX3_start 1 = .ok (.ldc 20, 2) := by decide +kernel
theorem dX3_start_3 : decode cX3_start 3 = .ok (.putfield 21, 3) := by decide +kernel
theorem dX3_start_6 : decode cX3_start 6 = .ok (.aload_n 0, 1) := by decide +kernel
theorem dX3_start_7 : decode cX3_start 7 = .ok (.aload_n 1, 1) := by decide +kernel
theorem dX3_start_8 : decode cX3_start 8 = .ok (.iconst 0, 1) := by decide +kernel
theorem dX3_start_9 : decode cX3_start 9 = .ok (.aload_n 1, 1) := by decide +kernel
theorem dX3_start_10 : decode cX3_start 10 = .ok (.getfield 25, 3) := by decide +kernel
theorem dX3_start_13 : decode cX3_start 13 = .ok (.iconst 0, 1) := by decide +kernel
theorem dX3_start_14 : decode cX3_start 14 = .ok (.invokestatic 30, 3) := by decide +kernel
theorem dX3_start_17 : decode cX3_start 17 = .ok (.return_, 1) := by decide +kernel
set_option maxRecDepth 20000 in
theorem ggX3_tryTaps_X7_outOf : GoodIn wsX3_tryTaps wsX7_outOf := goodIn_r _ [20] (by decide +kernel) (by decide +kernel)
set_option maxRecDepth 20000 in
theorem gX3_tryTaps_X7_outOf_n59 : GoodIn wsX3_tryTaps (wsX7_outOf) := ggX3_tryTaps_X7_outOf
set_option maxRecDepth 20000 in
theorem ggX3_tryTaps_X1_lostBehind : GoodIn wsX3_tryTaps wsX1_lostBehind := goodIn_r _ [25, 26, 27, 28, 29, 30, 19, 31, 35, 36, 37, 38, 39, 40, 44, 45, 46, 47, 48, 49, 50, 51, 52, 53, 54, 55, 56, 57, 58] (by decide +kernel) (by decide +kernel)
set_option maxRecDepth 20000 in
theorem gX3_tryTaps_X1_lostBehind : GoodIn wsX3_tryTaps (wsV RX3 72 RX1 yX1_lostBehind wsX1_lostBehind) := goodIn_app (goodIn_of _ (by decide +kernel)) ggX3_tryTaps_X1_lostBehind
set_option maxRecDepth 20000 in
theorem ggX3_tryTaps_X3_tryTaps : GoodIn wsX3_tryTaps wsX3_tryTaps := goodIn_r _ [0, 1, 2, 3, 4, 5, 6, 7, 8, 9, 10, 11, 12, 13, 14, 15, 16, 17, 18, 19, 20, 21, 22, 23, 24, 25, 26, 27, 28, 29, 30, 31, 32, 33, 34, 35, 36, 37, 38, 39, 40, 41, 42, 43, 44, 45, 46, 47, 48, 49, 50, 51, 52, 53, 54, 55, 56, 57, 58] (by decide +kernel) (by decide +kernel)
set_option maxRecDepth 20000 in
theorem gX3_tryTaps_X3_tryTaps : GoodIn wsX3_tryTaps (va_wsS RX3 30 yX3_tryTaps wsX3_tryTaps) := goodIn_app (goodIn_of _ (by decide +kernel)) ggX3_tryTaps_X3_tryTaps
theorem dX3_tryTaps_0 : decode cX3_tryTaps 0 = .ok (.iload_n 2, 1) := by decide +kernel
theorem dX3_tryTaps_1 : decode cX3_tryTaps 1 = .ok (.aload_n 1, 1) := by decide +kernel
theorem dX3_tryTaps_2 : decode cX3_tryTaps 2 = .ok (.getfield 34, 3) := by decide +kernel
theorem dX3_tryTaps_5 : decode cX3_tryTaps 5 = .ok (.if_icmp .ge 8, 3) := by decide +kernel
theorem dX3_tryTaps_8 : decode cX3_tryTaps 8 = .ok (.iload_n 2, 1) := by decide +kernel
theorem dX3_tryTaps_9 : decode cX3_tryTaps 9 = .ok (.iconst 4, 1) := by decide +kernel
theorem dX3_tryTaps_10 : decode cX3_tryTaps 10 = .ok (.if_icmp .lt 24, 3) := by decide +kernel
theorem dX3_tryTaps_13 : decode cX3_tryTaps 13 = .ok (.aload_n 0, 1) := by decide +kernel
theorem dX3_tryTaps_14 : decode cX3_tryTaps 14 = .ok (.iload 4, 2) := by decide +kernel
theorem dX3_tryTaps_16 : decode cX3_tryTaps 16 = .ok (.putfield 21, 3) := by decide +kernel
theorem dX3_tryTaps_19 : decode cX3_tryTaps 19 = .ok (.aload_n 0, 1) := by decide +kernel
theorem dX3_tryTaps_20 : decode cX3_tryTaps 20 = .ok (.getfield 9, 3) := by decide +kernel
theorem dX3_tryTaps_23 : decode cX3_tryTaps 23 = .ok (.iconst 0, 1) := by decide +kernel
theorem dX3_tryTaps_24 : decode cX3_tryTaps 24 = .ok (.aload_n 0, 1) := by decide +kernel
theorem dX3_tryTaps_25 : decode cX3_tryTaps 25 = .ok (.getfield 15, 3) := by decide +kernel
theorem dX3_tryTaps_28 : decode cX3_tryTaps 28 = .ok (.iconst 0, 1) := by decide +kernel
theorem dX3_tryTaps_29 : decode cX3_tryTaps 29 = .ok (.iconst 4, 1) := by decide +kernel
theorem dX3_tryTaps_30 : decode cX3_tryTaps 30 = .ok (.invokestatic 37, 3) := by decide +kernel
theorem dX3_tryTaps_33 : decode cX3_tryTaps 33 = .ok (.return_, 1) := by decide +kernel
theorem dX3_tryTaps_34 : decode cX3_tryTaps 34 = .ok (.aload_n 1, 1) := by decide +kernel
theorem dX3_tryTaps_35 : decode cX3_tryTaps 35 = .ok (.getfield 43, 3) := by decide +kernel
theorem dX3_tryTaps_38 : decode cX3_tryTaps 38 = .ok (.iload_n 2, 1) := by decide +kernel
theorem dX3_tryTaps_39 : decode cX3_tryTaps 39 = .ok (.aaload, 1) := by decide +kernel
theorem dX3_tryTaps_40 : decode cX3_tryTaps 40 = .ok (.astore 5, 2) := by decide +kernel
theorem dX3_tryTaps_42 : decode cX3_tryTaps 42 = .ok (.aload 5, 2) := by decide +kernel
theorem dX3_tryTaps_44 : decode cX3_tryTaps 44 = .ok (.getfield 47, 3) := by decide +kernel
theorem dX3_tryTaps_47 : decode cX3_tryTaps 47 = .ok (.ifCond .eq 11, 3) := by decide +kernel
theorem dX3_tryTaps_50 : decode cX3_tryTaps 50 = .ok (.aload 5, 2) := by decide +kernel
theorem dX3_tryTaps_52 : decode cX3_tryTaps 52 = .ok (.getfield 53, 3) := by decide +kernel
theorem dX3_tryTaps_55 : decode cX3_tryTaps 55 = .ok (.goto 5, 3) := by decide +kernel
theorem dX3_tryTaps_58 : decode cX3_tryTaps 58 = .ok (.bipush (-5), 2) := by decide +kernel
theorem dX3_tryTaps_60 : decode cX3_tryTaps 60 = .ok (.istore 6, 2) := by decide +kernel
theorem dX3_tryTaps_62 : decode cX3_tryTaps 62 = .ok (.aload 5, 2) := by decide +kernel
theorem dX3_tryTaps_64 : decode cX3_tryTaps 64 = .ok (.getfield 47, 3) := by decide +kernel
theorem dX3_tryTaps_67 : decode cX3_tryTaps 67 = .ok (.ifCond .eq 11, 3) := by decide +kernel
theorem dX3_tryTaps_70 : decode cX3_tryTaps 70 = .ok (.aload 5, 2) := by decide +kernel
theorem dX3_tryTaps_72 : decode cX3_tryTaps 72 = .ok (.getfield 53, 3) := by decide +kernel
theorem dX3_tryTaps_75 : decode cX3_tryTaps 75 = .ok (.goto 4, 3) := by decide +kernel
theorem dX3_tryTaps_78 : decode cX3_tryTaps 78 = .ok (.iconst 5, 1) := by decide +kernel
theorem dX3_tryTaps_79 : decode cX3_tryTaps 79 = .ok (.istore 7, 2) := by decide +kernel
theorem dX3_tryTaps_81 : decode cX3_tryTaps 81 = .ok (.iload 6, 2) := by decide +kernel
theorem dX3_tryTaps_83 : decode cX3_tryTaps 83 = .ok (.istore 8, 2) := by decide +kernel
theorem dX3_tryTaps_85 : decode cX3_tryTaps 85 = .ok (.iload 8, 2) := by decide +kernel
theorem dX3_tryTaps_87 : decode cX3_tryTaps 87 = .ok (.iload 7, 2) := by decide +kernel
theorem dX3_tryTaps_89 : decode cX3_tryTaps 89 = .ok (.if_icmp .gt 78, 3) := by decide +kernel
theorem dX3_tryTaps_92 : decode cX3_tryTaps 92 = .ok (.iload_n 3, 1) := by decide +kernel
theorem dX3_tryTaps_93 : decode cX3_tryTaps 93 = .ok (.sipush 1000, 3) := by decide +kernel
theorem dX3_tryTaps_96 : decode cX3_tryTaps 96 = .ok (.iload 8, 2) := by decide +kernel
theorem dX3_tryTaps_98 : decode cX3_tryTaps 98 = .ok (.aload 5, 2) := by decide +kernel
theorem dX3_tryTaps_100 : decode cX3_tryTaps 100 = .ok (.getfield 56, 3) := by decide +kernel
theorem dX3_tryTaps_103 : decode cX3_tryTaps 103 = .ok (.imul, 1) := by decide +kernel
theorem dX3_tryTaps_104 : decode cX3_tryTaps 104 = .ok (.iadd, 1) := by decide +kernel
theorem dX3_tryTaps_105 : decode cX3_tryTaps 105 = .ok (.invokestatic 59, 3) := by decide +kernel
theorem dX3_tryTaps_108 : decode cX3_tryTaps 108 = .ok (.istore 9, 2) := by decide +kernel
theorem dX3_tryTaps_110 : decode cX3_tryTaps 110 = .ok (.iload 4, 2) := by decide +kernel
theorem dX3_tryTaps_112 : decode cX3_tryTaps 112 = .ok (.iload 9, 2) := by decide +kernel
theorem dX3_tryTaps_114 : decode cX3_tryTaps 114 = .ok (.aload 5, 2) := by decide +kernel
theorem dX3_tryTaps_116 : decode cX3_tryTaps 116 = .ok (.getfield 63, 3) := by decide +kernel
theorem dX3_tryTaps_119 : decode cX3_tryTaps 119 = .ok (.isub, 1) := by decide +kernel
theorem dX3_tryTaps_120 : decode cX3_tryTaps 120 = .ok (.invokestatic 66, 3) := by decide +kernel
theorem dX3_tryTaps_123 : decode cX3_tryTaps 123 = .ok (.iadd, 1) := by decide +kernel
theorem dX3_tryTaps_124 : decode cX3_tryTaps 124 = .ok (.istore 10, 2) := by decide +kernel
theorem dX3_tryTaps_126 : decode cX3_tryTaps 126 = .ok (.iload 10, 2) := by decide +kernel
theorem dX3_tryTaps_128 : decode cX3_tryTaps 128 = .ok (.aload_n 0, 1) := by decide +kernel
theorem dX3_tryTaps_129 : decode cX3_tryTaps 129 = .ok (.getfield 21, 3) := by decide +kernel
theorem dX3_tryTaps_132 : decode cX3_tryTaps 132 = .ok (.if_icmp .ge 29, 3) := by decide +kernel
theorem dX3_tryTaps_135 : decode cX3_tryTaps 135 = .ok (.aload_n 0, 1) := by decide +kernel
theorem dX3_tryTaps_136 : decode cX3_tryTaps 136 = .ok (.getfield 9, 3) := by decide +kernel
theorem dX3_tryTaps_139 : decode cX3_tryTaps 139 = .ok (.iload_n 2, 1) := by decide +kernel
theorem dX3_tryTaps_140 : decode cX3_tryTaps 140 = .ok (.iload 8, 2) := by decide +kernel
theorem dX3_tryTaps_142 : decode cX3_tryTaps 142 = .ok (.iastore, 1) := by decide +kernel
theorem dX3_tryTaps_143 : decode cX3_tryTaps 143 = .ok (.aload_n 0, 1) := by decide +kernel
theorem dX3_tryTaps_144 : decode cX3_tryTaps 144 = .ok (.aload_n 1, 1) := by decide +kernel
theorem dX3_tryTaps_145 : decode cX3_tryTaps 145 = .ok (.iload_n 2, 1) := by decide +kernel
theorem dX3_tryTaps_146 : decode cX3_tryTaps 146 = .ok (.iconst 1, 1) := by decide +kernel
theorem dX3_tryTaps_147 : decode cX3_tryTaps 147 = .ok (.iadd, 1) := by decide +kernel
theorem dX3_tryTaps_148 : decode cX3_tryTaps 148 = .ok (.iload 9, 2) := by decide +kernel
theorem dX3_tryTaps_150 : decode cX3_tryTaps 150 = .ok (.aload_n 1, 1) := by decide +kernel
theorem dX3_tryTaps_151 : decode cX3_tryTaps 151 = .ok (.iload_n 2, 1) := by decide +kernel
theorem dX3_tryTaps_152 : decode cX3_tryTaps 152 = .ok (.invokevirtual 72, 3) := by decide +kernel
theorem dX3_tryTaps_155 : decode cX3_tryTaps 155 = .ok (.isub, 1) := by decide +kernel
theorem dX3_tryTaps_156 : decode cX3_tryTaps 156 = .ok (.iload 10, 2) := by decide +kernel
theorem dX3_tryTaps_158 : decode cX3_tryTaps 158 = .ok (.invokestatic 30, 3) := by decide +kernel
theorem dX3_tryTaps_161 : decode cX3_tryTaps 161 = .ok (.iinc 8 1, 3) := by decide +kernel
theorem dX3_tryTaps_164 : decode cX3_tryTaps 164 = .ok (.goto (-79), 3) := by decide +kernel
theorem dX3_tryTaps_167 : decode cX3_tryTaps 167 = .ok (.return_, 1) := by decide +kernel
theorem dX4_init_0 : decode cX4_init 0 = .ok (.aload_n 0, 1) := by decide +kernel
theorem dX4_init_1 : decode cX4_init 1 = .ok (.invokespecial 3, 3) := by decide +kernel
theorem dX4_init_4 : decode cX4_init 4 = .ok (.return_, 1) := by decide +kernel
theorem dX4_layDown_0 : decode cX4_layDown 0 = .ok (.aload_n 1, 1) := by decide +kernel
theorem dX4_layDown_1 : decode cX4_layDown 1 = .ok (.arraylength, 1) := by decide +kernel
theorem dX4_layDown_2 : decode cX4_layDown 2 = .ok (.getstatic 9, 3) := by decide +kernel
theorem dX4_layDown_5 : decode cX4_layDown 5 = .ok (.arraylength, 1) := by decide +kernel
theorem dX4_layDown_6 : decode cX4_layDown 6 = .ok (.if_icmp .ge 4, 3) := by decide +kernel
theorem dX4_layDown_9 : decode cX4_layDown 9 = .ok (.return_, 1) := by decide +kernel
theorem dX4_layDown_10 : decode cX4_layDown 10 = .ok (.aload_n 0, 1) := by decide +kernel
theorem dX4_layDown_11 : decode cX4_layDown 11 = .ok (.aload_n 1, 1) := by decide +kernel
theorem dX4_layDown_12 : decode cX4_layDown 12 = .ok (.iconst 0, 1) := by decide +kernel
theorem dX4_layDown_13 : decode cX4_layDown 13 = .ok (.iaload, 1) := by decide +kernel
theorem dX4_layDown_14 : decode cX4_layDown 14 = .ok (.putfield 13, 3) := by decide +kernel
theorem dX4_layDown_17 : decode cX4_layDown 17 = .ok (.aload_n 0, 1) := by decide +kernel
theorem dX4_layDown_18 : decode cX4_layDown 18 = .ok (.aload_n 1, 1) := by decide +kernel
theorem dX4_layDown_19 : decode cX4_layDown 19 = .ok (.iconst 1, 1) := by decide +kernel
theorem dX4_layDown_20 : decode cX4_layDown 20 = .ok (.iaload, 1) := by decide +kernel
theorem dX4_layDown_21 : decode cX4_layDown 21 = .ok (.putfield 19, 3) := by decide +kernel
theorem dX4_layDown_24 : decode cX4_layDown 24 = .ok (.aload_n 0, 1) := by decide +kernel
theorem dX4_layDown_25 : decode cX4_layDown 25 = .ok (.aload_n 1, 1) := by decide +kernel
theorem dX4_layDown_26 : decode cX4_layDown 26 = .ok (.iconst 2, 1) := by decide +kernel
theorem dX4_layDown_27 : decode cX4_layDown 27 = .ok (.iaload, 1) := by decide +kernel
theorem dX4_layDown_28 : decode cX4_layDown 28 = .ok (.putfield 22, 3) := by decide +kernel
theorem dX4_layDown_31 : decode cX4_layDown 31 = .ok (.aload_n 0, 1) := by decide +kernel
theorem dX4_layDown_32 : decode cX4_layDown 32 = .ok (.aload_n 1, 1) := by decide +kernel
theorem dX4_layDown_33 : decode cX4_layDown 33 = .ok (.iconst 3, 1) := by decide +kernel
theorem dX4_layDown_34 : decode cX4_layDown 34 = .ok (.iaload, 1) := by decide +kernel
theorem dX4_layDown_35 : decode cX4_layDown 35 = .ok (.putfield 25, 3) := by decide +kernel
theorem dX4_layDown_38 : decode cX4_layDown 38 = .ok (.aload_n 0, 1) := by decide +kernel
theorem dX4_layDown_39 : decode cX4_layDown 39 = .ok (.aload_n 1, 1) := by decide +kernel
theorem dX4_layDown_40 : decode cX4_layDown 40 = .ok (.iconst 4, 1) := by decide +kernel
theorem dX4_layDown_41 : decode cX4_layDown 41 = .ok (.iaload, 1) := by decide +kernel
theorem dX4_layDown_42 : decode cX4_layDown 42 = .ok (.putfield 28, 3) := by decide +kernel
theorem dX4_layDown_45 : decode cX4_layDown 45 = .ok (.aload_n 0, 1) := by decide +kernel
theorem dX4_layDown_46 : decode cX4_layDown 46 = .ok (.aload_n 1, 1) := by decide +kernel
theorem dX4_layDown_47 : decode cX4_layDown 47 = .ok (.iconst 5, 1) := by decide +kernel
theorem dX4_layDown_48 : decode cX4_layDown 48 = .ok (.iaload, 1) := by decide +kernel
theorem dX4_layDown_49 : decode cX4_layDown 49 = .ok (.putfield 31, 3) := by decide +kernel
theorem dX4_layDown_52 : decode cX4_layDown 52 = .ok (.aload_n 0, 1) := by decide +kernel
theorem dX4_layDown_53 : decode cX4_layDown 53 = .ok (.aload_n 1, 1) := by decide +kernel
theorem dX4_layDown_54 : decode cX4_layDown 54 = .ok (.bipush 6, 2) := by decide +kernel
theorem dX4_layDown_56 : decode cX4_layDown 56 = .ok (.iaload, 1) := by decide +kernel
theorem dX4_layDown_57 : decode cX4_layDown 57 = .ok (.putfield 34, 3) := by decide +kernel
theorem dX4_layDown_60 : decode cX4_layDown 60 = .ok (.aload_n 0, 1) := by decide +kernel
theorem dX4_layDown_61 : decode cX4_layDown 61 = .ok (.iconst 0, 1) := by decide +kernel
theorem dX4_layDown_62 : decode cX4_layDown 62 = .ok (.putfield 37, 3) := by decide +kernel
theorem dX4_layDown_65 : decode cX4_layDown 65 = .ok (.aload_n 0, 1) := by decide +kernel
theorem dX4_layDown_66 : decode cX4_layDown 66 = .ok (.iconst 0, 1) := by decide +kernel
theorem dX4_layDown_67 : decode cX4_layDown 67 = .ok (.putfield 40, 3) := by decide +kernel
theorem dX4_layDown_70 : decode cX4_layDown 70 = .ok (.aload_n 0, 1) := by decide +kernel
theorem dX4_layDown_71 : decode cX4_layDown 71 = .ok (.iconst 0, 1) := by decide +kernel
theorem dX4_layDown_72 : decode cX4_layDown 72 = .ok (.putfield 43, 3) := by decide +kernel
theorem dX4_layDown_75 : decode cX4_layDown 75 = .ok (.aload_n 0, 1) := by decide +kernel
theorem dX4_layDown_76 : decode cX4_layDown 76 = .ok (.iconst 0, 1) := by decide +kernel
theorem dX4_layDown_77 : decode cX4_layDown 77 = .ok (.putfield 46, 3) := by decide +kernel
theorem dX4_layDown_80 : decode cX4_layDown 80 = .ok (.aload_n 0, 1) := by decide +kernel
theorem dX4_layDown_81 : decode cX4_layDown 81 = .ok (.iconst 0, 1) := by decide +kernel
theorem dX4_layDown_82 : decode cX4_layDown 82 = .ok (.putfield 49, 3) := by decide +kernel
theorem dX4_layDown_85 : decode cX4_layDown 85 = .ok (.return_, 1) := by decide +kernel
theorem dX4_copyFrom_0 : decode cX4_copyFrom 0 = .ok (.aload_n 0, 1) := by decide +kernel
theorem dX4_copyFrom_1 : decode cX4_copyFrom 1 = .ok (.aload_n 1, 1) := by decide +kernel
theorem dX4_copyFrom_2 : decode cX4_copyFrom 2 = .ok (.getfield 13, 3) := by decide +kernel
theorem dX4_copyFrom_5 : decode cX4_copyFrom 5 = .ok (.putfield 13, 3) := by decide +kernel
theorem dX4_copyFrom_8 : decode cX4_copyFrom 8 = .ok (.aload_n 0, 1) := by decide +kernel
theorem dX4_copyFrom_9 : decode cX4_copyFrom 9 = .ok (.aload_n 1, 1) := by decide +kernel
theorem dX4_copyFrom_10 : decode cX4_copyFrom 10 = .ok (.getfield 19, 3) := by decide +kernel
theorem dX4_copyFrom_13 : decode cX4_copyFrom 13 = .ok (.putfield 19, 3) := by decide +kernel
theorem dX4_copyFrom_16 : decode cX4_copyFrom 16 = .ok (.aload_n 0, 1) := by decide +kernel
theorem dX4_copyFrom_17 : decode cX4_copyFrom 17 = .ok (.aload_n 1, 1) := by decide +kernel
theorem dX4_copyFrom_18 : decode cX4_copyFrom 18 = .ok (.getfield 22, 3) := by decide +kernel
theorem dX4_copyFrom_21 : decode cX4_copyFrom 21 = .ok (.putfield 22, 3) := by decide +kernel
theorem dX4_copyFrom_24 : decode cX4_copyFrom 24 = .ok (.aload_n 0, 1) := by decide +kernel
theorem dX4_copyFrom_25 : decode cX4_copyFrom 25 = .ok (.aload_n 1, 1) := by decide +kernel
theorem dX4_copyFrom_26 : decode cX4_copyFrom 26 = .ok (.getfield 25, 3) := by decide +kernel
theorem dX4_copyFrom_29 : decode cX4_copyFrom 29 = .ok (.putfield 25, 3) := by decide +kernel
theorem dX4_copyFrom_32 : decode cX4_copyFrom 32 = .ok (.aload_n 0, 1) := by decide +kernel
theorem dX4_copyFrom_33 : decode cX4_copyFrom 33 = .ok (.aload_n 1, 1) := by decide +kernel
theorem dX4_copyFrom_34 : decode cX4_copyFrom 34 = .ok (.getfield 28, 3) := by decide +kernel
theorem dX4_copyFrom_37 : decode cX4_copyFrom 37 = .ok (.putfield 28, 3) := by decide +kernel
theorem dX4_copyFrom_40 : decode cX4_copyFrom 40 = .ok (.aload_n 0, 1) := by decide +kernel
theorem dX4_copyFrom_41 : decode cX4_copyFrom 41 = .ok (.aload_n 1, 1) := by decide +kernel
theorem dX4_copyFrom_42 : decode cX4_copyFrom 42 = .ok (.getfield 31, 3) := by decide +kernel
theorem dX4_copyFrom_45 : decode cX4_copyFrom 45 = .ok (.putfield 31, 3) := by decide +kernel
theorem dX4_copyFrom_48 : decode cX4_copyFrom 48 = .ok (.aload_n 0, 1) := by decide +kernel
theorem dX4_copyFrom_49 : decode cX4_copyFrom 49 = .ok (.aload_n 1, 1) := by decide +kernel
theorem dX4_copyFrom_50 : decode cX4_copyFrom 50 = .ok (.getfield 34, 3) := by decide +kernel
theorem dX4_copyFrom_53 : decode cX4_copyFrom 53 = .ok (.putfield 34, 3) := by decide +kernel
theorem dX4_copyFrom_56 : decode cX4_copyFrom 56 = .ok (.aload_n 0, 1) := by decide +kernel
theorem dX4_copyFrom_57 : decode cX4_copyFrom 57 = .ok (.aload_n 1, 1) := by decide +kernel
theorem dX4_copyFrom_58 : decode cX4_copyFrom 58 = .ok (.getfield 37, 3) := by decide +kernel
theorem dX4_copyFrom_61 : decode cX4_copyFrom 61 = .ok (.putfield 37, 3) := by decide +kernel
theorem dX4_copyFrom_64 : decode cX4_copyFrom 64 = .ok (.aload_n 0, 1) := by decide +kernel
theorem dX4_copyFrom_65 : decode cX4_copyFrom 65 = .ok (.aload_n 1, 1) := by decide +kernel
theorem dX4_copyFrom_66 : decode cX4_copyFrom 66 = .ok (.getfield 40, 3) := by decide +kernel
theorem dX4_copyFrom_69 : decode cX4_copyFrom 69 = .ok (.putfield 40, 3) := by decide +kernel
theorem dX4_copyFrom_72 : decode cX4_copyFrom 72 = .ok (.aload_n 0, 1) := by decide +kernel
theorem dX4_copyFrom_73 : decode cX4_copyFrom 73 = .ok (.aload_n 1, 1) := by decide +kernel
theorem dX4_copyFrom_74 : decode cX4_copyFrom 74 = .ok (.getfield 43, 3) := by decide +kernel
theorem dX4_copyFrom_77 : decode cX4_copyFrom 77 = .ok (.putfield 43, 3) := by decide +kernel
theorem dX4_copyFrom_80 : decode cX4_copyFrom 80 = .ok (.aload_n 0, 1) := by decide +kernel
theorem dX4_copyFrom_81 : decode cX4_copyFrom 81 = .ok (.aload_n 1, 1) := by decide +kernel
theorem dX4_copyFrom_82 : decode cX4_copyFrom 82 = .ok (.getfield 46, 3) := by decide +kernel
theorem dX4_copyFrom_85 : decode cX4_copyFrom 85 = .ok (.putfield 46, 3) := by decide +kernel
theorem dX4_copyFrom_88 : decode cX4_copyFrom 88 = .ok (.aload_n 0, 1) := by decide +kernel
theorem dX4_copyFrom_89 : decode cX4_copyFrom 89 = .ok (.aload_n 1, 1) := by decide +kernel
theorem dX4_copyFrom_90 : decode cX4_copyFrom 90 = .ok (.getfield 49, 3) := by decide +kernel
theorem dX4_copyFrom_93 : decode cX4_copyFrom 93 = .ok (.putfield 49, 3) := by decide +kernel
theorem dX4_copyFrom_96 : decode cX4_copyFrom 96 = .ok (.aload_n 0, 1) := by decide +kernel
theorem dX4_copyFrom_97 : decode cX4_copyFrom 97 = .ok (.aload_n 1, 1) := by decide +kernel
theorem dX4_copyFrom_98 : decode cX4_copyFrom 98 = .ok (.getfield 53, 3) := by decide +kernel
theorem dX4_copyFrom_101 : decode cX4_copyFrom 101 = .ok (.putfield 53, 3) := by decide +kernel
theorem dX4_copyFrom_104 : decode cX4_copyFrom 104 = .ok (.aload_n 0, 1) := by decide +kernel
theorem dX4_copyFrom_105 : decode cX4_copyFrom 105 = .ok (.aload_n 1, 1) := by decide +kernel
theorem dX4_copyFrom_106 : decode cX4_copyFrom 106 = .ok (.getfield 56, 3) := by decide +kernel
theorem dX4_copyFrom_109 : decode cX4_copyFrom 109 = .ok (.putfield 56, 3) := by decide +kernel
theorem dX4_copyFrom_112 : decode cX4_copyFrom 112 = .ok (.aload_n 0, 1) := by decide +kernel
theorem dX4_copyFrom_113 : decode cX4_copyFrom 113 = .ok (.aload_n 1, 1) := by decide +kernel
theorem dX4_copyFrom_114 : decode cX4_copyFrom 114 = .ok (.getfield 59, 3) := by decide +kernel
theorem dX4_copyFrom_117 : decode cX4_copyFrom 117 = .ok (.putfield 59, 3) := by decide +kernel
theorem dX4_copyFrom_120 : decode cX4_copyFrom 120 = .ok (.return_, 1) := by decide +kernel
theorem dX4_turned_0 : decode cX4_turned 0 = .ok (.sipush 1000, 3) := by decide +kernel
theorem dX4_turned_3 : decode cX4_turned 3 = .ok (.aload_n 0, 1) := by decide +kernel
theorem dX4_turned_4 : decode cX4_turned 4 = .ok (.getfield 37, 3) := by decide +kernel
theorem dX4_turned_7 : decode cX4_turned 7 = .ok (.aload_n 0, 1) := by decide +kernel
theorem dX4_turned_8 : decode cX4_turned 8 = .ok (.getfield 13, 3) := by decide +kernel
theorem dX4_turned_11 : decode cX4_turned 11 = .ok (.imul, 1) := by decide +kernel
theorem dX4_turned_12 : decode cX4_turned 12 = .ok (.iadd, 1) := by decide +kernel
theorem dX4_turned_13 : decode cX4_turned 13 = .ok (.ireturn, 1) := by decide +kernel
theorem dX4_off_0 : decode cX4_off 0 = .ok (.aload_n 0, 1) := by decide +kernel
theorem dX4_off_1 : decode cX4_off 1 = .ok (.getfield 59, 3) := by decide +kernel
theorem dX4_off_4 : decode cX4_off 4 = .ok (.aload_n 0, 1) := by decide +kernel
theorem dX4_off_5 : decode cX4_off 5 = .ok (.getfield 19, 3) := by decide +kernel
theorem dX4_off_8 : decode cX4_off 8 = .ok (.isub, 1) := by decide +kernel
theorem dX4_off_9 : decode cX4_off 9 = .ok (.invokestatic 62, 3) := by decide +kernel
theorem dX4_off_12 : decode cX4_off 12 = .ok (.ireturn, 1) := by decide +kernel
theorem dX4_judged_0 : decode cX4_judged 0 = .ok (.aload_n 0, 1) := by decide +kernel
theorem dX4_judged_1 : decode cX4_judged 1 = .ok (.getfield 59, 3) := by decide +kernel
theorem dX4_judged_4 : decode cX4_judged 4 = .ok (.aload_n 0, 1) := by decide +kernel
theorem dX4_judged_5 : decode cX4_judged 5 = .ok (.getfield 19, 3) := by decide +kernel
theorem dX4_judged_8 : decode cX4_judged 8 = .ok (.aload_n 0, 1) := by decide +kernel
theorem dX4_judged_9 : decode cX4_judged 9 = .ok (.getfield 22, 3) := by decide +kernel
theorem dX4_judged_12 : decode cX4_judged 12 = .ok (.isub, 1) := by decide +kernel
theorem dX4_judged_13 : decode cX4_judged 13 = .ok (.if_icmp .ge 5, 3) := by decide +kernel
theorem dX4_judged_16 : decode cX4_judged 16 = .ok (.iconst 1, 1) := by decide +kernel
theorem dX4_judged_17 : decode cX4_judged 17 = .ok (.ireturn, 1) := by decide +kernel
theorem dX4_judged_18 : decode cX4_judged 18 = .ok (.aload_n 0, 1) := by decide +kernel
theorem dX4_judged_19 : decode cX4_judged 19 = .ok (.getfield 59, 3) := by decide +kernel
theorem dX4_judged_22 : decode cX4_judged 22 = .ok (.aload_n 0, 1) := by decide +kernel
theorem dX4_judged_23 : decode cX4_judged 23 = .ok (.getfield 19, 3) := by decide +kernel
theorem dX4_judged_26 : decode cX4_judged 26 = .ok (.aload_n 0, 1) := by decide +kernel
theorem dX4_judged_27 : decode cX4_judged 27 = .ok (.getfield 22, 3) := by decide +kernel
theorem dX4_judged_30 : decode cX4_judged 30 = .ok (.iadd, 1) := by decide +kernel
theorem dX4_judged_31 : decode cX4_judged 31 = .ok (.if_icmp .le 7, 3) := by decide +kernel
theorem dX4_judged_34 : decode cX4_judged 34 = .ok (.iconst 2, 1) := by decide +kernel
theorem dX4_judged_35 : decode cX4_judged 35 = .ok (.goto 4, 3) := by decide +kernel
theorem dX4_judged_38 : decode cX4_judged 38 = .ok (.iconst 0, 1) := by decide +kernel
theorem dX4_judged_39 : decode cX4_judged 39 = .ok (.ireturn, 1) := by decide +kernel
set_option maxRecDepth 20000 in
theorem ggX4_wants_X4_judged : GoodIn wsX4_wants wsX4_judged := goodIn_r _ [7, 8, 9, 10, 11, 12, 13, 14, 15, 16, 17, 18, 19, 20, 21, 22, 23, 24, 25] (by decide +kernel) (by decide +kernel)
set_option maxRecDepth 20000 in
theorem gX4_wants_X4_judged : GoodIn wsX4_wants (wsV RX4 68 RX4 yX4_judged wsX4_judged) := goodIn_app (goodIn_of _ (by decide +kernel)) ggX4_wants_X4_judged
theorem dX4_wants_0 : decode cX4_wants 0 = .ok (.aload_n 0, 1) := by decide +kernel
theorem dX4_wants_1 : decode cX4_wants 1 = .ok (.invokevirtual 68, 3) := by decide +kernel
theorem dX4_wants_4 : decode cX4_wants 4 = .ok (.istore_n 1, 1) := by decide +kernel
theorem dX4_wants_5 : decode cX4_wants 5 = .ok (.iload_n 1, 1) := by decide +kernel
theorem dX4_wants_6 : decode cX4_wants 6 = .ok (.ifCond .eq 18, 3) := by decide +kernel
theorem dX4_wants_9 : decode cX4_wants 9 = .ok (.aload_n 0, 1) := by decide +kernel
theorem dX4_wants_10 : decode cX4_wants 10 = .ok (.getfield 53, 3) := by decide +kernel
theorem dX4_wants_13 : decode cX4_wants 13 = .ok (.ifCond .ge 13, 3) := by decide +kernel
theorem dX4_wants_16 : decode cX4_wants 16 = .ok (.aload_n 0, 1) := by decide +kernel
theorem dX4_wants_17 : decode cX4_wants 17 = .ok (.getfield 28, 3) := by decide +kernel
theorem dX4_wants_20 : decode cX4_wants 20 = .ok (.iconst 1, 1) := by decide +kernel
theorem dX4_wants_21 : decode cX4_wants 21 = .ok (.if_icmp .ne 5, 3) := by decide +kernel
theorem dX4_wants_24 : decode cX4_wants 24 = .ok (.iconst 0, 1) := by decide +kernel
theorem dX4_wants_25 : decode cX4_wants 25 = .ok (.ireturn, 1) := by decide +kernel
theorem dX4_wants_26 : decode cX4_wants 26 = .ok (.aload_n 0, 1) := by decide +kernel
theorem dX4_wants_27 : decode cX4_wants 27 = .ok (.getfield 53, 3) := by decide +kernel
theorem dX4_wants_30 : decode cX4_wants 30 = .ok (.ifCond .ge 15, 3) := by decide +kernel
theorem dX4_wants_33 : decode cX4_wants 33 = .ok (.aload_n 0, 1) := by decide +kernel
theorem dX4_wants_34 : decode cX4_wants 34 = .ok (.getfield 28, 3) := by decide +kernel
theorem dX4_wants_37 : decode cX4_wants 37 = .ok (.iconst 2, 1) := by decide +kernel
theorem dX4_wants_38 : decode cX4_wants 38 = .ok (.if_icmp .ne 7, 3) := by decide +kernel
theorem dX4_wants_41 : decode cX4_wants 41 = .ok (.iconst 1, 1) := by decide +kernel
theorem dX4_wants_42 : decode cX4_wants 42 = .ok (.goto 4, 3) := by decide +kernel
theorem dX4_wants_45 : decode cX4_wants 45 = .ok (.iconst 0, 1) := by decide +kernel
theorem dX4_wants_46 : decode cX4_wants 46 = .ok (.istore_n 2, 1) := by decide +kernel
theorem dX4_wants_47 : decode cX4_wants 47 = .ok (.iload_n 1, 1) := by decide +kernel
theorem dX4_wants_48 : decode cX4_wants 48 = .ok (.iconst 1, 1) := by decide +kernel
theorem dX4_wants_49 : decode cX4_wants 49 = .ok (.if_icmp .ne 7, 3) := by decide +kernel
theorem dX4_wants_52 : decode cX4_wants 52 = .ok (.iconst 1, 1) := by decide +kernel
theorem dX4_wants_53 : decode cX4_wants 53 = .ok (.goto 4, 3) := by decide +kernel
theorem dX4_wants_56 : decode cX4_wants 56 = .ok (.iconst 0, 1) := by decide +kernel
theorem dX4_wants_57 : decode cX4_wants 57 = .ok (.iload_n 2, 1) := by decide +kernel
theorem dX4_wants_58 : decode cX4_wants 58 = .ok (.if_icmp .eq 7, 3) := by decide +kernel
theorem dX4_wants_61 : decode cX4_wants 61 = .ok (.iconst 1, 1) := by decide +kernel
theorem dX4_wants_62 : decode cX4_wants 62 = .ok (.goto 4, 3) := by decide +kernel
theorem dX4_wants_65 : decode cX4_wants 65 = .ok (.iconst 2, 1) := by decide +kernel
theorem dX4_wants_66 : decode cX4_wants 66 = .ok (.ireturn, 1) := by decide +kernel
set_option maxRecDepth 20000 in
theorem ggX4_canAsItWants_X4_wants : GoodIn wsX4_canAsItWants wsX4_wants := goodIn_r _ [7, 8, 9, 10, 11, 12, 6, 13, 14, 15, 16, 17, 18, 19, 20, 21, 22, 23, 24, 25, 26, 27, 28, 29, 30, 31] (by decide +kernel) (by decide +kernel)
set_option maxRecDepth 20000 in
theorem gX4_canAsItWants_X4_wants : GoodIn wsX4_canAsItWants (wsV RX4 72 RX4 yX4_wants wsX4_wants) := goodIn_app (goodIn_of _ (by decide +kernel)) ggX4_canAsItWants_X4_wants
theorem dX4_canAsItWants_0 : decode cX4_canAsItWants 0 = .ok (.aload_n 0, 1) := by decide +kernel
theorem dX4_canAsItWants_1 : decode cX4_canAsItWants 1 = .ok (.getfield 49, 3) := by decide +kernel
theorem dX4_canAsItWants_4 : decode cX4_canAsItWants 4 = .ok (.ifCond .eq 5, 3) := by decide +kernel
theorem dX4_canAsItWants_7 : decode cX4_canAsItWants 7 = .ok (.iconst 0, 1) := by decide +kernel
theorem dX4_canAsItWants_8 : decode cX4_canAsItWants 8 = .ok (.ireturn, 1) := by decide +kernel
theorem dX4_canAsItWants_9 : decode cX4_canAsItWants 9 = .ok (.aload_n 0, 1) := by decide +kernel
theorem dX4_canAsItWants_10 : decode cX4_canAsItWants 10 = .ok (.invokevirtual 72, 3) := by decide +kernel
theorem dX4_canAsItWants_13 : decode cX4_canAsItWants 13 = .ok (.lookupswitch 56 #[(1, 27), (2, 41)], 27) := by decide +kernel
theorem dX4_canAsItWants_40 : decode cX4_canAsItWants 40 = .ok (.aload_n 0, 1) := by decide +kernel
theorem dX4_canAsItWants_41 : decode cX4_canAsItWants 41 = .ok (.getfield 37, 3) := by decide +kernel
theorem dX4_canAsItWants_44 : decode cX4_canAsItWants 44 = .ok (.iconst 5, 1) := by decide +kernel
theorem dX4_canAsItWants_45 : decode cX4_canAsItWants 45 = .ok (.if_icmp .ge 7, 3) := by decide +kernel
theorem dX4_canAsItWants_48 : decode cX4_canAsItWants 48 = .ok (.iconst 1, 1) := by decide +kernel
theorem dX4_canAsItWants_49 : decode cX4_canAsItWants 49 = .ok (.goto 4, 3) := by decide +kernel
theorem dX4_canAsItWants_52 : decode cX4_canAsItWants 52 = .ok (.iconst 0, 1) := by decide +kernel
theorem dX4_canAsItWants_53 : decode cX4_canAsItWants 53 = .ok (.ireturn, 1) := by decide +kernel
theorem dX4_canAsItWants_54 : decode cX4_canAsItWants 54 = .ok (.aload_n 0, 1) := by decide +kernel
theorem dX4_canAsItWants_55 : decode cX4_canAsItWants 55 = .ok (.getfield 37, 3) := by decide +kernel
theorem dX4_canAsItWants_58 : decode cX4_canAsItWants 58 = .ok (.bipush (-5), 2) := by decide +kernel
theorem dX4_canAsItWants_60 : decode cX4_canAsItWants 60 = .ok (.if_icmp .le 7, 3) := by decide +kernel
theorem dX4_canAsItWants_63 : decode cX4_canAsItWants 63 = .ok (.iconst 1, 1) := by decide +kernel
theorem dX4_canAsItWants_64 : decode cX4_canAsItWants 64 = .ok (.goto 4, 3) := by decide +kernel
theorem dX4_canAsItWants_67 : decode cX4_canAsItWants 67 = .ok (.iconst 0, 1) := by decide +kernel
theorem dX4_canAsItWants_68 : decode cX4_canAsItWants 68 = .ok (.ireturn, 1) := by decide +kernel
theorem dX4_canAsItWants_69 : decode cX4_canAsItWants 69 = .ok (.iconst 0, 1) := by decide +kernel
theorem dX4_canAsItWants_70 : decode cX4_canAsItWants 70 = .ok (.ireturn, 1) := by decide +kernel
set_option maxRecDepth 20000 in
theorem ggX4_countOn_X4_wants : GoodIn wsX4_countOn wsX4_wants := goodIn_r _ [7, 8, 9, 10, 11, 12, 6, 13, 14, 15, 16, 17, 18, 19, 20, 21, 22, 23, 24, 25, 26, 27, 28, 29, 30, 31] (by decide +kernel) (by decide +kernel)
set_option maxRecDepth 20000 in
theorem gX4_countOn_X4_wants : GoodIn wsX4_countOn (wsV RX4 72 RX4 yX4_wants wsX4_wants) := goodIn_app (goodIn_of _ (by decide +kernel)) ggX4_countOn_X4_wants
theorem dX4_countOn_0 : decode cX4_countOn 0 = .ok (.aload_n 0, 1) := by decide +kernel
theorem dX4_countOn_1 : decode cX4_countOn 1 = .ok (.invokevirtual 72, 3) := by decide +kernel
theorem dX4_countOn_4 : decode cX4_countOn 4 = .ok (.istore_n 1, 1) := by decide +kernel
theorem dX4_countOn_5 : decode cX4_countOn 5 = .ok (.iload_n 1, 1) := by decide +kernel
theorem dX4_countOn_6 : decode cX4_countOn 6 = .ok (.ifCond .ne 11, 3) := by decide +kernel
theorem dX4_countOn_9 : decode cX4_countOn 9 = .ok (.aload_n 0, 1) := by decide +kernel
theorem dX4_countOn_10 : decode cX4_countOn 10 = .ok (.iconst 0, 1) := by decide +kernel
theorem dX4_countOn_11 : decode cX4_countOn 11 = .ok (.putfield 40, 3) := by decide +kernel
theorem dX4_countOn_14 : decode cX4_countOn 14 = .ok (.goto 25, 3) := by decide +kernel
theorem dX4_countOn_17 : decode cX4_countOn 17 = .ok (.aload_n 0, 1) := by decide +kernel
theorem dX4_countOn_18 : decode cX4_countOn 18 = .ok (.iload_n 1, 1) := by decide +kernel
theorem dX4_countOn_19 : decode cX4_countOn 19 = .ok (.aload_n 0, 1) := by decide +kernel
theorem dX4_countOn_20 : decode cX4_countOn 20 = .ok (.getfield 43, 3) := by decide +kernel
theorem dX4_countOn_23 : decode cX4_countOn 23 = .ok (.if_icmp .ne 12, 3) := by decide +kernel
theorem dX4_countOn_26 : decode cX4_countOn 26 = .ok (.aload_n 0, 1) := by decide +kernel
theorem dX4_countOn_27 : decode cX4_countOn 27 = .ok (.getfield 40, 3) := by decide +kernel
theorem dX4_countOn_30 : decode cX4_countOn 30 = .ok (.iconst 1, 1) := by decide +kernel
theorem dX4_countOn_31 : decode cX4_countOn 31 = .ok (.iadd, 1) := by decide +kernel
theorem dX4_countOn_32 : decode cX4_countOn 32 = .ok (.goto 4, 3) := by decide +kernel
theorem dX4_countOn_35 : decode cX4_countOn 35 = .ok (.iconst 1, 1) := by decide +kernel
theorem dX4_countOn_36 : decode cX4_countOn 36 = .ok (.putfield 40, 3) := by decide +kernel
theorem dX4_countOn_39 : decode cX4_countOn 39 = .ok (.aload_n 0, 1) := by decide +kernel
theorem dX4_countOn_40 : decode cX4_countOn 40 = .ok (.iload_n 1, 1) := by decide +kernel
theorem dX4_countOn_41 : decode cX4_countOn 41 = .ok (.putfield 43, 3) := by decide +kernel
theorem dX4_countOn_44 : decode cX4_countOn 44 = .ok (.return_, 1) := by decide +kernel
theorem dX4_valueToTell_0 : decode cX4_valueToTell 0 = .ok (.iload_n 1, 1) := by decide +kernel
theorem dX4_valueToTell_1 : decode cX4_valueToTell 1 = .ok (.lookupswitch 45 #[(0, 27), (1, 36)], 27) := by decide +kernel
theorem dX4_valueToTell_28 : decode cX4_valueToTell 28 = .ok (.aload_n 0, 1) := by decide +kernel
theorem dX4_valueToTell_29 : decode cX4_valueToTell 29 = .ok (.getfield 31, 3) := by decide +kernel
theorem dX4_valueToTell_32 : decode cX4_valueToTell 32 = .ok (.sipush 1000, 3) := by decide +kernel
theorem dX4_valueToTell_35 : decode cX4_valueToTell 35 = .ok (.iadd, 1) := by decide +kernel
theorem dX4_valueToTell_36 : decode cX4_valueToTell 36 = .ok (.ireturn, 1) := by decide +kernel
theorem dX4_valueToTell_37 : decode cX4_valueToTell 37 = .ok (.aload_n 0, 1) := by decide +kernel
theorem dX4_valueToTell_38 : decode cX4_valueToTell 38 = .ok (.getfield 37, 3) := by decide +kernel
theorem dX4_valueToTell_41 : decode cX4_valueToTell 41 = .ok (.sipush 1000, 3) := by decide +kernel
theorem dX4_valueToTell_44 : decode cX4_valueToTell 44 = .ok (.iadd, 1) := by decide +kernel
theorem dX4_valueToTell_45 : decode cX4_valueToTell 45 = .ok (.ireturn, 1) := by decide +kernel
theorem dX4_valueToTell_46 : decode cX4_valueToTell 46 = .ok (.aload_n 0, 1) := by decide +kernel
theorem dX4_valueToTell_47 : decode cX4_valueToTell 47 = .ok (.getfield 25, 3) := by decide +kernel
theorem dX4_valueToTell_50 : decode cX4_valueToTell 50 = .ok (.ireturn, 1) := by decide +kernel
theorem dX4_takeTold_0 : decode cX4_takeTold 0 = .ok (.iload_n 1, 1) := by decide +kernel
theorem dX4_takeTold_1 : decode cX4_takeTold 1 = .ok (.lookupswitch 51 #[(0, 27), (1, 39)], 27) := by decide +kernel
theorem dX4_takeTold_28 : decode cX4_takeTold 28 = .ok (.aload_n 0, 1) := by decide +kernel
theorem dX4_takeTold_29 : decode cX4_takeTold 29 = .ok (.iload_n 2, 1) := by decide +kernel
theorem dX4_takeTold_30 : decode cX4_takeTold 30 = .ok (.sipush 1000, 3) := by decide +kernel
theorem dX4_takeTold_33 : decode cX4_takeTold 33 = .ok (.isub, 1) := by decide +kernel
theorem dX4_takeTold_34 : decode cX4_takeTold 34 = .ok (.putfield 31, 3) := by decide +kernel
theorem dX4_takeTold_37 : decode cX4_takeTold 37 = .ok (.goto 20, 3) := by decide +kernel
theorem dX4_takeTold_40 : decode cX4_takeTold 40 = .ok (.aload_n 0, 1) := by decide +kernel
theorem dX4_takeTold_41 : decode cX4_takeTold 41 = .ok (.iload_n 2, 1) := by decide +kernel
theorem dX4_takeTold_42 : decode cX4_takeTold 42 = .ok (.sipush 1000, 3) := by decide +kernel
theorem dX4_takeTold_45 : decode cX4_takeTold 45 = .ok (.isub, 1) := by decide +kernel
theorem dX4_takeTold_46 : decode cX4_takeTold 46 = .ok (.putfield 37, 3) := by decide +kernel
theorem dX4_takeTold_49 : decode cX4_takeTold 49 = .ok (.goto 8, 3) := by decide +kernel
theorem dX4_takeTold_52 : decode cX4_takeTold 52 = .ok (.aload_n 0, 1) := by decide +kernel
theorem dX4_takeTold_53 : decode cX4_takeTold 53 = .ok (.iload_n 2, 1) := by decide +kernel
theorem dX4_takeTold_54 : decode cX4_takeTold 54 = .ok (.putfield 25, 3) := by decide +kernel
theorem dX4_takeTold_57 : decode cX4_takeTold 57 = .ok (.return_, 1) := by decide +kernel
set_option maxRecDepth 20000 in
theorem ggX4_valueOf_X4_judged : GoodIn wsX4_valueOf wsX4_judged := goodIn_r _ [18, 12, 2, 3, 27, 28, 29, 30, 31, 32, 33, 34, 35, 36, 37, 38, 39, 40, 41] (by decide +kernel) (by decide +kernel)
set_option maxRecDepth 20000 in
theorem gX4_valueOf_X4_judged : GoodIn wsX4_valueOf (wsV RX4 68 RX4 yX4_judged wsX4_judged) := goodIn_app (goodIn_of _ (by decide +kernel)) ggX4_valueOf_X4_judged
set_option maxRecDepth 20000 in
theorem ggX4_valueOf_X4_wants : GoodIn wsX4_valueOf wsX4_wants := goodIn_r _ [22, 10, 5, 14, 15, 16, 17, 18, 12, 2, 3, 27, 28, 29, 30, 31, 32, 33, 34, 35, 36, 37, 38, 39, 40, 41] (by decide +kernel) (by decide +kernel)
set_option maxRecDepth 20000 in
theorem gX4_valueOf_X4_wants : GoodIn wsX4_valueOf (wsV RX4 72 RX4 yX4_wants wsX4_wants) := goodIn_app (goodIn_of _ (by decide +kernel)) ggX4_valueOf_X4_wants
set_option maxRecDepth 20000 in
theorem ggX4_valueOf_X4_canAsItWants : GoodIn wsX4_valueOf wsX4_canAsItWants := goodIn_r _ [26, 9, 8, 19, 20, 21, 17, 22, 10, 5, 14, 15, 16, 18, 12, 2, 3, 27, 28, 29, 30, 31, 32, 33, 34, 35, 36, 37, 38, 39, 40, 41] (by decide +kernel) (by decide +kernel)
set_option maxRecDepth 20000 in
theorem gX4_valueOf_X4_canAsItWants : GoodIn wsX4_valueOf (wsV RX4 75 RX4 yX4_canAsItWants wsX4_canAsItWants) := goodIn_app (goodIn_of _ (by decide +kernel)) ggX4_valueOf_X4_canAsItWants
theorem dX4_valueOf_0 : decode cX4_valueOf 0 = .ok (.iload_n 1, 1) := by decide +kernel
theorem dX4_valueOf_1 : decode cX4_valueOf 1 = .ok (.tableswitch 195 0 15 #[79, 84, 89, 94, 99, 104, 113, 118, 127, 140, 149, 158, 167, 172, 177, 182], 79) := by decide +kernel
theorem dX4_valueOf_80 : decode cX4_valueOf 80 = .ok (.aload_n 0, 1) := by decide +kernel
theorem dX4_valueOf_81 : decode cX4_valueOf 81 = .ok (.getfield 13, 3) := by decide +kernel
theorem dX4_valueOf_84 : decode cX4_valueOf 84 = .ok (.ireturn, 1) := by decide +kernel
theorem dX4_valueOf_85 : decode cX4_valueOf 85 = .ok (.aload_n 0, 1) := by decide +kernel
theorem dX4_valueOf_86 : decode cX4_valueOf 86 = .ok (.getfield 19, 3) := by decide +kernel
theorem dX4_valueOf_89 : decode cX4_valueOf 89 = .ok (.ireturn, 1) := by decide +kernel
theorem dX4_valueOf_90 : decode cX4_valueOf 90 = .ok (.aload_n 0, 1) := by decide +kernel
theorem dX4_valueOf_91 : decode cX4_valueOf 91 = .ok (.getfield 22, 3) := by decide +kernel
theorem dX4_valueOf_94 : decode cX4_valueOf 94 = .ok (.ireturn, 1) := by decide +kernel
theorem dX4_valueOf_95 : decode cX4_valueOf 95 = .ok (.aload_n 0, 1) := by decide +kernel
theorem dX4_valueOf_96 : decode cX4_valueOf 96 = .ok (.getfield 25, 3) := by decide +kernel
theorem dX4_valueOf_99 : decode cX4_valueOf 99 = .ok (.ireturn, 1) := by decide +kernel
theorem dX4_valueOf_100 : decode cX4_valueOf 100 = .ok (.aload_n 0, 1) := by decide +kernel
theorem dX4_valueOf_101 : decode cX4_valueOf 101 = .ok (.getfield 28, 3) := by decide +kernel
theorem dX4_valueOf_104 : decode cX4_valueOf 104 = .ok (.ireturn, 1) := by decide +kernel
theorem dX4_valueOf_105 : decode cX4_valueOf 105 = .ok (.aload_n 0, 1) := by decide +kernel
theorem dX4_valueOf_106 : decode cX4_valueOf 106 = .ok (.getfield 31, 3) := by decide +kernel
theorem dX4_valueOf_109 : decode cX4_valueOf 109 = .ok (.sipush 1000, 3) := by decide +kernel
theorem dX4_valueOf_112 : decode cX4_valueOf 112 = .ok (.iadd, 1) := by decide +kernel
theorem dX4_valueOf_113 : decode cX4_valueOf 113 = .ok (.ireturn, 1) := by decide +kernel
theorem dX4_valueOf_114 : decode cX4_valueOf 114 = .ok (.aload_n 0, 1) := by decide +kernel
theorem dX4_valueOf_115 : decode cX4_valueOf 115 = .ok (.getfield 34, 3) := by decide +kernel
theorem dX4_valueOf_118 : decode cX4_valueOf 118 = .ok (.ireturn, 1) := by decide +kernel
theorem dX4_valueOf_119 : decode cX4_valueOf 119 = .ok (.aload_n 0, 1) := by decide +kernel
theorem dX4_valueOf_120 : decode cX4_valueOf 120 = .ok (.getfield 37, 3) := by decide +kernel
theorem dX4_valueOf_123 : decode cX4_valueOf 123 = .ok (.sipush 1000, 3) := by decide +kernel
theorem dX4_valueOf_126 : decode cX4_valueOf 126 = .ok (.iadd, 1) := by decide +kernel
theorem dX4_valueOf_127 : decode cX4_valueOf 127 = .ok (.ireturn, 1) := by decide +kernel
theorem dX4_valueOf_128 : decode cX4_valueOf 128 = .ok (.aload_n 0, 1) := by decide +kernel
theorem dX4_valueOf_129 : decode cX4_valueOf 129 = .ok (.getfield 49, 3) := by decide +kernel
theorem dX4_valueOf_132 : decode cX4_valueOf 132 = .ok (.ifCond .eq 7, 3) := by decide +kernel
theorem dX4_valueOf_135 : decode cX4_valueOf 135 = .ok (.iconst 1, 1) := by decide +kernel
theorem dX4_valueOf_136 : decode cX4_valueOf 136 = .ok (.goto 4, 3) := by decide +kernel
theorem dX4_valueOf_139 : decode cX4_valueOf 139 = .ok (.iconst 0, 1) := by decide +kernel
theorem dX4_valueOf_140 : decode cX4_valueOf 140 = .ok (.ireturn, 1) := by decide +kernel
theorem dX4_valueOf_141 : decode cX4_valueOf 141 = .ok (.aload_n 0, 1) := by decide +kernel
theorem dX4_valueOf_142 : decode cX4_valueOf 142 = .ok (.getfield 53, 3) := by decide +kernel
theorem dX4_valueOf_145 : decode cX4_valueOf 145 = .ok (.sipush 1000, 3) := by decide +kernel
theorem dX4_valueOf_148 : decode cX4_valueOf 148 = .ok (.iadd, 1) := by decide +kernel
theorem dX4_valueOf_149 : decode cX4_valueOf 149 = .ok (.ireturn, 1) := by decide +kernel
theorem dX4_valueOf_150 : decode cX4_valueOf 150 = .ok (.aload_n 0, 1) := by decide +kernel
theorem dX4_valueOf_151 : decode cX4_valueOf 151 = .ok (.getfield 56, 3) := by decide +kernel
theorem dX4_valueOf_154 : decode cX4_valueOf 154 = .ok (.sipush 1000, 3) := by decide +kernel
theorem dX4_valueOf_157 : decode cX4_valueOf 157 = .ok (.iadd, 1) := by decide +kernel
theorem dX4_valueOf_158 : decode cX4_valueOf 158 = .ok (.ireturn, 1) := by decide +kernel
theorem dX4_valueOf_159 : decode cX4_valueOf 159 = .ok (.aload_n 0, 1) := by decide +kernel
theorem dX4_valueOf_160 : decode cX4_valueOf 160 = .ok (.getfield 59, 3) := by decide +kernel
theorem dX4_valueOf_163 : decode cX4_valueOf 163 = .ok (.sipush 1000, 3) := by decide +kernel
theorem dX4_valueOf_166 : decode cX4_valueOf 166 = .ok (.iadd, 1) := by decide +kernel
theorem dX4_valueOf_167 : decode cX4_valueOf 167 = .ok (.ireturn, 1) := by decide +kernel
theorem dX4_valueOf_168 : decode cX4_valueOf 168 = .ok (.aload_n 0, 1) := by decide +kernel
theorem dX4_valueOf_169 : decode cX4_valueOf 169 = .ok (.invokevirtual 68, 3) := by decide +kernel
theorem dX4_valueOf_172 : decode cX4_valueOf 172 = .ok (.ireturn, 1) := by decide +kernel
theorem dX4_valueOf_173 : decode cX4_valueOf 173 = .ok (.aload_n 0, 1) := by decide +kernel
theorem dX4_valueOf_174 : decode cX4_valueOf 174 = .ok (.invokevirtual 72, 3) := by decide +kernel
theorem dX4_valueOf_177 : decode cX4_valueOf 177 = .ok (.ireturn, 1) := by decide +kernel
theorem dX4_valueOf_178 : decode cX4_valueOf 178 = .ok (.aload_n 0, 1) := by decide +kernel
theorem dX4_valueOf_179 : decode cX4_valueOf 179 = .ok (.getfield 40, 3) := by decide +kernel
theorem dX4_valueOf_182 : decode cX4_valueOf 182 = .ok (.ireturn, 1) := by decide +kernel
theorem dX4_valueOf_183 : decode cX4_valueOf 183 = .ok (.aload_n 0, 1) := by decide +kernel
theorem dX4_valueOf_184 : decode cX4_valueOf 184 = .ok (.invokevirtual 75, 3) := by decide +kernel
theorem dX4_valueOf_187 : decode cX4_valueOf 187 = .ok (.ifCond .eq 7, 3) := by decide +kernel
theorem dX4_valueOf_190 : decode cX4_valueOf 190 = .ok (.iconst 1, 1) := by decide +kernel
theorem dX4_valueOf_191 : decode cX4_valueOf 191 = .ok (.goto 4, 3) := by decide +kernel
theorem dX4_valueOf_194 : decode cX4_valueOf 194 = .ok (.iconst 0, 1) := by decide +kernel
theorem dX4_valueOf_195 : decode cX4_valueOf 195 = .ok (.ireturn, 1) := by decide +kernel
theorem dX4_valueOf_196 : decode cX4_valueOf 196 = .ok (.iconst (-1), 1) := by decide +kernel
theorem dX4_valueOf_197 : decode cX4_valueOf 197 = .ok (.ireturn, 1) := by decide +kernel
theorem dX5_init_0 : decode cX5_init 0 = .ok (.aload_n 0, 1) := by decide +kernel
theorem dX5_init_1 : decode cX5_init 1 = .ok (.invokespecial 3, 3) := by decide +kernel
theorem dX5_init_4 : decode cX5_init 4 = .ok (.aload_n 0, 1) := by decide +kernel
theorem dX5_init_5 : decode cX5_init 5 = .ok (.bipush 20, 2) := by decide +kernel
theorem dX5_init_7 : decode cX5_init 7 = .ok (.newarray .int, 2) := by decide +kernel
theorem dX5_init_9 : decode cX5_init 9 = .ok (.putfield 9, 3) := by decide +kernel
theorem dX5_init_12 : decode cX5_init 12 = .ok (.aload_n 0, 1) := by decide +kernel
theorem dX5_init_13 : decode cX5_init 13 = .ok (.bipush 20, 2) := by decide +kernel
theorem dX5_init_15 : decode cX5_init 15 = .ok (.newarray .int, 2) := by decide +kernel
theorem dX5_init_17 : decode cX5_init 17 = .ok (.putfield 15, 3) := by decide +kernel
theorem dX5_init_20 : decode cX5_init 20 = .ok (.aload_n 0, 1) := by decide +kernel
theorem dX5_init_21 : decode cX5_init 21 = .ok (.bipush 20, 2) := by decide +kernel
theorem dX5_init_23 : decode cX5_init 23 = .ok (.newarray .int, 2) := by decide +kernel
theorem dX5_init_25 : decode cX5_init 25 = .ok (.putfield 18, 3) := by decide +kernel
theorem dX5_init_28 : decode cX5_init 28 = .ok (.return_, 1) := by decide +kernel
theorem dX5_empty_0 : decode cX5_empty 0 = .ok (.aload_n 0, 1) := by decide +kernel
theorem dX5_empty_1 : decode cX5_empty 1 = .ok (.iconst 0, 1) := by decide +kernel
theorem dX5_empty_2 : decode cX5_empty 2 = .ok (.putfield 21, 3) := by decide +kernel
theorem dX5_empty_5 : decode cX5_empty 5 = .ok (.aload_n 0, 1) := by decide +kernel
theorem dX5_empty_6 : decode cX5_empty 6 = .ok (.iconst 0, 1) := by decide +kernel
theorem dX5_empty_7 : decode cX5_empty 7 = .ok (.putfield 25, 3) := by decide +kernel
theorem dX5_empty_10 : decode cX5_empty 10 = .ok (.return_, 1) := by decide +kernel
theorem dX5_copyFrom_0 : decode cX5_copyFrom 0 = .ok (.aload_n 1, 1) := by decide +kernel
theorem dX5_copyFrom_1 : decode cX5_copyFrom 1 = .ok (.getfield 9, 3) := by decide +kernel
theorem dX5_copyFrom_4 : decode cX5_copyFrom 4 = .ok (.iconst 0, 1) := by decide +kernel
theorem dX5_copyFrom_5 : decode cX5_copyFrom 5 = .ok (.aload_n 0, 1) := by decide +kernel
theorem dX5_copyFrom_6 : decode cX5_copyFrom 6 = .ok (.getfield 9, 3) := by decide +kernel
theorem dX5_copyFrom_9 : decode cX5_copyFrom 9 = .ok (.iconst 0, 1) := by decide +kernel
theorem dX5_copyFrom_10 : decode cX5_copyFrom 10 = .ok (.bipush 20, 2) := by decide +kernel
theorem dX5_copyFrom_12 : decode cX5_copyFrom 12 = .ok (.invokestatic 28, 3) := by decide +kernel
theorem dX5_copyFrom_15 : decode cX5_copyFrom 15 = .ok (.aload_n 1, 1) := by decide +kernel
theorem dX5_copyFrom_16 : decode cX5_copyFrom 16 = .ok (.getfield 15, 3) := by decide +kernel
theorem dX5_copyFrom_19 : decode cX5_copyFrom 19 = .ok (.iconst 0, 1) := by decide +kernel
theorem dX5_copyFrom_20 : decode cX5_copyFrom 20 = .ok (.aload_n 0, 1) := by decide +kernel
theorem dX5_copyFrom_21 : decode cX5_copyFrom 21 = .ok (.getfield 15, 3) := by decide +kernel
theorem dX5_copyFrom_24 : decode cX5_copyFrom 24 = .ok (.iconst 0, 1) := by decide +kernel
theorem dX5_copyFrom_25 : decode cX5_copyFrom 25 = .ok (.bipush 20, 2) := by decide +kernel
theorem dX5_copyFrom_27 : decode cX5_copyFrom 27 = .ok (.invokestatic 28, 3) := by decide +kernel
theorem dX5_copyFrom_30 : decode cX5_copyFrom 30 = .ok (.aload_n 1, 1) := by decide +kernel
theorem dX5_copyFrom_31 : decode cX5_copyFrom 31 = .ok (.getfield 18, 3) := by decide +kernel
theorem dX5_copyFrom_34 : decode cX5_copyFrom 34 = .ok (.iconst 0, 1) := by decide +kernel
theorem dX5_copyFrom_35 : decode cX5_copyFrom 35 = .ok (.aload_n 0, 1) := by decide +kernel
theorem dX5_copyFrom_36 : decode cX5_copyFrom 36 = .ok (.getfield 18, 3) := by decide +kernel
theorem dX5_copyFrom_39 : decode cX5_copyFrom 39 = .ok (.iconst 0, 1) := by decide +kernel
theorem dX5_copyFrom_40 : decode cX5_copyFrom 40 = .ok (.bipush 20, 2) := by decide +kernel
theorem dX5_copyFrom_42 : decode cX5_copyFrom 42 = .ok (.invokestatic 28, 3) := by decide +kernel
theorem dX5_copyFrom_45 : decode cX5_copyFrom 45 = .ok (.aload_n 0, 1) := by decide +kernel
theorem dX5_copyFrom_46 : decode cX5_copyFrom 46 = .ok (.aload_n 1, 1) := by decide +kernel
theorem dX5_copyFrom_47 : decode cX5_copyFrom 47 = .ok (.getfield 21, 3) := by decide +kernel
theorem dX5_copyFrom_50 : decode cX5_copyFrom 50 = .ok (.putfield 21, 3) := by decide +kernel
theorem dX5_copyFrom_53 : decode cX5_copyFrom 53 = .ok (.aload_n 0, 1) := by decide +kernel
theorem dX5_copyFrom_54 : decode cX5_copyFrom 54 = .ok (.aload_n 1, 1) := by decide +kernel
theorem dX5_copyFrom_55 : decode cX5_copyFrom 55 = .ok (.getfield 25, 3) := by decide +kernel
theorem dX5_copyFrom_58 : decode cX5_copyFrom 58 = .ok (.putfield 25, 3) := by decide +kernel
theorem dX5_copyFrom_61 : decode cX5_copyFrom 61 = .ok (.return_, 1) := by decide +kernel
theorem dX5_add_0 : decode cX5_add 0 = .ok (.aload_n 0, 1) := by decide +kernel
theorem dX5_add_1 : decode cX5_add 1 = .ok (.getfield 21, 3) := by decide +kernel
theorem dX5_add_4 : decode cX5_add 4 = .ok (.bipush 20, 2) := by decide +kernel
theorem dX5_add_6 : decode cX5_add 6 = .ok (.irem, 1) := by decide +kernel
theorem dX5_add_7 : decode cX5_add 7 = .ok (.istore 4, 2) := by decide +kernel
theorem dX5_add_9 : decode cX5_add 9 = .ok (.aload_n 0, 1) := by decide +kernel
theorem dX5_add_10 : decode cX5_add 10 = .ok (.getfield 9, 3) := by decide +kernel
theorem dX5_add_13 : decode cX5_add 13 = .ok (.iload 4, 2) := by decide +kernel
theorem dX5_add_15 : decode cX5_add 15 = .ok (.iload_n 1, 1) := by decide +kernel
theorem dX5_add_16 : decode cX5_add 16 = .ok (.iastore, 1) := by decide +kernel
theorem dX5_add_17 : decode cX5_add 17 = .ok (.aload_n 0, 1) := by decide +kernel
theorem dX5_add_18 : decode cX5_add 18 = .ok (.getfield 15, 3) := by decide +kernel
theorem dX5_add_21 : decode cX5_add 21 = .ok (.iload 4, 2) := by decide +kernel
theorem dX5_add_23 : decode cX5_add 23 = .ok (.iload_n 2, 1) := by decide +kernel
theorem dX5_add_24 : decode cX5_add 24 = .ok (.iastore, 1) := by decide +kernel
theorem dX5_add_25 : decode cX5_add 25 = .ok (.aload_n 0, 1) := by decide +kernel
theorem dX5_add_26 : decode cX5_add 26 = .ok (.getfield 18, 3) := by decide +kernel
theorem dX5_add_29 : decode cX5_add 29 = .ok (.iload 4, 2) := by decide +kernel
theorem dX5_add_31 : decode cX5_add 31 = .ok (.iload_n 3, 1) := by decide +kernel
theorem dX5_add_32 : decode cX5_add 32 = .ok (.iastore, 1) := by decide +kernel
theorem dX5_add_33 : decode cX5_add 33 = .ok (.aload_n 0, 1) := by decide +kernel
theorem dX5_add_34 : decode cX5_add 34 = .ok (.dup, 1) := by decide +kernel
theorem dX5_add_35 : decode cX5_add 35 = .ok (.getfield 21, 3) := by decide +kernel
theorem dX5_add_38 : decode cX5_add 38 = .ok (.iconst 1, 1) := by decide +kernel
theorem dX5_add_39 : decode cX5_add 39 = .ok (.iadd, 1) := by decide +kernel
theorem dX5_add_40 : decode cX5_add 40 = .ok (.putfield 21, 3) := by decide +kernel
theorem dX5_add_43 : decode cX5_add 43 = .ok (.return_, 1) := by decide +kernel
theorem dX5_told_0 : decode cX5_told 0 = .ok (.aload_n 0, 1) := by decide +kernel
theorem dX5_told_1 : decode cX5_told 1 = .ok (.getfield 21, 3) := by decide +kernel
theorem dX5_told_4 : decode cX5_told 4 = .ok (.bipush 20, 2) := by decide +kernel
theorem dX5_told_6 : decode cX5_told 6 = .ok (.invokestatic 34, 3) := by decide +kernel
theorem dX5_told_9 : decode cX5_told 9 = .ok (.ireturn, 1) := by decide +kernel
set_option maxRecDepth 20000 in
theorem ggX5_valueOf_X5_told : GoodIn wsX5_valueOf wsX5_told := goodIn_r _ [9, 1, 10, 11, 12, 13, 14, 15, 16, 17, 18] (by decide +kernel) (by decide +kernel)
set_option maxRecDepth 20000 in
theorem gX5_valueOf_X5_told : GoodIn wsX5_valueOf (wsV RX5 40 RX5 yX5_told wsX5_told) := goodIn_app (goodIn_of _ (by decide +kernel)) ggX5_valueOf_X5_told
theorem dX5_valueOf_0 : decode cX5_valueOf 0 = .ok (.iload_n 1, 1) := by decide +kernel
theorem dX5_valueOf_1 : decode cX5_valueOf 1 = .ok (.ifCond .lt 11, 3) := by decide +kernel
theorem dX5_valueOf_4 : decode cX5_valueOf 4 = .ok (.iload_n 1, 1) := by decide +kernel
theorem dX5_valueOf_5 : decode cX5_valueOf 5 = .ok (.aload_n 0, 1) := by decide +kernel
theorem dX5_valueOf_6 : decode cX5_valueOf 6 = .ok (.invokevirtual 40, 3) := by decide +kernel
theorem dX5_valueOf_9 : decode cX5_valueOf 9 = .ok (.if_icmp .lt 6, 3) := by decide +kernel
theorem dX5_valueOf_12 : decode cX5_valueOf 12 = .ok (.bipush (-4), 2) := by decide +kernel
theorem dX5_valueOf_14 : decode cX5_valueOf 14 = .ok (.ireturn, 1) := by decide +kernel
theorem dX5_valueOf_15 : decode cX5_valueOf 15 = .ok (.aload_n 0, 1) := by decide +kernel
theorem dX5_valueOf_16 : decode cX5_valueOf 16 = .ok (.getfield 21, 3) := by decide +kernel
theorem dX5_valueOf_19 : decode cX5_valueOf 19 = .ok (.iconst 1, 1) := by decide +kernel
theorem dX5_valueOf_20 : decode cX5_valueOf 20 = .ok (.isub, 1) := by decide +kernel
theorem dX5_valueOf_21 : decode cX5_valueOf 21 = .ok (.iload_n 1, 1) := by decide +kernel
theorem dX5_valueOf_22 : decode cX5_valueOf 22 = .ok (.isub, 1) := by decide +kernel
theorem dX5_valueOf_23 : decode cX5_valueOf 23 = .ok (.bipush 20, 2) := by decide +kernel
theorem dX5_valueOf_25 : decode cX5_valueOf 25 = .ok (.irem, 1) := by decide +kernel
theorem dX5_valueOf_26 : decode cX5_valueOf 26 = .ok (.istore_n 3, 1) := by decide +kernel
theorem dX5_valueOf_27 : decode cX5_valueOf 27 = .ok (.iload_n 2, 1) := by decide +kernel
theorem dX5_valueOf_28 : decode cX5_valueOf 28 = .ok (.lookupswitch 42 #[(0, 28), (1, 35)], 28) := by decide +kernel
theorem dX5_valueOf_56 : decode cX5_valueOf 56 = .ok (.aload_n 0, 1) := by decide +kernel
theorem dX5_valueOf_57 : decode cX5_valueOf 57 = .ok (.getfield 9, 3) := by decide +kernel
theorem dX5_valueOf_60 : decode cX5_valueOf 60 = .ok (.iload_n 3, 1) := by decide +kernel
theorem dX5_valueOf_61 : decode cX5_valueOf 61 = .ok (.iaload, 1) := by decide +kernel
theorem dX5_valueOf_62 : decode cX5_valueOf 62 = .ok (.ireturn, 1) := by decide +kernel
theorem dX5_valueOf_63 : decode cX5_valueOf 63 = .ok (.aload_n 0, 1) := by decide +kernel
theorem dX5_valueOf_64 : decode cX5_valueOf 64 = .ok (.getfield 15, 3) := by decide +kernel
theorem dX5_valueOf_67 : decode cX5_valueOf 67 = .ok (.iload_n 3, 1) := by decide +kernel
theorem dX5_valueOf_68 : decode cX5_valueOf 68 = .ok (.iaload, 1) := by decide +kernel
theorem dX5_valueOf_69 : decode cX5_valueOf 69 = .ok (.ireturn, 1) := by decide +kernel
theorem dX5_valueOf_70 : decode cX5_valueOf 70 = .ok (.aload_n 0, 1) := by decide +kernel
theorem dX5_valueOf_71 : decode cX5_valueOf 71 = .ok (.getfield 18, 3) := by decide +kernel
theorem dX5_valueOf_74 : decode cX5_valueOf 74 = .ok (.iload_n 3, 1) := by decide +kernel
theorem dX5_valueOf_75 : decode cX5_valueOf 75 = .ok (.iaload, 1) := by decide +kernel
theorem dX5_valueOf_76 : decode cX5_valueOf 76 = .ok (.ireturn, 1) := by decide +kernel
set_option maxRecDepth 20000 in
theorem ggX5_unlikeTold_X5_told : GoodIn wsX5_unlikeTold wsX5_told := goodIn_r _ [7, 8, 9, 10, 11, 12, 20, 21, 22, 23, 24] (by decide +kernel) (by decide +kernel)
set_option maxRecDepth 20000 in
theorem gX5_unlikeTold_X5_told : GoodIn wsX5_unlikeTold (wsV RX5 40 RX5 yX5_told wsX5_told) := goodIn_app (goodIn_of _ (by decide +kernel)) ggX5_unlikeTold_X5_told
set_option maxRecDepth 20000 in
theorem ggX5_unlikeTold_J6_bitCount_0f7a4 : GoodIn wsX5_unlikeTold wsJ6_bitCount_0f7a4 := goodIn_r _ [16, 17, 18, 19] (by decide +kernel) (by decide +kernel)
set_option maxRecDepth 20000 in
theorem gX5_unlikeTold_J6_bitCount_0f7a4 : GoodIn wsX5_unlikeTold (va_wsS RX5 44 yJ6_bitCount_0f7a4 wsJ6_bitCount_0f7a4) := goodIn_app (goodIn_of _ (by decide +kernel)) ggX5_unlikeTold_J6_bitCount_0f7a4
theorem dX5_unlikeTold_0 : decode cX5_unlikeTold 0 = .ok (.iconst 0, 1) := by decide +kernel
theorem dX5_unlikeTold_1 : decode cX5_unlikeTold 1 = .ok (.istore_n 1, 1) := by decide +kernel
theorem dX5_unlikeTold_2 : decode cX5_unlikeTold 2 = .ok (.iconst 0, 1) := by decide +kernel
theorem dX5_unlikeTold_3 : decode cX5_unlikeTold 3 = .ok (.istore_n 2, 1) := by decide +kernel
theorem dX5_unlikeTold_4 : decode cX5_unlikeTold 4 = .ok (.iload_n 2, 1) := by decide +kernel
theorem dX5_unlikeTold_5 : decode cX5_unlikeTold 5 = .ok (.aload_n 0, 1) := by decide +kernel
theorem dX5_unlikeTold_6 : decode cX5_unlikeTold 6 = .ok (.invokevirtual 40, 3) := by decide +kernel
theorem dX5_unlikeTold_9 : decode cX5_unlikeTold 9 = .ok (.if_icmp .ge 31, 3) := by decide +kernel
theorem dX5_unlikeTold_12 : decode cX5_unlikeTold 12 = .ok (.iload_n 1, 1) := by decide +kernel
theorem dX5_unlikeTold_13 : decode cX5_unlikeTold 13 = .ok (.iconst 1, 1) := by decide +kernel
theorem dX5_unlikeTold_14 : decode cX5_unlikeTold 14 = .ok (.aload_n 0, 1) := by decide +kernel
theorem dX5_unlikeTold_15 : decode cX5_unlikeTold 15 = .ok (.getfield 15, 3) := by decide +kernel
theorem dX5_unlikeTold_18 : decode cX5_unlikeTold 18 = .ok (.iload_n 2, 1) := by decide +kernel
theorem dX5_unlikeTold_19 : decode cX5_unlikeTold 19 = .ok (.iaload, 1) := by decide +kernel
theorem dX5_unlikeTold_20 : decode cX5_unlikeTold 20 = .ok (.iconst 2, 1) := by decide +kernel
theorem dX5_unlikeTold_21 : decode cX5_unlikeTold 21 = .ok (.imul, 1) := by decide +kernel
theorem dX5_unlikeTold_22 : decode cX5_unlikeTold 22 = .ok (.aload_n 0, 1) := by decide +kernel
theorem dX5_unlikeTold_23 : decode cX5_unlikeTold 23 = .ok (.getfield 18, 3) := by decide +kernel
theorem dX5_unlikeTold_26 : decode cX5_unlikeTold 26 = .ok (.iload_n 2, 1) := by decide +kernel
theorem dX5_unlikeTold_27 : decode cX5_unlikeTold 27 = .ok (.iaload, 1) := by decide +kernel
theorem dX5_unlikeTold_28 : decode cX5_unlikeTold 28 = .ok (.iadd, 1) := by decide +kernel
theorem dX5_unlikeTold_29 : decode cX5_unlikeTold 29 = .ok (.iconst 1, 1) := by decide +kernel
theorem dX5_unlikeTold_30 : decode cX5_unlikeTold 30 = .ok (.isub, 1) := by decide +kernel
theorem dX5_unlikeTold_31 : decode cX5_unlikeTold 31 = .ok (.ishl, 1) := by decide +kernel
theorem dX5_unlikeTold_32 : decode cX5_unlikeTold 32 = .ok (.ior, 1) := by decide +kernel
theorem dX5_unlikeTold_33 : decode cX5_unlikeTold 33 = .ok (.istore_n 1, 1) := by decide +kernel
theorem dX5_unlikeTold_34 : decode cX5_unlikeTold 34 = .ok (.iinc 2 1, 3) := by decide +kernel
theorem dX5_unlikeTold_37 : decode cX5_unlikeTold 37 = .ok (.goto (-33), 3) := by decide +kernel
theorem dX5_unlikeTold_40 : decode cX5_unlikeTold 40 = .ok (.iload_n 1, 1) := by decide +kernel
theorem dX5_unlikeTold_41 : decode cX5_unlikeTold 41 = .ok (.invokestatic 44, 3) := by decide +kernel
theorem dX5_unlikeTold_44 : decode cX5_unlikeTold 44 = .ok (.ireturn, 1) := by decide +kernel
theorem dX6_init_0 : decode cX6_init 0 = .ok (.aload_n 0, 1) := by decide +kernel
theorem dX6_init_1 : decode cX6_init 1 = .ok (.invokespecial 3, 3) := by decide +kernel
theorem dX6_init_4 : decode cX6_init 4 = .ok (.aload_n 0, 1) := by decide +kernel
theorem dX6_init_5 : decode cX6_init 5 = .ok (.sipush 200, 3) := by decide +kernel
theorem dX6_init_8 : decode cX6_init 8 = .ok (.newarray .int, 2) := by decide +kernel
theorem dX6_init_10 : decode cX6_init 10 = .ok (.putfield 9, 3) := by decide +kernel
theorem dX6_init_13 : decode cX6_init 13 = .ok (.aload_n 0, 1) := by decide +kernel
theorem dX6_init_14 : decode cX6_init 14 = .ok (.getstatic 15, 3) := by decide +kernel
theorem dX6_init_17 : decode cX6_init 17 = .ok (.arraylength, 1) := by decide +kernel
theorem dX6_init_18 : decode cX6_init 18 = .ok (.newarray .int, 2) := by decide +kernel
theorem dX6_init_20 : decode cX6_init 20 = .ok (.putfield 18, 3) := by decide +kernel
theorem dX6_init_23 : decode cX6_init 23 = .ok (.return_, 1) := by decide +kernel
theorem dX6_append_0 : decode cX6_append 0 = .ok (.aload_n 0, 1) := by decide +kernel
theorem dX6_append_1 : decode cX6_append 1 = .ok (.getfield 21, 3) := by decide +kernel
theorem dX6_append_4 : decode cX6_append 4 = .ok (.sipush 200, 3) := by decide +kernel
theorem dX6_append_7 : decode cX6_append 7 = .ok (.if_icmp .lt 5, 3) := by decide +kernel
theorem dX6_append_10 : decode cX6_append 10 = .ok (.iconst 0, 1) := by decide +kernel
theorem dX6_append_11 : decode cX6_append 11 = .ok (.ireturn, 1) := by decide +kernel
theorem dX6_append_12 : decode cX6_append 12 = .ok (.aload_n 0, 1) := by decide +kernel
theorem dX6_append_13 : decode cX6_append 13 = .ok (.getfield 9, 3) := by decide +kernel
theorem dX6_append_16 : decode cX6_append 16 = .ok (.aload_n 0, 1) := by decide +kernel
theorem dX6_append_17 : decode cX6_append 17 = .ok (.getfield 21, 3) := by decide +kernel
theorem dX6_append_20 : decode cX6_append 20 = .ok (.iload_n 1, 1) := by decide +kernel
theorem dX6_append_21 : decode cX6_append 21 = .ok (.iastore, 1) := by decide +kernel
theorem dX6_append_22 : decode cX6_append 22 = .ok (.aload_n 0, 1) := by decide +kernel
theorem dX6_append_23 : decode cX6_append 23 = .ok (.dup, 1) := by decide +kernel
theorem dX6_append_24 : decode cX6_append 24 = .ok (.getfield 21, 3) := by decide +kernel
theorem dX6_append_27 : decode cX6_append 27 = .ok (.iconst 1, 1) := by decide +kernel
theorem dX6_append_28 : decode cX6_append 28 = .ok (.iadd, 1) := by decide +kernel
theorem dX6_append_29 : decode cX6_append 29 = .ok (.putfield 21, 3) := by decide +kernel
theorem dX6_append_32 : decode cX6_append 32 = .ok (.iconst 1, 1) := by decide +kernel
theorem dX6_append_33 : decode cX6_append 33 = .ok (.ireturn, 1) := by decide +kernel
set_option maxRecDepth 20000 in
theorem ggX6_readInto_X1_empty : GoodIn wsX6_readInto wsX1_empty := goodIn_r _ [7, 8, 9, 10, 11, 12, 13, 14, 15, 16, 17, 18, 95, 96, 97, 98, 99, 100, 101, 102, 103, 104, 105] (by decide +kernel) (by decide +kernel)
set_option maxRecDepth 20000 in
theorem gX6_readInto_X1_empty : GoodIn wsX6_readInto (wsV RX6 25 RX1 yX1_empty wsX1_empty) := goodIn_app (goodIn_of _ (by decide +kernel)) ggX6_readInto_X1_empty
set_option maxRecDepth 20000 in
theorem ggX6_readInto_X6_readItem : GoodIn wsX6_readInto wsX6_readItem := goodIn_r _ [23, 24, 25, 26, 22, 27, 1, 2, 28, 29, 30, 31, 32, 33, 34, 35, 36, 37, 38, 39, 40, 41, 42, 43, 44, 45, 46, 47, 48, 49, 6, 50, 8, 51, 52, 53, 54, 55, 56, 57, 58, 59, 60, 61, 62, 63, 64, 65, 66, 67, 68, 91, 92, 93, 94, 95, 96, 97, 98, 99, 100, 106, 107, 108, 109, 110, 111, 112, 113, 114, 115, 116, 117, 118, 119, 120] (by decide +kernel) (by decide +kernel)
set_option maxRecDepth 20000 in
theorem gX6_readInto_X6_readItem : GoodIn wsX6_readInto (wsV RX6 33 RX6 yX6_readItem wsX6_readItem) := goodIn_app (goodIn_of _ (by decide +kernel)) ggX6_readInto_X6_readItem
set_option maxRecDepth 20000 in
theorem ggX6_readInto_X1_reckon : GoodIn wsX6_readInto wsX1_reckon := goodIn_r _ [72, 8, 51, 73, 74, 9, 75, 76, 77, 78, 79, 55, 80, 64, 57, 81, 82, 83, 84, 85, 86, 6, 87, 88, 89, 90, 95, 96, 97, 98, 99, 100, 106, 107, 108, 109, 110, 111, 112, 113, 114, 115, 116, 117, 118, 119, 120] (by decide +kernel) (by decide +kernel)
set_option maxRecDepth 20000 in
theorem gX6_readInto_X1_reckon : GoodIn wsX6_readInto (wsV RX6 37 RX1 yX1_reckon wsX1_reckon) := goodIn_app (goodIn_of _ (by decide +kernel)) ggX6_readInto_X1_reckon
theorem dX6_readInto_0 : decode cX6_readInto 0 = .ok (.aload_n 1, 1) := by decide +kernel
theorem dX6_readInto_1 : decode cX6_readInto 1 = .ok (.invokevirtual 25, 3) := by decide +kernel
theorem dX6_readInto_4 : decode cX6_readInto 4 = .ok (.aload_n 0, 1) := by decide +kernel
theorem dX6_readInto_5 : decode cX6_readInto 5 = .ok (.iconst 0, 1) := by decide +kernel
theorem dX6_readInto_6 : decode cX6_readInto 6 = .ok (.putfield 30, 3) := by decide +kernel
theorem dX6_readInto_9 : decode cX6_readInto 9 = .ok (.iconst 0, 1) := by decide +kernel
theorem dX6_readInto_10 : decode cX6_readInto 10 = .ok (.istore_n 2, 1) := by decide +kernel
theorem dX6_readInto_11 : decode cX6_readInto 11 = .ok (.iload_n 2, 1) := by decide +kernel
theorem dX6_readInto_12 : decode cX6_readInto 12 = .ok (.sipush 200, 3) := by decide +kernel
theorem dX6_readInto_15 : decode cX6_readInto 15 = .ok (.if_icmp .ge 35, 3) := by decide +kernel
theorem dX6_readInto_18 : decode cX6_readInto 18 = .ok (.aload_n 0, 1) := by decide +kernel
theorem dX6_readInto_19 : decode cX6_readInto 19 = .ok (.getfield 30, 3) := by decide +kernel
theorem dX6_readInto_22 : decode cX6_readInto 22 = .ok (.aload_n 0, 1) := by decide +kernel
theorem dX6_readInto_23 : decode cX6_readInto 23 = .ok (.getfield 21, 3) := by decide +kernel
theorem dX6_readInto_26 : decode cX6_readInto 26 = .ok (.if_icmp .ge 24, 3) := by decide +kernel
theorem dX6_readInto_29 : decode cX6_readInto 29 = .ok (.aload_n 0, 1) := by decide +kernel
theorem dX6_readInto_30 : decode cX6_readInto 30 = .ok (.getfield 30, 3) := by decide +kernel
theorem dX6_readInto_33 : decode cX6_readInto 33 = .ok (.istore_n 3, 1) := by decide +kernel
theorem dX6_readInto_34 : decode cX6_readInto 34 = .ok (.aload_n 0, 1) := by decide +kernel
theorem dX6_readInto_35 : decode cX6_readInto 35 = .ok (.aload_n 1, 1) := by decide +kernel
theorem dX6_readInto_36 : decode cX6_readInto 36 = .ok (.invokevirtual 33, 3) := by decide +kernel
theorem dX6_readInto_39 : decode cX6_readInto 39 = .ok (.ifCond .ne 5, 3) := by decide +kernel
theorem dX6_readInto_42 : decode cX6_readInto 42 = .ok (.iload_n 3, 1) := by decide +kernel
theorem dX6_readInto_43 : decode cX6_readInto 43 = .ok (.ireturn, 1) := by decide +kernel
theorem dX6_readInto_44 : decode cX6_readInto 44 = .ok (.iinc 2 1, 3) := by decide +kernel
theorem dX6_readInto_47 : decode cX6_readInto 47 = .ok (.goto (-36), 3) := by decide +kernel
theorem dX6_readInto_50 : decode cX6_readInto 50 = .ok (.aload_n 1, 1) := by decide +kernel
theorem dX6_readInto_51 : decode cX6_readInto 51 = .ok (.invokevirtual 37, 3) := by decide +kernel
theorem dX6_readInto_54 : decode cX6_readInto 54 = .ok (.bipush (-4), 2) := by decide +kernel
theorem dX6_readInto_56 : decode cX6_readInto 56 = .ok (.ireturn, 1) := by decide +kernel
set_option maxRecDepth 20000 in
theorem ggX6_readItem_X6_take : GoodIn wsX6_readItem wsX6_take := goodIn_r _ [5, 6, 7, 8, 51, 52, 53, 54] (by decide +kernel) (by decide +kernel)
set_option maxRecDepth 20000 in
theorem gX6_readItem_X6_take : GoodIn wsX6_readItem (wsV RX6 40 RX6 yX6_take wsX6_take) := goodIn_app (goodIn_of _ (by decide +kernel)) ggX6_readItem_X6_take
set_option maxRecDepth 20000 in
theorem ggX6_readItem_X6_readSource : GoodIn wsX6_readItem wsX6_readSource := goodIn_r _ [12, 13, 14, 15, 16, 4, 17, 8, 6, 1, 2, 3, 5, 7, 18, 19, 20, 21, 55, 56, 57, 58, 59, 60, 51, 52, 53, 54] (by decide +kernel) (by decide +kernel)
set_option maxRecDepth 20000 in
theorem gX6_readItem_X6_readSource : GoodIn wsX6_readItem (wsV RX6 44 RX6 yX6_readSource wsX6_readSource) := goodIn_app (goodIn_of _ (by decide +kernel)) ggX6_readItem_X6_readSource
set_option maxRecDepth 20000 in
theorem ggX6_readItem_X6_readStage : GoodIn wsX6_readItem wsX6_readStage := goodIn_r _ [25, 26, 14, 15, 16, 4, 17, 8, 6, 1, 2, 3, 5, 7, 18, 19, 20, 21, 27, 28, 29, 30, 31, 32, 33, 34, 35, 36, 37, 38, 39, 40, 41, 42, 43, 44, 45, 46, 47, 48, 49, 50, 51, 52, 53, 54, 55, 56, 57, 58, 59, 60, 61, 62, 63, 64, 65, 66, 67, 68, 69, 70, 71, 72, 73, 74, 75] (by decide +kernel) (by decide +kernel)
set_option maxRecDepth 20000 in
theorem gX6_readItem_X6_readStage : GoodIn wsX6_readItem (wsV RX6 47 RX6 yX6_readStage wsX6_readStage) := goodIn_app (goodIn_of _ (by decide +kernel)) ggX6_readItem_X6_readStage
theorem dX6_readItem_0 : decode cX6_readItem 0 = .ok (.aload_n 0, 1) := by decide +kernel
theorem dX6_readItem_1 : decode cX6_readItem 1 = .ok (.bipush 118, 2) := by decide +kernel
theorem dX6_readItem_3 : decode cX6_readItem 3 = .ok (.invokevirtual 40, 3) := by decide +kernel
theorem dX6_readItem_6 : decode cX6_readItem 6 = .ok (.ifCond .eq 9, 3) := by decide +kernel
theorem dX6_readItem_9 : decode cX6_readItem 9 = .ok (.aload_n 0, 1) := by decide +kernel
theorem dX6_readItem_10 : decode cX6_readItem 10 = .ok (.aload_n 1, 1) := by decide +kernel
theorem dX6_readItem_11 : decode cX6_readItem 11 = .ok (.invokevirtual 44, 3) := by decide +kernel
theorem dX6_readItem_14 : decode cX6_readItem 14 = .ok (.ireturn, 1) := by decide +kernel
theorem dX6_readItem_15 : decode cX6_readItem 15 = .ok (.aload_n 0, 1) := by decide +kernel
theorem dX6_readItem_16 : decode cX6_readItem 16 = .ok (.bipush 115, 2) := by decide +kernel
theorem dX6_readItem_18 : decode cX6_readItem 18 = .ok (.invokevirtual 40, 3) := by decide +kernel
theorem dX6_readItem_21 : decode cX6_readItem 21 = .ok (.ifCond .eq 15, 3) := by decide +kernel
theorem dX6_readItem_24 : decode cX6_readItem 24 = .ok (.aload_n 0, 1) := by decide +kernel
theorem dX6_readItem_25 : decode cX6_readItem 25 = .ok (.aload_n 1, 1) := by decide +kernel
theorem dX6_readItem_26 : decode cX6_readItem 26 = .ok (.invokevirtual 47, 3) := by decide +kernel
theorem dX6_readItem_29 : decode cX6_readItem 29 = .ok (.ifCond .eq 7, 3) := by decide +kernel
theorem dX6_readItem_32 : decode cX6_readItem 32 = .ok (.iconst 1, 1) := by decide +kernel
theorem dX6_readItem_33 : decode cX6_readItem 33 = .ok (.goto 4, 3) := by decide +kernel
theorem dX6_readItem_36 : decode cX6_readItem 36 = .ok (.iconst 0, 1) := by decide +kernel
theorem dX6_readItem_37 : decode cX6_readItem 37 = .ok (.ireturn, 1) := by decide +kernel
set_option maxRecDepth 20000 in
theorem ggX6_readSource_X6_readNumber : GoodIn wsX6_readSource wsX6_readNumber := goodIn_r _ [6, 7, 8, 9, 10, 11, 5, 12, 13, 14, 15, 16, 17, 24, 25, 26, 27] (by decide +kernel) (by decide +kernel)
set_option maxRecDepth 20000 in
theorem gX6_readSource_X6_readNumber : GoodIn wsX6_readSource (wsV RX6 50 RX6 yX6_readNumber wsX6_readNumber) := goodIn_app (goodIn_of _ (by decide +kernel)) ggX6_readSource_X6_readNumber
set_option maxRecDepth 20000 in
theorem ggX6_readSource_X6_take : GoodIn wsX6_readSource wsX6_take := goodIn_r _ [12, 8, 13, 7, 24, 25, 26, 27] (by decide +kernel) (by decide +kernel)
set_option maxRecDepth 20000 in
theorem gX6_readSource_X6_take : GoodIn wsX6_readSource (wsV RX6 40 RX6 yX6_take wsX6_take) := goodIn_app (goodIn_of _ (by decide +kernel)) ggX6_readSource_X6_take
theorem dX6_readSource_0 : decode cX6_readSource 0 = .ok (.aload_n 0, 1) := by decide +kernel
theorem dX6_readSource_1 : decode cX6_readSource 1 = .ok (.sipush 800, 3) := by decide +kernel
theorem dX6_readSource_4 : decode cX6_readSource 4 = .ok (.sipush 1200, 3) := by decide +kernel
theorem dX6_readSource_7 : decode cX6_readSource 7 = .ok (.invokevirtual 50, 3) := by decide +kernel
theorem dX6_readSource_10 : decode cX6_readSource 10 = .ok (.istore_n 2, 1) := by decide +kernel
theorem dX6_readSource_11 : decode cX6_readSource 11 = .ok (.iload_n 2, 1) := by decide +kernel
theorem dX6_readSource_12 : decode cX6_readSource 12 = .ok (.sipush 10000, 3) := by decide +kernel
theorem dX6_readSource_15 : decode cX6_readSource 15 = .ok (.if_icmp .eq 12, 3) := by decide +kernel
theorem dX6_readSource_18 : decode cX6_readSource 18 = .ok (.aload_n 0, 1) := by decide +kernel
theorem dX6_readSource_19 : decode cX6_readSource 19 = .ok (.bipush 59, 2) := by decide +kernel
theorem dX6_readSource_21 : decode cX6_readSource 21 = .ok (.invokevirtual 40, 3) := by decide +kernel
theorem dX6_readSource_24 : decode cX6_readSource 24 = .ok (.ifCond .ne 5, 3) := by decide +kernel
theorem dX6_readSource_27 : decode cX6_readSource 27 = .ok (.iconst 0, 1) := by decide +kernel
theorem dX6_readSource_28 : decode cX6_readSource 28 = .ok (.ireturn, 1) := by decide +kernel
theorem dX6_readSource_29 : decode cX6_readSource 29 = .ok (.aload_n 1, 1) := by decide +kernel
theorem dX6_readSource_30 : decode cX6_readSource 30 = .ok (.iload_n 2, 1) := by decide +kernel
theorem dX6_readSource_31 : decode cX6_readSource 31 = .ok (.putfield 54, 3) := by decide +kernel
theorem dX6_readSource_34 : decode cX6_readSource 34 = .ok (.iconst 1, 1) := by decide +kernel
theorem dX6_readSource_35 : decode cX6_readSource 35 = .ok (.ireturn, 1) := by decide +kernel
set_option maxRecDepth 20000 in
theorem ggX6_readStage_X6_readNumber : GoodIn wsX6_readStage wsX6_readNumber := goodIn_r _ [6, 7, 8, 9, 10, 11, 5, 12, 13, 14, 15, 16, 17, 42, 43, 44, 45] (by decide +kernel) (by decide +kernel)
set_option maxRecDepth 20000 in
theorem gX6_readStage_X6_readNumber : GoodIn wsX6_readStage (wsV RX6 50 RX6 yX6_readNumber wsX6_readNumber) := goodIn_app (goodIn_of _ (by decide +kernel)) ggX6_readStage_X6_readNumber
set_option maxRecDepth 20000 in
theorem ggX6_readStage_X6_take : GoodIn wsX6_readStage wsX6_take := goodIn_r _ [12, 8, 13, 7, 42, 43, 44, 45] (by decide +kernel) (by decide +kernel)
set_option maxRecDepth 20000 in
theorem gX6_readStage_X6_take : GoodIn wsX6_readStage (wsV RX6 40 RX6 yX6_take wsX6_take) := goodIn_app (goodIn_of _ (by decide +kernel)) ggX6_readStage_X6_take
set_option maxRecDepth 20000 in
theorem ggX6_readStage_X1_addStage : GoodIn wsX6_readStage wsX1_addStage := goodIn_r _ [22, 23, 24, 25, 26, 27, 28, 29, 30, 31, 32, 33, 34, 35, 36, 37, 38, 39, 40, 41, 46, 47, 48, 49, 50, 51, 52, 53, 54, 55, 56, 57, 58, 59, 60, 61, 62, 63, 64, 65, 66] (by decide +kernel) (by decide +kernel)
set_option maxRecDepth 20000 in
theorem gX6_readStage_X1_addStage : GoodIn wsX6_readStage (wsV RX6 60 RX1 yX1_addStage wsX1_addStage) := goodIn_app (goodIn_of _ (by decide +kernel)) ggX6_readStage_X1_addStage
theorem dX6_readStage_0 : decode cX6_readStage 0 = .ok (.aload_n 0, 1) := by decide +kernel
theorem dX6_readStage_1 : decode cX6_readStage 1 = .ok (.getfield 18, 3) := by decide +kernel
theorem dX6_readStage_4 : decode cX6_readStage 4 = .ok (.arraylength, 1) := by decide +kernel
theorem dX6_readStage_5 : decode cX6_readStage 5 = .ok (.iconst 1, 1) := by decide +kernel
theorem dX6_readStage_6 : decode cX6_readStage 6 = .ok (.isub, 1) := by decide +kernel
theorem dX6_readStage_7 : decode cX6_readStage 7 = .ok (.istore_n 2, 1) := by decide +kernel
theorem dX6_readStage_8 : decode cX6_readStage 8 = .ok (.iconst 0, 1) := by decide +kernel
theorem dX6_readStage_9 : decode cX6_readStage 9 = .ok (.istore_n 3, 1) := by decide +kernel
theorem dX6_readStage_10 : decode cX6_readStage 10 = .ok (.iload_n 3, 1) := by decide +kernel
theorem dX6_readStage_11 : decode cX6_readStage 11 = .ok (.iload_n 2, 1) := by decide +kernel
theorem dX6_readStage_12 : decode cX6_readStage 12 = .ok (.if_icmp .gt 62, 3) := by decide +kernel
theorem dX6_readStage_15 : decode cX6_readStage 15 = .ok (.aload_n 0, 1) := by decide +kernel
theorem dX6_readStage_16 : decode cX6_readStage 16 = .ok (.getfield 18, 3) := by decide +kernel
theorem dX6_readStage_19 : decode cX6_readStage 19 = .ok (.iload_n 3, 1) := by decide +kernel
theorem dX6_readStage_20 : decode cX6_readStage 20 = .ok (.aload_n 0, 1) := by decide +kernel
theorem dX6_readStage_21 : decode cX6_readStage 21 = .ok (.getstatic 15, 3) := by decide +kernel
theorem dX6_readStage_24 : decode cX6_readStage 24 = .ok (.iload_n 3, 1) := by decide +kernel
theorem dX6_readStage_25 : decode cX6_readStage 25 = .ok (.iaload, 1) := by decide +kernel
theorem dX6_readStage_26 : decode cX6_readStage 26 = .ok (.getstatic 57, 3) := by decide +kernel
theorem dX6_readStage_29 : decode cX6_readStage 29 = .ok (.iload_n 3, 1) := by decide +kernel
theorem dX6_readStage_30 : decode cX6_readStage 30 = .ok (.iaload, 1) := by decide +kernel
theorem dX6_readStage_31 : decode cX6_readStage 31 = .ok (.invokevirtual 50, 3) := by decide +kernel
theorem dX6_readStage_34 : decode cX6_readStage 34 = .ok (.iastore, 1) := by decide +kernel
theorem dX6_readStage_35 : decode cX6_readStage 35 = .ok (.aload_n 0, 1) := by decide +kernel
theorem dX6_readStage_36 : decode cX6_readStage 36 = .ok (.getfield 18, 3) := by decide +kernel
theorem dX6_readStage_39 : decode cX6_readStage 39 = .ok (.iload_n 3, 1) := by decide +kernel
theorem dX6_readStage_40 : decode cX6_readStage 40 = .ok (.iaload, 1) := by decide +kernel
theorem dX6_readStage_41 : decode cX6_readStage 41 = .ok (.sipush 10000, 3) := by decide +kernel
theorem dX6_readStage_44 : decode cX6_readStage 44 = .ok (.if_icmp .eq 22, 3) := by decide +kernel
theorem dX6_readStage_47 : decode cX6_readStage 47 = .ok (.aload_n 0, 1) := by decide +kernel
theorem dX6_readStage_48 : decode cX6_readStage 48 = .ok (.iload_n 3, 1) := by decide +kernel
theorem dX6_readStage_49 : decode cX6_readStage 49 = .ok (.iload_n 2, 1) := by decide +kernel
theorem dX6_readStage_50 : decode cX6_readStage 50 = .ok (.if_icmp .ge 8, 3) := by decide +kernel
theorem dX6_readStage_53 : decode cX6_readStage 53 = .ok (.bipush 44, 2) := by decide +kernel
theorem dX6_readStage_55 : decode cX6_readStage 55 = .ok (.goto 5, 3) := by decide +kernel
theorem dX6_readStage_58 : decode cX6_readStage 58 = .ok (.bipush 59, 2) := by decide +kernel
theorem dX6_readStage_60 : decode cX6_readStage 60 = .ok (.invokevirtual 40, 3) := by decide +kernel
theorem dX6_readStage_63 : decode cX6_readStage 63 = .ok (.ifCond .ne 5, 3) := by decide +kernel
theorem dX6_readStage_66 : decode cX6_readStage 66 = .ok (.iconst 0, 1) := by decide +kernel
theorem dX6_readStage_67 : decode cX6_readStage 67 = .ok (.ireturn, 1) := by decide +kernel
theorem dX6_readStage_68 : decode cX6_readStage 68 = .ok (.iinc 3 1, 3) := by decide +kernel
theorem dX6_readStage_71 : decode cX6_readStage 71 = .ok (.goto (-61), 3) := by decide +kernel
theorem dX6_readStage_74 : decode cX6_readStage 74 = .ok (.aload_n 1, 1) := by decide +kernel
theorem dX6_readStage_75 : decode cX6_readStage 75 = .ok (.aload_n 0, 1) := by decide +kernel
theorem dX6_readStage_76 : decode cX6_readStage 76 = .ok (.getfield 18, 3) := by decide +kernel
theorem dX6_readStage_79 : decode cX6_readStage 79 = .ok (.invokevirtual 60, 3) := by decide +kernel
theorem dX6_readStage_82 : decode cX6_readStage 82 = .ok (.ireturn, 1) := by decide +kernel
set_option maxRecDepth 20000 in
theorem ggX6_readNumber_X6_take : GoodIn wsX6_readNumber wsX6_take := goodIn_r _ [7, 2, 8, 1, 13, 14, 15, 16] (by decide +kernel) (by decide +kernel)
set_option maxRecDepth 20000 in
theorem gX6_readNumber_X6_take : GoodIn wsX6_readNumber (wsV RX6 40 RX6 yX6_take wsX6_take) := goodIn_app (goodIn_of _ (by decide +kernel)) ggX6_readNumber_X6_take
set_option maxRecDepth 20000 in
theorem ggX6_readNumber_X6_isFigure : GoodIn wsX6_readNumber wsX6_isFigure := goodIn_r _ [12, 2, 8, 1, 13, 14, 15, 16] (by decide +kernel) (by decide +kernel)
set_option maxRecDepth 20000 in
theorem gX6_readNumber_X6_isFigure : GoodIn wsX6_readNumber (wsV RX6 64 RX6 yX6_isFigure wsX6_isFigure) := goodIn_app (goodIn_of _ (by decide +kernel)) ggX6_readNumber_X6_isFigure
theorem dX6_readNumber_0 : decode cX6_readNumber 0 = .ok (.iload_n 1, 1) := by decide +kernel
theorem dX6_readNumber_1 : decode cX6_readNumber 1 = .ok (.ifCond .ge 16, 3) := by decide +kernel
theorem dX6_readNumber_4 : decode cX6_readNumber 4 = .ok (.aload_n 0, 1) := by decide +kernel
theorem dX6_readNumber_5 : decode cX6_readNumber 5 = .ok (.bipush 45, 2) := by decide +kernel
theorem dX6_readNumber_7 : decode cX6_readNumber 7 = .ok (.invokevirtual 40, 3) := by decide +kernel
theorem dX6_readNumber_10 : decode cX6_readNumber 10 = .ok (.ifCond .eq 7, 3) := by decide +kernel
theorem dX6_readNumber_13 : decode cX6_readNumber 13 = .ok (.iconst 1, 1) := by decide +kernel
theorem dX6_readNumber_14 : decode cX6_readNumber 14 = .ok (.goto 4, 3) := by decide +kernel
theorem dX6_readNumber_17 : decode cX6_readNumber 17 = .ok (.iconst 0, 1) := by decide +kernel
theorem dX6_readNumber_18 : decode cX6_readNumber 18 = .ok (.istore_n 3, 1) := by decide +kernel
theorem dX6_readNumber_19 : decode cX6_readNumber 19 = .ok (.iconst 0, 1) := by decide +kernel
theorem dX6_readNumber_20 : decode cX6_readNumber 20 = .ok (.istore 4, 2) := by decide +kernel
theorem dX6_readNumber_22 : decode cX6_readNumber 22 = .ok (.iconst 0, 1) := by decide +kernel
theorem dX6_readNumber_23 : decode cX6_readNumber 23 = .ok (.istore 5, 2) := by decide +kernel
theorem dX6_readNumber_25 : decode cX6_readNumber 25 = .ok (.iload 4, 2) := by decide +kernel
theorem dX6_readNumber_27 : decode cX6_readNumber 27 = .ok (.iconst 4, 1) := by decide +kernel
theorem dX6_readNumber_28 : decode cX6_readNumber 28 = .ok (.if_icmp .ge 46, 3) := by decide +kernel
theorem dX6_readNumber_31 : decode cX6_readNumber 31 = .ok (.aload_n 0, 1) := by decide +kernel
theorem dX6_readNumber_32 : decode cX6_readNumber 32 = .ok (.invokevirtual 64, 3) := by decide +kernel
theorem dX6_readNumber_35 : decode cX6_readNumber 35 = .ok (.ifCond .eq 39, 3) := by decide +kernel
theorem dX6_readNumber_38 : decode cX6_readNumber 38 = .ok (.iload 5, 2) := by decide +kernel
theorem dX6_readNumber_40 : decode cX6_readNumber 40 = .ok (.bipush 10, 2) := by decide +kernel
theorem dX6_readNumber_42 : decode cX6_readNumber 42 = .ok (.imul, 1) := by decide +kernel
theorem dX6_readNumber_43 : decode cX6_readNumber 43 = .ok (.aload_n 0, 1) := by decide +kernel
theorem dX6_readNumber_44 : decode cX6_readNumber 44 = .ok (.getfield 9, 3) := by decide +kernel
theorem dX6_readNumber_47 : decode cX6_readNumber 47 = .ok (.aload_n 0, 1) := by decide +kernel
theorem dX6_readNumber_48 : decode cX6_readNumber 48 = .ok (.getfield 30, 3) := by decide +kernel
theorem dX6_readNumber_51 : decode cX6_readNumber 51 = .ok (.iaload, 1) := by decide +kernel
theorem dX6_readNumber_52 : decode cX6_readNumber 52 = .ok (.iadd, 1) := by decide +kernel
theorem dX6_readNumber_53 : decode cX6_readNumber 53 = .ok (.bipush 48, 2) := by decide +kernel
theorem dX6_readNumber_55 : decode cX6_readNumber 55 = .ok (.isub, 1) := by decide +kernel
theorem dX6_readNumber_56 : decode cX6_readNumber 56 = .ok (.istore 5, 2) := by decide +kernel
theorem dX6_readNumber_58 : decode cX6_readNumber 58 = .ok (.aload_n 0, 1) := by decide +kernel
theorem dX6_readNumber_59 : decode cX6_readNumber 59 = .ok (.dup, 1) := by decide +kernel
theorem dX6_readNumber_60 : decode cX6_readNumber 60 = .ok (.getfield 30, 3) := by decide +kernel
theorem dX6_readNumber_63 : decode cX6_readNumber 63 = .ok (.iconst 1, 1) := by decide +kernel
theorem dX6_readNumber_64 : decode cX6_readNumber 64 = .ok (.iadd, 1) := by decide +kernel
theorem dX6_readNumber_65 : decode cX6_readNumber 65 = .ok (.putfield 30, 3) := by decide +kernel
theorem dX6_readNumber_68 : decode cX6_readNumber 68 = .ok (.iinc 4 1, 3) := by decide +kernel
theorem dX6_readNumber_71 : decode cX6_readNumber 71 = .ok (.goto (-46), 3) := by decide +kernel
theorem dX6_readNumber_74 : decode cX6_readNumber 74 = .ok (.iload 4, 2) := by decide +kernel
theorem dX6_readNumber_76 : decode cX6_readNumber 76 = .ok (.ifCond .eq 12, 3) := by decide +kernel
theorem dX6_readNumber_79 : decode cX6_readNumber 79 = .ok (.iload_n 3, 1) := by decide +kernel
theorem dX6_readNumber_80 : decode cX6_readNumber 80 = .ok (.ifCond .eq 12, 3) := by decide +kernel
theorem dX6_readNumber_83 : decode cX6_readNumber 83 = .ok (.iload 5, 2) := by decide +kernel
theorem dX6_readNumber_85 : decode cX6_readNumber 85 = .ok (.ifCond .ne 7, 3) := by decide +kernel
theorem dX6_readNumber_88 : decode cX6_readNumber 88 = .ok (.sipush 10000, 3) := by decide +kernel
theorem dX6_readNumber_91 : decode cX6_readNumber 91 = .ok (.ireturn, 1) := by decide +kernel
theorem dX6_readNumber_92 : decode cX6_readNumber 92 = .ok (.iload_n 3, 1) := by decide +kernel
theorem dX6_readNumber_93 : decode cX6_readNumber 93 = .ok (.ifCond .eq 9, 3) := by decide +kernel
theorem dX6_readNumber_96 : decode cX6_readNumber 96 = .ok (.iload 5, 2) := by decide +kernel
theorem dX6_readNumber_98 : decode cX6_readNumber 98 = .ok (.ineg, 1) := by decide +kernel
theorem dX6_readNumber_99 : decode cX6_readNumber 99 = .ok (.goto 5, 3) := by decide +kernel
theorem dX6_readNumber_102 : decode cX6_readNumber 102 = .ok (.iload 5, 2) := by decide +kernel
theorem dX6_readNumber_104 : decode cX6_readNumber 104 = .ok (.istore 6, 2) := by decide +kernel
theorem dX6_readNumber_106 : decode cX6_readNumber 106 = .ok (.iload 6, 2) := by decide +kernel
theorem dX6_readNumber_108 : decode cX6_readNumber 108 = .ok (.iload_n 1, 1) := by decide +kernel
theorem dX6_readNumber_109 : decode cX6_readNumber 109 = .ok (.if_icmp .lt 9, 3) := by decide +kernel
theorem dX6_readNumber_112 : decode cX6_readNumber 112 = .ok (.iload 6, 2) := by decide +kernel
theorem dX6_readNumber_114 : decode cX6_readNumber 114 = .ok (.iload_n 2, 1) := by decide +kernel
theorem dX6_readNumber_115 : decode cX6_readNumber 115 = .ok (.if_icmp .le 9, 3) := by decide +kernel
theorem dX6_readNumber_118 : decode cX6_readNumber 118 = .ok (.sipush 10000, 3) := by decide +kernel
theorem dX6_readNumber_121 : decode cX6_readNumber 121 = .ok (.goto 5, 3) := by decide +kernel
theorem dX6_readNumber_124 : decode cX6_readNumber 124 = .ok (.iload 6, 2) := by decide +kernel
theorem dX6_readNumber_126 : decode cX6_readNumber 126 = .ok (.ireturn, 1) := by decide +kernel
theorem dX6_isFigure_0 : decode cX6_isFigure 0 = .ok (.aload_n 0, 1) := by decide +kernel
theorem dX6_isFigure_1 : decode cX6_isFigure 1 = .ok (.getfield 30, 3) := by decide +kernel
theorem dX6_isFigure_4 : decode cX6_isFigure 4 = .ok (.aload_n 0, 1) := by decide +kernel
theorem dX6_isFigure_5 : decode cX6_isFigure 5 = .ok (.getfield 21, 3) := by decide +kernel
theorem dX6_isFigure_8 : decode cX6_isFigure 8 = .ok (.if_icmp .ge 35, 3) := by decide +kernel
theorem dX6_isFigure_11 : decode cX6_isFigure 11 = .ok (.aload_n 0, 1) := by decide +kernel
theorem dX6_isFigure_12 : decode cX6_isFigure 12 = .ok (.getfield 9, 3) := by decide +kernel
theorem dX6_isFigure_15 : decode cX6_isFigure 15 = .ok (.aload_n 0, 1) := by decide +kernel
theorem dX6_isFigure_16 : decode cX6_isFigure 16 = .ok (.getfield 30, 3) := by decide +kernel
theorem dX6_isFigure_19 : decode cX6_isFigure 19 = .ok (.iaload, 1) := by decide +kernel
theorem dX6_isFigure_20 : decode cX6_isFigure 20 = .ok (.bipush 48, 2) := by decide +kernel
theorem dX6_isFigure_22 : decode cX6_isFigure 22 = .ok (.if_icmp .lt 21, 3) := by decide +kernel
theorem dX6_isFigure_25 : decode cX6_isFigure 25 = .ok (.aload_n 0, 1) := by decide +kernel
theorem dX6_isFigure_26 : decode cX6_isFigure 26 = .ok (.getfield 9, 3) := by decide +kernel
theorem dX6_isFigure_29 : decode cX6_isFigure 29 = .ok (.aload_n 0, 1) := by decide +kernel
theorem dX6_isFigure_30 : decode cX6_isFigure 30 = .ok (.getfield 30, 3) := by decide +kernel
theorem dX6_isFigure_33 : decode cX6_isFigure 33 = .ok (.iaload, 1) := by decide +kernel
theorem dX6_isFigure_34 : decode cX6_isFigure 34 = .ok (.bipush 57, 2) := by decide +kernel
theorem dX6_isFigure_36 : decode cX6_isFigure 36 = .ok (.if_icmp .gt 7, 3) := by decide +kernel
theorem dX6_isFigure_39 : decode cX6_isFigure 39 = .ok (.iconst 1, 1) := by decide +kernel
theorem dX6_isFigure_40 : decode cX6_isFigure 40 = .ok (.goto 4, 3) := by decide +kernel
theorem dX6_isFigure_43 : decode cX6_isFigure 43 = .ok (.iconst 0, 1) := by decide +kernel
theorem dX6_isFigure_44 : decode cX6_isFigure 44 = .ok (.ireturn, 1) := by decide +kernel
theorem dX6_take_0 : decode cX6_take 0 = .ok (.aload_n 0, 1) := by decide +kernel
theorem dX6_take_1 : decode cX6_take 1 = .ok (.getfield 30, 3) := by decide +kernel
theorem dX6_take_4 : decode cX6_take 4 = .ok (.aload_n 0, 1) := by decide +kernel
theorem dX6_take_5 : decode cX6_take 5 = .ok (.getfield 21, 3) := by decide +kernel
theorem dX6_take_8 : decode cX6_take 8 = .ok (.if_icmp .ge 16, 3) := by decide +kernel
theorem dX6_take_11 : decode cX6_take 11 = .ok (.aload_n 0, 1) := by decide +kernel
theorem dX6_take_12 : decode cX6_take 12 = .ok (.getfield 9, 3) := by decide +kernel
theorem dX6_take_15 : decode cX6_take 15 = .ok (.aload_n 0, 1) := by decide +kernel
theorem dX6_take_16 : decode cX6_take 16 = .ok (.getfield 30, 3) := by decide +kernel
theorem dX6_take_19 : decode cX6_take 19 = .ok (.iaload, 1) := by decide +kernel
theorem dX6_take_20 : decode cX6_take 20 = .ok (.iload_n 1, 1) := by decide +kernel
theorem dX6_take_21 : decode cX6_take 21 = .ok (.if_icmp .eq 5, 3) := by decide +kernel
theorem dX6_take_24 : decode cX6_take 24 = .ok (.iconst 0, 1) := by decide +kernel
theorem dX6_take_25 : decode cX6_take 25 = .ok (.ireturn, 1) := by decide +kernel
theorem dX6_take_26 : decode cX6_take 26 = .ok (.aload_n 0, 1) := by decide +kernel
theorem dX6_take_27 : decode cX6_take 27 = .ok (.dup, 1) := by decide +kernel
theorem dX6_take_28 : decode cX6_take 28 = .ok (.getfield 30, 3) := by decide +kernel
theorem dX6_take_31 : decode cX6_take 31 = .ok (.iconst 1, 1) := by decide +kernel
theorem dX6_take_32 : decode cX6_take 32 = .ok (.iadd, 1) := by decide +kernel
theorem dX6_take_33 : decode cX6_take 33 = .ok (.putfield 30, 3) := by decide +kernel
theorem dX6_take_36 : decode cX6_take 36 = .ok (.iconst 1, 1) := by decide +kernel
theorem dX6_take_37 : decode cX6_take 37 = .ok (.ireturn, 1) := by decide +kernel
end
section
set_option maxRecDepth 20000 in
theorem ggX7_init_X6_init : GoodIn wsX7_init wsX6_init := goodIn_r _ [28, 29, 2, 3, 30, 31, 32, 239, 240, 241, 242] (by decide +kernel) (by decide +kernel)
set_option maxRecDepth 20000 in
theorem gX7_init_X6_init : GoodIn wsX7_init (wsX6_init) := ggX7_init_X6_init
set_option maxRecDepth 20000 in
theorem ggX7_init_X1_init : GoodIn wsX7_init wsX1_init := goodIn_r _ [35, 36, 2, 3, 37, 38, 39, 40, 41, 42, 43, 44, 45, 46, 47, 48, 49, 50, 30, 51, 52, 53, 54, 55, 56, 57, 249, 250, 251, 252, 253, 254, 268, 269, 270, 271, 272, 273, 274, 275, 276, 277, 278, 279, 280, 281, 282, 283, 284, 285, 286, 287] (by decide +kernel) (by decide +kernel)
set_option maxRecDepth 20000 in
theorem gX7_init_X1_init : GoodIn wsX7_init (wsX1_init) := ggX7_init_X1_init
set_option maxRecDepth 20000 in
theorem ggX7_init_X2_init : GoodIn wsX7_init wsX2_init := goodIn_r _ [60, 61, 2, 3, 62, 63, 9, 10, 64, 34, 35, 36, 37, 38, 39, 40, 41, 42, 43, 44, 45, 46, 47, 48, 49, 50, 30, 51, 52, 53, 54, 55, 56, 57, 255, 256, 257, 249, 250, 251, 252, 253, 254, 268, 269, 270, 271, 272, 273, 274, 275, 276, 277, 278, 279, 280, 281, 282, 283, 284, 285, 286, 287] (by decide +kernel) (by decide +kernel)
set_option maxRecDepth 20000 in
theorem gX7_init_X2_init : GoodIn wsX7_init (wsX2_init) := ggX7_init_X2_init
set_option maxRecDepth 20000 in
theorem ggX7_init_X0_init : GoodIn wsX7_init wsX0_init := goodIn_r _ [67, 68, 2, 3, 69, 9, 10, 70, 71, 72, 30, 73, 74, 34, 35, 36, 37, 38, 39, 40, 41, 42, 43, 44, 45, 46, 47, 48, 49, 50, 51, 52, 53, 54, 55, 56, 57, 249, 250, 251, 252, 253, 254, 258, 259, 260, 261, 262, 263, 264, 268, 269, 270, 271, 272, 273, 274, 275, 276, 277, 278, 279, 280, 281, 282, 283, 284, 285, 286, 287] (by decide +kernel) (by decide +kernel)
set_option maxRecDepth 20000 in
theorem gX7_init_X0_init : GoodIn wsX7_init (wsX0_init) := ggX7_init_X0_init
set_option maxRecDepth 20000 in
theorem ggX7_init_X3_init : GoodIn wsX7_init wsX3_init := goodIn_r _ [77, 78, 2, 3, 30, 79, 80, 265, 266, 267] (by decide +kernel) (by decide +kernel)
set_option maxRecDepth 20000 in
theorem gX7_init_X3_init : GoodIn wsX7_init (wsX3_init) := ggX7_init_X3_init
set_option maxRecDepth 20000 in
theorem ggX7_init_J0_length_8abf5 : GoodIn wsX7_init wsJ0_length_8abf5 := goodIn_r _ [85, 86, 87, 88, 89, 84, 90, 91, 92] (by decide +kernel) (by decide +kernel)
set_option maxRecDepth 20000 in
theorem gX7_init_J0_length_8abf5 : GoodIn wsX7_init (wsV RX7 49 RJ0 yJ0_length_8abf5 wsJ0_length_8abf5) := goodIn_app (goodIn_of _ (by decide +kernel)) ggX7_init_J0_length_8abf5
set_option maxRecDepth 20000 in
theorem ggX7_init_J0_charAt_5068e : GoodIn wsX7_init wsJ0_charAt_5068e := goodIn_r _ [96, 86, 97, 98, 99, 84, 100, 91, 92, 101, 102, 103, 104, 105, 106, 107, 108, 109, 110, 111, 112, 113, 114, 115, 116, 117, 118, 119, 120, 121, 122, 123, 124, 125, 126, 127, 128, 129] (by decide +kernel) (by decide +kernel)
set_option maxRecDepth 20000 in
theorem gX7_init_J0_charAt_5068e : GoodIn wsX7_init (wsV RX7 55 RJ0 yJ0_charAt_5068e wsJ0_charAt_5068e) := goodIn_app (goodIn_of _ (by decide +kernel)) ggX7_init_J0_charAt_5068e
set_option maxRecDepth 20000 in
theorem ggX7_init_X6_append : GoodIn wsX7_init wsX6_append := goodIn_r _ [133, 134, 31, 239, 240, 241, 242] (by decide +kernel) (by decide +kernel)
set_option maxRecDepth 20000 in
theorem gX7_init_X6_append : GoodIn wsX7_init (wsV RX7 59 RX6 yX6_append wsX6_append) := goodIn_app (goodIn_of _ (by decide +kernel)) ggX7_init_X6_append
set_option maxRecDepth 20000 in
theorem ggX7_init_X6_readInto : GoodIn wsX7_init wsX6_readInto := goodIn_r _ [138, 139, 134, 140, 141, 142, 10, 143, 144, 145, 146, 44, 147, 148, 149, 43, 150, 151, 152, 153, 154, 155, 6, 156, 157, 158, 159, 160, 31, 161, 162, 163, 164, 165, 166, 167, 168, 169, 170, 171, 172, 173, 174, 175, 176, 177, 32, 178, 179, 180, 181, 38, 182, 183, 184, 46, 185, 186, 187, 188, 189, 190, 191, 192, 193, 194, 195, 196, 197, 198, 199, 200, 201, 202, 203, 204, 205, 206, 207, 208, 209, 210, 211, 212, 213, 214, 215, 216, 217, 218, 219, 239, 240, 241, 242, 249, 250, 251, 252, 253, 254, 268, 269, 270, 271, 272, 273, 274, 275, 276, 277, 278, 279, 280, 281, 282, 283, 284, 285, 286, 287] (by decide +kernel) (by decide +kernel)
set_option maxRecDepth 20000 in
theorem gX7_init_X6_readInto : GoodIn wsX7_init (wsV RX7 63 RX6 yX6_readInto wsX6_readInto) := goodIn_app (goodIn_of _ (by decide +kernel)) ggX7_init_X6_readInto
set_option maxRecDepth 20000 in
theorem ggX7_init_X1_copyFrom : GoodIn wsX7_init wsX1_copyFrom := goodIn_r _ [223, 38, 44, 144, 145, 146, 224, 225, 226, 46, 227, 186, 187, 188, 189, 190, 191, 192, 193, 194, 195, 196, 197, 228, 229, 230, 231, 232, 233, 43, 234, 51, 235, 236, 237, 238, 52, 53, 151, 152, 249, 250, 251, 252, 253, 254, 273, 274, 275, 276, 277, 278, 279, 280, 281, 282, 283, 284, 285, 286, 287, 268, 269, 270, 271, 272] (by decide +kernel) (by decide +kernel)
set_option maxRecDepth 20000 in
theorem gX7_init_X1_copyFrom : GoodIn wsX7_init (wsV RX7 67 RX1 yX1_copyFrom wsX1_copyFrom) := goodIn_app (goodIn_of _ (by decide +kernel)) ggX7_init_X1_copyFrom
theorem dX7_init_0 : decode cX7_init 0 = .ok (.aload_n 0, 1) := by decide +kernel
theorem dX7_init_1 : decode cX7_init 1 = .ok (.invokespecial 1, 3) := by decide +kernel
theorem dX7_init_4 : decode cX7_init 4 = .ok (.aload_n 0, 1) := by decide +kernel
theorem dX7_init_5 : decode cX7_init 5 = .ok (.new 7, 3) := by decide +kernel
theorem dX7_init_8 : decode cX7_init 8 = .ok (.dup, 1) := by decide +kernel
theorem dX7_init_9 : decode cX7_init 9 = .ok (.invokespecial 9, 3) := by decide +kernel
theorem dX7_init_12 : decode cX7_init 12 = .ok (.putfield 10, 3) := by decide +kernel
theorem dX7_init_15 : decode cX7_init 15 = .ok (.aload_n 0, 1) := by decide +kernel
theorem dX7_init_16 : decode cX7_init 16 = .ok (.new 16, 3) := by decide +kernel
theorem dX7_init_19 : decode cX7_init 19 = .ok (.dup, 1) := by decide +kernel
theorem dX7_init_20 : decode cX7_init 20 = .ok (.invokespecial 18, 3) := by decide +kernel
theorem dX7_init_23 : decode cX7_init 23 = .ok (.putfield 19, 3) := by decide +kernel
theorem dX7_init_26 : decode cX7_init 26 = .ok (.aload_n 0, 1) := by decide +kernel
theorem dX7_init_27 : decode cX7_init 27 = .ok (.new 16, 3) := by decide +kernel
theorem dX7_init_30 : decode cX7_init 30 = .ok (.dup, 1) := by decide +kernel
theorem dX7_init_31 : decode cX7_init 31 = .ok (.invokespecial 18, 3) := by decide +kernel
theorem dX7_init_34 : decode cX7_init 34 = .ok (.putfield 23, 3) := by decide +kernel
theorem dX7_init_37 : decode cX7_init 37 = .ok (.aload_n 0, 1) := by decide +kernel
theorem dX7_init_38 : decode cX7_init 38 = .ok (.new 26, 3) := by decide +kernel
theorem dX7_init_41 : decode cX7_init 41 = .ok (.dup, 1) := by decide +kernel
theorem dX7_init_42 : decode cX7_init 42 = .ok (.invokespecial 28, 3) := by decide +kernel
theorem dX7_init_45 : decode cX7_init 45 = .ok (.putfield 29, 3) := by decide +kernel
theorem dX7_init_48 : decode cX7_init 48 = .ok (.aload_n 0, 1) := by decide +kernel
theorem dX7_init_49 : decode cX7_init 49 = .ok (.new 33, 3) := by decide +kernel
theorem dX7_init_52 : decode cX7_init 52 = .ok (.dup, 1) := by decide +kernel
theorem dX7_init_53 : decode cX7_init 53 = .ok (.invokespecial 35, 3) := by decide +kernel
theorem dX7_init_56 : decode cX7_init 56 = .ok (.putfield 36, 3) := by decide +kernel
theorem dX7_init_59 : decode cX7_init 59 = .ok (.aload_n 0, 1) := by decide +kernel
theorem dX7_init_60 : decode cX7_init 60 = .ok (.new 40, 3) := by decide +kernel
theorem dX7_init_63 : decode cX7_init 63 = .ok (.dup, 1) := by decide +kernel
theorem dX7_init_64 : decode cX7_init 64 = .ok (.invokespecial 42, 3) := by decide +kernel
theorem dX7_init_67 : decode cX7_init 67 = .ok (.putfield 43, 3) := by decide +kernel
theorem dX7_init_70 : decode cX7_init 70 = .ok (.iconst 0, 1) := by decide +kernel
theorem dX7_init_71 : decode cX7_init 71 = .ok (.istore_n 1, 1) := by decide +kernel
theorem dX7_init_72 : decode cX7_init 72 = .ok (.iload_n 1, 1) := by decide +kernel
theorem dX7_init_73 : decode cX7_init 73 = .ok (.ldc 47, 2) := by decide +kernel
theorem dX7_init_75 : decode cX7_init 75 = .ok (.invokevirtual 49, 3) := by decide +kernel
theorem dX7_init_78 : decode cX7_init 78 = .ok (.if_icmp .ge 23, 3) := by decide +kernel
theorem dX7_init_81 : decode cX7_init 81 = .ok (.aload_n 0, 1) := by decide +kernel
theorem dX7_init_82 : decode cX7_init 82 = .ok (.getfield 10, 3) := by decide +kernel
theorem dX7_init_85 : decode cX7_init 85 = .ok (.ldc 47, 2) := by decide +kernel
theorem dX7_init_87 : decode cX7_init 87 = .ok (.iload_n 1, 1) := by decide +kernel
theorem dX7_init_88 : decode cX7_init 88 = .ok (.invokevirtual 55, 3) := by decide +kernel
theorem dX7_init_91 : decode cX7_init 91 = .ok (.invokevirtual 59, 3) := by decide +kernel
theorem dX7_init_94 : decode cX7_init 94 = .ok (.pop, 1) := by decide +kernel
theorem dX7_init_95 : decode cX7_init 95 = .ok (.iinc 1 1, 3) := by decide +kernel
theorem dX7_init_98 : decode cX7_init 98 = .ok (.goto (-26), 3) := by decide +kernel
theorem dX7_init_101 : decode cX7_init 101 = .ok (.aload_n 0, 1) := by decide +kernel
theorem dX7_init_102 : decode cX7_init 102 = .ok (.getfield 10, 3) := by decide +kernel
theorem dX7_init_105 : decode cX7_init 105 = .ok (.aload_n 0, 1) := by decide +kernel
theorem dX7_init_106 : decode cX7_init 106 = .ok (.getfield 23, 3) := by decide +kernel
theorem dX7_init_109 : decode cX7_init 109 = .ok (.invokevirtual 63, 3) := by decide +kernel
theorem dX7_init_112 : decode cX7_init 112 = .ok (.bipush (-4), 2) := by decide +kernel
theorem dX7_init_114 : decode cX7_init 114 = .ok (.if_icmp .ne 14, 3) := by decide +kernel
theorem dX7_init_117 : decode cX7_init 117 = .ok (.aload_n 0, 1) := by decide +kernel
theorem dX7_init_118 : decode cX7_init 118 = .ok (.getfield 19, 3) := by decide +kernel
theorem dX7_init_121 : decode cX7_init 121 = .ok (.aload_n 0, 1) := by decide +kernel
theorem dX7_init_122 : decode cX7_init 122 = .ok (.getfield 23, 3) := by decide +kernel
theorem dX7_init_125 : decode cX7_init 125 = .ok (.invokevirtual 67, 3) := by decide +kernel
theorem dX7_init_128 : decode cX7_init 128 = .ok (.aload_n 0, 1) := by decide +kernel
theorem dX7_init_129 : decode cX7_init 129 = .ok (.getfield 10, 3) := by decide +kernel
theorem dX7_init_132 : decode cX7_init 132 = .ok (.iconst 0, 1) := by decide +kernel
theorem dX7_init_133 : decode cX7_init 133 = .ok (.putfield 71, 3) := by decide +kernel
theorem dX7_init_136 : decode cX7_init 136 = .ok (.return_, 1) := by decide +kernel
set_option maxRecDepth 20000 in
theorem ggX7_write_X6_append : GoodIn wsX7_write wsX6_append := goodIn_r _ [7, 8, 9, 16, 17, 18, 19] (by decide +kernel) (by decide +kernel)
set_option maxRecDepth 20000 in
theorem gX7_write_X6_append : GoodIn wsX7_write (wsV RX7 59 RX6 yX6_append wsX6_append) := goodIn_app (goodIn_of _ (by decide +kernel)) ggX7_write_X6_append
theorem dX7_write_0 : decode cX7_write 0 = .ok (.iload_n 1, 1) := by decide +kernel
theorem dX7_write_1 : decode cX7_write 1 = .ok (.bipush 32, 2) := by decide +kernel
theorem dX7_write_3 : decode cX7_write 3 = .ok (.if_icmp .lt 9, 3) := by decide +kernel
theorem dX7_write_6 : decode cX7_write 6 = .ok (.iload_n 1, 1) := by decide +kernel
theorem dX7_write_7 : decode cX7_write 7 = .ok (.bipush 126, 2) := by decide +kernel
theorem dX7_write_9 : decode cX7_write 9 = .ok (.if_icmp .le 5, 3) := by decide +kernel
theorem dX7_write_12 : decode cX7_write 12 = .ok (.iconst (-1), 1) := by decide +kernel
theorem dX7_write_13 : decode cX7_write 13 = .ok (.ireturn, 1) := by decide +kernel
theorem dX7_write_14 : decode cX7_write 14 = .ok (.aload_n 0, 1) := by decide +kernel
theorem dX7_write_15 : decode cX7_write 15 = .ok (.getfield 10, 3) := by decide +kernel
theorem dX7_write_18 : decode cX7_write 18 = .ok (.iload_n 1, 1) := by decide +kernel
theorem dX7_write_19 : decode cX7_write 19 = .ok (.invokevirtual 59, 3) := by decide +kernel
theorem dX7_write_22 : decode cX7_write 22 = .ok (.ifCond .eq 13, 3) := by decide +kernel
theorem dX7_write_25 : decode cX7_write 25 = .ok (.aload_n 0, 1) := by decide +kernel
theorem dX7_write_26 : decode cX7_write 26 = .ok (.getfield 10, 3) := by decide +kernel
theorem dX7_write_29 : decode cX7_write 29 = .ok (.getfield 71, 3) := by decide +kernel
theorem dX7_write_32 : decode cX7_write 32 = .ok (.goto 5, 3) := by decide +kernel
theorem dX7_write_35 : decode cX7_write 35 = .ok (.bipush (-3), 2) := by decide +kernel
theorem dX7_write_37 : decode cX7_write 37 = .ok (.ireturn, 1) := by decide +kernel
theorem dX7_wipe_0 : decode cX7_wipe 0 = .ok (.aload_n 0, 1) := by decide +kernel
theorem dX7_wipe_1 : decode cX7_wipe 1 = .ok (.getfield 10, 3) := by decide +kernel
theorem dX7_wipe_4 : decode cX7_wipe 4 = .ok (.getfield 71, 3) := by decide +kernel
theorem dX7_wipe_7 : decode cX7_wipe 7 = .ok (.istore_n 1, 1) := by decide +kernel
theorem dX7_wipe_8 : decode cX7_wipe 8 = .ok (.aload_n 0, 1) := by decide +kernel
theorem dX7_wipe_9 : decode cX7_wipe 9 = .ok (.getfield 10, 3) := by decide +kernel
theorem dX7_wipe_12 : decode cX7_wipe 12 = .ok (.iconst 0, 1) := by decide +kernel
theorem dX7_wipe_13 : decode cX7_wipe 13 = .ok (.putfield 71, 3) := by decide +kernel
theorem dX7_wipe_16 : decode cX7_wipe 16 = .ok (.iload_n 1, 1) := by decide +kernel
theorem dX7_wipe_17 : decode cX7_wipe 17 = .ok (.ireturn, 1) := by decide +kernel
set_option maxRecDepth 20000 in
theorem ggX7_fault_X6_readInto : GoodIn wsX7_fault wsX6_readInto := goodIn_r _ [7, 8, 9, 10, 11, 12, 13, 14, 15, 16, 17, 18, 19, 20, 21, 22, 23, 24, 25, 26, 27, 28, 6, 29, 30, 31, 32, 33, 34, 35, 36, 37, 38, 39, 40, 41, 42, 43, 44, 45, 46, 47, 48, 49, 50, 51, 52, 53, 54, 55, 56, 57, 58, 59, 60, 61, 62, 63, 64, 65, 66, 67, 68, 69, 70, 71, 72, 73, 74, 75, 76, 77, 78, 79, 80, 81, 82, 83, 84, 85, 86, 87, 88, 89, 90, 91, 92, 93, 94, 95, 96, 103, 104, 105, 106, 107, 108, 109, 110, 111, 112, 113, 114, 115, 116, 117, 118, 119, 120, 121, 122, 123, 124, 125, 126, 127, 128, 129, 130, 131, 132] (by decide +kernel) (by decide +kernel)
set_option maxRecDepth 20000 in
theorem gX7_fault_X6_readInto : GoodIn wsX7_fault (wsV RX7 63 RX6 yX6_readInto wsX6_readInto) := goodIn_app (goodIn_of _ (by decide +kernel)) ggX7_fault_X6_readInto
theorem dX7_fault_0 : decode cX7_fault 0 = .ok (.aload_n 0, 1) := by decide +kernel
theorem dX7_fault_1 : decode cX7_fault 1 = .ok (.getfield 10, 3) := by decide +kernel
theorem dX7_fault_4 : decode cX7_fault 4 = .ok (.aload_n 0, 1) := by decide +kernel
theorem dX7_fault_5 : decode cX7_fault 5 = .ok (.getfield 23, 3) := by decide +kernel
theorem dX7_fault_8 : decode cX7_fault 8 = .ok (.invokevirtual 63, 3) := by decide +kernel
theorem dX7_fault_11 : decode cX7_fault 11 = .ok (.ireturn, 1) := by decide +kernel
set_option maxRecDepth 20000 in
theorem ggX7_lay_X6_readInto : GoodIn wsX7_lay wsX6_readInto := goodIn_r _ [10, 11, 12, 13, 14, 15, 16, 17, 18, 19, 20, 21, 22, 23, 24, 25, 26, 27, 28, 29, 30, 31, 9, 32, 33, 34, 35, 36, 37, 38, 39, 40, 41, 42, 43, 44, 45, 46, 47, 48, 49, 50, 51, 52, 53, 54, 55, 56, 57, 58, 59, 60, 61, 62, 63, 64, 65, 66, 67, 68, 69, 70, 71, 72, 73, 74, 75, 76, 77, 78, 79, 80, 81, 82, 83, 84, 85, 86, 87, 88, 89, 90, 91, 92, 93, 94, 95, 96, 97, 98, 99, 140, 141, 142, 143, 134, 135, 136, 137, 138, 139, 144, 145, 146, 147, 148, 149, 150, 151, 152, 153, 154, 155, 156, 157, 158, 159, 160, 161, 162, 163] (by decide +kernel) (by decide +kernel)
set_option maxRecDepth 20000 in
theorem gX7_lay_X6_readInto : GoodIn wsX7_lay (wsV RX7 63 RX6 yX6_readInto wsX6_readInto) := goodIn_app (goodIn_of _ (by decide +kernel)) ggX7_lay_X6_readInto
set_option maxRecDepth 20000 in
theorem ggX7_lay_X1_copyFrom : GoodIn wsX7_lay wsX1_copyFrom := goodIn_r _ [103, 60, 21, 18, 19, 20, 104, 105, 106, 64, 107, 66, 67, 68, 69, 70, 71, 72, 73, 74, 75, 76, 77, 108, 109, 110, 111, 112, 113, 25, 114, 115, 116, 117, 118, 119, 120, 121, 27, 28, 134, 135, 136, 137, 138, 139, 149, 150, 151, 152, 153, 154, 155, 156, 157, 158, 159, 160, 161, 162, 163, 144, 145, 146, 147, 148] (by decide +kernel) (by decide +kernel)
set_option maxRecDepth 20000 in
theorem gX7_lay_X1_copyFrom : GoodIn wsX7_lay (wsV RX7 67 RX1 yX1_copyFrom wsX1_copyFrom) := goodIn_app (goodIn_of _ (by decide +kernel)) ggX7_lay_X1_copyFrom
set_option maxRecDepth 20000 in
theorem ggX7_lay_X2_forget : GoodIn wsX7_lay wsX2_forget := goodIn_r _ [126, 127, 164, 165, 166] (by decide +kernel) (by decide +kernel)
set_option maxRecDepth 20000 in
theorem gX7_lay_X2_forget : GoodIn wsX7_lay (wsV RX7 77 RX2 yX2_forget wsX2_forget) := goodIn_app (goodIn_of _ (by decide +kernel)) ggX7_lay_X2_forget
theorem dX7_lay_0 : decode cX7_lay 0 = .ok (.aload_n 0, 1) := by decide +kernel
theorem dX7_lay_1 : decode cX7_lay 1 = .ok (.getfield 10, 3) := by decide +kernel
theorem dX7_lay_4 : decode cX7_lay 4 = .ok (.aload_n 0, 1) := by decide +kernel
theorem dX7_lay_5 : decode cX7_lay 5 = .ok (.getfield 23, 3) := by decide +kernel
theorem dX7_lay_8 : decode cX7_lay 8 = .ok (.invokevirtual 63, 3) := by decide +kernel
theorem dX7_lay_11 : decode cX7_lay 11 = .ok (.bipush (-4), 2) := by decide +kernel
theorem dX7_lay_13 : decode cX7_lay 13 = .ok (.if_icmp .ne 13, 3) := by decide +kernel
theorem dX7_lay_16 : decode cX7_lay 16 = .ok (.aload_n 0, 1) := by decide +kernel
theorem dX7_lay_17 : decode cX7_lay 17 = .ok (.getfield 23, 3) := by decide +kernel
theorem dX7_lay_20 : decode cX7_lay 20 = .ok (.getfield 74, 3) := by decide +kernel
theorem dX7_lay_23 : decode cX7_lay 23 = .ok (.ifCond .ne 6, 3) := by decide +kernel
theorem dX7_lay_26 : decode cX7_lay 26 = .ok (.bipush (-2), 2) := by decide +kernel
theorem dX7_lay_28 : decode cX7_lay 28 = .ok (.ireturn, 1) := by decide +kernel
theorem dX7_lay_29 : decode cX7_lay 29 = .ok (.aload_n 0, 1) := by decide +kernel
theorem dX7_lay_30 : decode cX7_lay 30 = .ok (.getfield 19, 3) := by decide +kernel
theorem dX7_lay_33 : decode cX7_lay 33 = .ok (.aload_n 0, 1) := by decide +kernel
theorem dX7_lay_34 : decode cX7_lay 34 = .ok (.getfield 23, 3) := by decide +kernel
theorem dX7_lay_37 : decode cX7_lay 37 = .ok (.invokevirtual 67, 3) := by decide +kernel
theorem dX7_lay_40 : decode cX7_lay 40 = .ok (.aload_n 0, 1) := by decide +kernel
theorem dX7_lay_41 : decode cX7_lay 41 = .ok (.getfield 29, 3) := by decide +kernel
theorem dX7_lay_44 : decode cX7_lay 44 = .ok (.invokevirtual 77, 3) := by decide +kernel
theorem dX7_lay_47 : decode cX7_lay 47 = .ok (.aload_n 0, 1) := by decide +kernel
theorem dX7_lay_48 : decode cX7_lay 48 = .ok (.getfield 19, 3) := by decide +kernel
theorem dX7_lay_51 : decode cX7_lay 51 = .ok (.getfield 74, 3) := by decide +kernel
theorem dX7_lay_54 : decode cX7_lay 54 = .ok (.ireturn, 1) := by decide +kernel
set_option maxRecDepth 20000 in
theorem ggX7_source_X2_keep : GoodIn wsX7_source wsX2_keep := goodIn_r _ [8, 9, 10, 11, 12, 13, 14, 15, 16, 17, 18, 19, 20, 21, 22, 23, 24, 25, 26, 27, 28, 29, 30, 31, 32, 33, 34, 35, 36, 37, 38, 39, 40, 41, 42, 43, 44, 45, 46, 47, 48, 49, 50, 51, 52, 53, 54, 55, 56, 57, 58, 59, 94, 95, 96, 88, 89, 90, 91, 92, 93, 97, 98, 99, 100, 101, 102, 103, 104, 105, 106, 107, 108, 109, 110, 111, 112, 113, 114, 115, 116] (by decide +kernel) (by decide +kernel)
set_option maxRecDepth 20000 in
theorem gX7_source_X2_keep : GoodIn wsX7_source (wsV RX7 83 RX2 yX2_keep wsX2_keep) := goodIn_app (goodIn_of _ (by decide +kernel)) ggX7_source_X2_keep
set_option maxRecDepth 20000 in
theorem ggX7_source_X1_reckon : GoodIn wsX7_source wsX1_reckon := goodIn_r _ [63, 23, 21, 64, 65, 24, 66, 67, 68, 69, 70, 29, 71, 38, 31, 72, 73, 74, 75, 76, 77, 19, 78, 79, 80, 81, 88, 89, 90, 91, 92, 93, 97, 98, 99, 100, 101, 102, 103, 104, 105, 106, 107, 108, 109, 110, 111] (by decide +kernel) (by decide +kernel)
set_option maxRecDepth 20000 in
theorem gX7_source_X1_reckon : GoodIn wsX7_source (wsV RX7 86 RX1 yX1_reckon wsX1_reckon) := goodIn_app (goodIn_of _ (by decide +kernel)) ggX7_source_X1_reckon
theorem dX7_source_0 : decode cX7_source 0 = .ok (.iload_n 1, 1) := by decide +kernel
theorem dX7_source_1 : decode cX7_source 1 = .ok (.sipush 800, 3) := by decide +kernel
theorem dX7_source_4 : decode cX7_source 4 = .ok (.if_icmp .lt 10, 3) := by decide +kernel
theorem dX7_source_7 : decode cX7_source 7 = .ok (.iload_n 1, 1) := by decide +kernel
theorem dX7_source_8 : decode cX7_source 8 = .ok (.sipush 1200, 3) := by decide +kernel
theorem dX7_source_11 : decode cX7_source 11 = .ok (.if_icmp .le 5, 3) := by decide +kernel
theorem dX7_source_14 : decode cX7_source 14 = .ok (.iconst (-1), 1) := by decide +kernel
theorem dX7_source_15 : decode cX7_source 15 = .ok (.ireturn, 1) := by decide +kernel
theorem dX7_source_16 : decode cX7_source 16 = .ok (.aload_n 0, 1) := by decide +kernel
theorem dX7_source_17 : decode cX7_source 17 = .ok (.getfield 19, 3) := by decide +kernel
theorem dX7_source_20 : decode cX7_source 20 = .ok (.getfield 80, 3) := by decide +kernel
theorem dX7_source_23 : decode cX7_source 23 = .ok (.istore_n 2, 1) := by decide +kernel
theorem dX7_source_24 : decode cX7_source 24 = .ok (.iload_n 2, 1) := by decide +kernel
theorem dX7_source_25 : decode cX7_source 25 = .ok (.iload_n 1, 1) := by decide +kernel
theorem dX7_source_26 : decode cX7_source 26 = .ok (.if_icmp .ne 6, 3) := by decide +kernel
theorem dX7_source_29 : decode cX7_source 29 = .ok (.bipush (-2), 2) := by decide +kernel
theorem dX7_source_31 : decode cX7_source 31 = .ok (.ireturn, 1) := by decide +kernel
theorem dX7_source_32 : decode cX7_source 32 = .ok (.aload_n 0, 1) := by decide +kernel
theorem dX7_source_33 : decode cX7_source 33 = .ok (.getfield 29, 3) := by decide +kernel
theorem dX7_source_36 : decode cX7_source 36 = .ok (.aload_n 0, 1) := by decide +kernel
theorem dX7_source_37 : decode cX7_source 37 = .ok (.getfield 19, 3) := by decide +kernel
theorem dX7_source_40 : decode cX7_source 40 = .ok (.invokevirtual 83, 3) := by decide +kernel
theorem dX7_source_43 : decode cX7_source 43 = .ok (.aload_n 0, 1) := by decide +kernel
theorem dX7_source_44 : decode cX7_source 44 = .ok (.getfield 19, 3) := by decide +kernel
theorem dX7_source_47 : decode cX7_source 47 = .ok (.iload_n 1, 1) := by decide +kernel
theorem dX7_source_48 : decode cX7_source 48 = .ok (.putfield 80, 3) := by decide +kernel
theorem dX7_source_51 : decode cX7_source 51 = .ok (.aload_n 0, 1) := by decide +kernel
theorem dX7_source_52 : decode cX7_source 52 = .ok (.getfield 19, 3) := by decide +kernel
theorem dX7_source_55 : decode cX7_source 55 = .ok (.invokevirtual 86, 3) := by decide +kernel
theorem dX7_source_58 : decode cX7_source 58 = .ok (.iload_n 2, 1) := by decide +kernel
theorem dX7_source_59 : decode cX7_source 59 = .ok (.ireturn, 1) := by decide +kernel
set_option maxRecDepth 20000 in
theorem ggX7_tell_X1_has : GoodIn wsX7_tell wsX1_has := goodIn_r _ [8, 9, 103, 104, 105, 106, 107, 108] (by decide +kernel) (by decide +kernel)
set_option maxRecDepth 20000 in
theorem gX7_tell_X1_has : GoodIn wsX7_tell (wsV RX7 89 RX1 yX1_has wsX1_has) := goodIn_app (goodIn_of _ (by decide +kernel)) ggX7_tell_X1_has
set_option maxRecDepth 20000 in
theorem ggX7_tell_X7_mayBeTold : GoodIn wsX7_tell wsX7_mayBeTold := goodIn_r _ [13] (by decide +kernel) (by decide +kernel)
set_option maxRecDepth 20000 in
theorem gX7_tell_X7_mayBeTold : GoodIn wsX7_tell (va_wsS RX7 92 yX7_mayBeTold wsX7_mayBeTold) := goodIn_app (goodIn_of _ (by decide +kernel)) ggX7_tell_X7_mayBeTold
set_option maxRecDepth 20000 in
theorem ggX7_tell_X4_valueToTell : GoodIn wsX7_tell wsX4_valueToTell := goodIn_r _ [18, 19, 20, 21, 109, 110, 111, 112, 113, 114, 115, 116, 117, 118, 119, 120, 121, 122, 123] (by decide +kernel) (by decide +kernel)
set_option maxRecDepth 20000 in
theorem gX7_tell_X4_valueToTell : GoodIn wsX7_tell (wsV RX7 100 RX4 yX4_valueToTell wsX4_valueToTell) := goodIn_app (goodIn_of _ (by decide +kernel)) ggX7_tell_X4_valueToTell
set_option maxRecDepth 20000 in
theorem ggX7_tell_X2_keep : GoodIn wsX7_tell wsX2_keep := goodIn_r _ [26, 27, 28, 29, 30, 31, 32, 33, 34, 35, 36, 7, 37, 38, 39, 9, 40, 41, 42, 43, 44, 17, 45, 46, 47, 48, 21, 49, 19, 50, 20, 51, 52, 53, 54, 55, 56, 57, 58, 59, 60, 61, 62, 63, 64, 65, 66, 67, 68, 69, 70, 71, 124, 125, 126, 103, 104, 105, 106, 107, 108, 109, 110, 111, 112, 113, 114, 115, 116, 117, 118, 119, 120, 121, 122, 123, 127, 128, 129, 130, 131] (by decide +kernel) (by decide +kernel)
set_option maxRecDepth 20000 in
theorem gX7_tell_X2_keep : GoodIn wsX7_tell (wsV RX7 83 RX2 yX2_keep wsX2_keep) := goodIn_app (goodIn_of _ (by decide +kernel)) ggX7_tell_X2_keep
set_option maxRecDepth 20000 in
theorem ggX7_tell_X4_takeTold : GoodIn wsX7_tell wsX4_takeTold := goodIn_r _ [75, 19, 20, 21, 109, 110, 111, 112, 113, 114, 115, 116, 117, 118, 119, 120, 121, 122, 123] (by decide +kernel) (by decide +kernel)
set_option maxRecDepth 20000 in
theorem gX7_tell_X4_takeTold : GoodIn wsX7_tell (wsV RX7 106 RX4 yX4_takeTold wsX4_takeTold) := goodIn_app (goodIn_of _ (by decide +kernel)) ggX7_tell_X4_takeTold
set_option maxRecDepth 20000 in
theorem ggX7_tell_X1_reckon : GoodIn wsX7_tell wsX1_reckon := goodIn_r _ [79, 9, 38, 80, 81, 40, 82, 83, 84, 85, 86, 17, 87, 20, 46, 88, 12, 89, 90, 91, 92, 7, 93, 94, 95, 96, 103, 104, 105, 106, 107, 108, 109, 110, 111, 112, 113, 114, 115, 116, 117, 118, 119, 120, 121, 122, 123] (by decide +kernel) (by decide +kernel)
set_option maxRecDepth 20000 in
theorem gX7_tell_X1_reckon : GoodIn wsX7_tell (wsV RX7 86 RX1 yX1_reckon wsX1_reckon) := goodIn_app (goodIn_of _ (by decide +kernel)) ggX7_tell_X1_reckon
theorem dX7_tell_0 : decode cX7_tell 0 = .ok (.aload_n 0, 1) := by decide +kernel
theorem dX7_tell_1 : decode cX7_tell 1 = .ok (.getfield 19, 3) := by decide +kernel
theorem dX7_tell_4 : decode cX7_tell 4 = .ok (.iload_n 1, 1) := by decide +kernel
theorem dX7_tell_5 : decode cX7_tell 5 = .ok (.invokevirtual 89, 3) := by decide +kernel
theorem dX7_tell_8 : decode cX7_tell 8 = .ok (.ifCond .eq 11, 3) := by decide +kernel
theorem dX7_tell_11 : decode cX7_tell 11 = .ok (.iload_n 2, 1) := by decide +kernel
theorem dX7_tell_12 : decode cX7_tell 12 = .ok (.iload_n 3, 1) := by decide +kernel
theorem dX7_tell_13 : decode cX7_tell 13 = .ok (.invokestatic 92, 3) := by decide +kernel
theorem dX7_tell_16 : decode cX7_tell 16 = .ok (.ifCond .ne 5, 3) := by decide +kernel
theorem dX7_tell_19 : decode cX7_tell 19 = .ok (.iconst (-1), 1) := by decide +kernel
theorem dX7_tell_20 : decode cX7_tell 20 = .ok (.ireturn, 1) := by decide +kernel
theorem dX7_tell_21 : decode cX7_tell 21 = .ok (.aload_n 0, 1) := by decide +kernel
theorem dX7_tell_22 : decode cX7_tell 22 = .ok (.getfield 19, 3) := by decide +kernel
theorem dX7_tell_25 : decode cX7_tell 25 = .ok (.getfield 96, 3) := by decide +kernel
theorem dX7_tell_28 : decode cX7_tell 28 = .ok (.iload_n 1, 1) := by decide +kernel
theorem dX7_tell_29 : decode cX7_tell 29 = .ok (.aaload, 1) := by decide +kernel
theorem dX7_tell_30 : decode cX7_tell 30 = .ok (.astore 4, 2) := by decide +kernel
theorem dX7_tell_32 : decode cX7_tell 32 = .ok (.aload 4, 2) := by decide +kernel
theorem dX7_tell_34 : decode cX7_tell 34 = .ok (.iload_n 2, 1) := by decide +kernel
theorem dX7_tell_35 : decode cX7_tell 35 = .ok (.invokevirtual 100, 3) := by decide +kernel
theorem dX7_tell_38 : decode cX7_tell 38 = .ok (.istore 5, 2) := by decide +kernel
theorem dX7_tell_40 : decode cX7_tell 40 = .ok (.iload 5, 2) := by decide +kernel
theorem dX7_tell_42 : decode cX7_tell 42 = .ok (.iload_n 3, 1) := by decide +kernel
theorem dX7_tell_43 : decode cX7_tell 43 = .ok (.if_icmp .ne 6, 3) := by decide +kernel
theorem dX7_tell_46 : decode cX7_tell 46 = .ok (.bipush (-2), 2) := by decide +kernel
theorem dX7_tell_48 : decode cX7_tell 48 = .ok (.ireturn, 1) := by decide +kernel
theorem dX7_tell_49 : decode cX7_tell 49 = .ok (.aload_n 0, 1) := by decide +kernel
theorem dX7_tell_50 : decode cX7_tell 50 = .ok (.getfield 29, 3) := by decide +kernel
theorem dX7_tell_53 : decode cX7_tell 53 = .ok (.aload_n 0, 1) := by decide +kernel
theorem dX7_tell_54 : decode cX7_tell 54 = .ok (.getfield 19, 3) := by decide +kernel
theorem dX7_tell_57 : decode cX7_tell 57 = .ok (.invokevirtual 83, 3) := by decide +kernel
theorem dX7_tell_60 : decode cX7_tell 60 = .ok (.aload 4, 2) := by decide +kernel
theorem dX7_tell_62 : decode cX7_tell 62 = .ok (.iload_n 2, 1) := by decide +kernel
theorem dX7_tell_63 : decode cX7_tell 63 = .ok (.iload_n 3, 1) := by decide +kernel
theorem dX7_tell_64 : decode cX7_tell 64 = .ok (.invokevirtual 106, 3) := by decide +kernel
theorem dX7_tell_67 : decode cX7_tell 67 = .ok (.aload_n 0, 1) := by decide +kernel
theorem dX7_tell_68 : decode cX7_tell 68 = .ok (.getfield 19, 3) := by decide +kernel
theorem dX7_tell_71 : decode cX7_tell 71 = .ok (.invokevirtual 86, 3) := by decide +kernel
theorem dX7_tell_74 : decode cX7_tell 74 = .ok (.iload 5, 2) := by decide +kernel
theorem dX7_tell_76 : decode cX7_tell 76 = .ok (.ireturn, 1) := by decide +kernel
set_option maxRecDepth 20000 in
theorem ggX7_stick_X1_has : GoodIn wsX7_stick wsX1_has := goodIn_r _ [9, 10, 76, 77, 78, 79, 80, 81] (by decide +kernel) (by decide +kernel)
set_option maxRecDepth 20000 in
theorem gX7_stick_X1_has : GoodIn wsX7_stick (wsV RX7 89 RX1 yX1_has wsX1_has) := goodIn_app (goodIn_of _ (by decide +kernel)) ggX7_stick_X1_has
set_option maxRecDepth 20000 in
theorem ggX7_stick_X2_keep : GoodIn wsX7_stick wsX2_keep := goodIn_r _ [15, 16, 17, 18, 19, 20, 21, 22, 23, 24, 25, 8, 26, 27, 28, 10, 29, 30, 31, 32, 33, 34, 35, 36, 37, 38, 39, 40, 41, 42, 43, 44, 45, 46, 47, 48, 49, 50, 51, 52, 53, 54, 55, 56, 57, 58, 59, 60, 61, 62, 63, 64, 97, 98, 99, 76, 77, 78, 79, 80, 81, 82, 83, 84, 85, 86, 87, 88, 89, 90, 91, 92, 93, 94, 95, 96, 100, 101, 102, 103, 104] (by decide +kernel) (by decide +kernel)
set_option maxRecDepth 20000 in
theorem gX7_stick_X2_keep : GoodIn wsX7_stick (wsV RX7 83 RX2 yX2_keep wsX2_keep) := goodIn_app (goodIn_of _ (by decide +kernel)) ggX7_stick_X2_keep
set_option maxRecDepth 20000 in
theorem ggX7_stick_X1_stuckStages : GoodIn wsX7_stick wsX1_stuckStages := goodIn_r _ [68, 10, 27, 69, 76, 77, 78, 79, 80, 81, 82, 83, 84, 85, 86, 87, 88, 89, 90, 91, 92, 93, 94, 95, 96] (by decide +kernel) (by decide +kernel)
set_option maxRecDepth 20000 in
theorem gX7_stick_X1_stuckStages : GoodIn wsX7_stick (wsV RX7 114 RX1 yX1_stuckStages wsX1_stuckStages) := goodIn_app (goodIn_of _ (by decide +kernel)) ggX7_stick_X1_stuckStages
theorem dX7_stick_0 : decode cX7_stick 0 = .ok (.aload_n 0, 1) := by decide +kernel
theorem dX7_stick_1 : decode cX7_stick 1 = .ok (.getfield 19, 3) := by decide +kernel
theorem dX7_stick_4 : decode cX7_stick 4 = .ok (.iload_n 1, 1) := by decide +kernel
theorem dX7_stick_5 : decode cX7_stick 5 = .ok (.invokevirtual 89, 3) := by decide +kernel
theorem dX7_stick_8 : decode cX7_stick 8 = .ok (.ifCond .eq 12, 3) := by decide +kernel
theorem dX7_stick_11 : decode cX7_stick 11 = .ok (.iload_n 2, 1) := by decide +kernel
theorem dX7_stick_12 : decode cX7_stick 12 = .ok (.ifCond .lt 8, 3) := by decide +kernel
theorem dX7_stick_15 : decode cX7_stick 15 = .ok (.iload_n 2, 1) := by decide +kernel
theorem dX7_stick_16 : decode cX7_stick 16 = .ok (.iconst 1, 1) := by decide +kernel
theorem dX7_stick_17 : decode cX7_stick 17 = .ok (.if_icmp .le 5, 3) := by decide +kernel
theorem dX7_stick_20 : decode cX7_stick 20 = .ok (.iconst (-1), 1) := by decide +kernel
theorem dX7_stick_21 : decode cX7_stick 21 = .ok (.ireturn, 1) := by decide +kernel
theorem dX7_stick_22 : decode cX7_stick 22 = .ok (.iload_n 2, 1) := by decide +kernel
theorem dX7_stick_23 : decode cX7_stick 23 = .ok (.iconst 1, 1) := by decide +kernel
theorem dX7_stick_24 : decode cX7_stick 24 = .ok (.if_icmp .ne 7, 3) := by decide +kernel
theorem dX7_stick_27 : decode cX7_stick 27 = .ok (.iconst 1, 1) := by decide +kernel
theorem dX7_stick_28 : decode cX7_stick 28 = .ok (.goto 4, 3) := by decide +kernel
theorem dX7_stick_31 : decode cX7_stick 31 = .ok (.iconst 0, 1) := by decide +kernel
theorem dX7_stick_32 : decode cX7_stick 32 = .ok (.istore_n 3, 1) := by decide +kernel
theorem dX7_stick_33 : decode cX7_stick 33 = .ok (.aload_n 0, 1) := by decide +kernel
theorem dX7_stick_34 : decode cX7_stick 34 = .ok (.getfield 19, 3) := by decide +kernel
theorem dX7_stick_37 : decode cX7_stick 37 = .ok (.getfield 96, 3) := by decide +kernel
theorem dX7_stick_40 : decode cX7_stick 40 = .ok (.iload_n 1, 1) := by decide +kernel
theorem dX7_stick_41 : decode cX7_stick 41 = .ok (.aaload, 1) := by decide +kernel
theorem dX7_stick_42 : decode cX7_stick 42 = .ok (.getfield 110, 3) := by decide +kernel
theorem dX7_stick_45 : decode cX7_stick 45 = .ok (.iload_n 3, 1) := by decide +kernel
theorem dX7_stick_46 : decode cX7_stick 46 = .ok (.if_icmp .ne 6, 3) := by decide +kernel
theorem dX7_stick_49 : decode cX7_stick 49 = .ok (.bipush (-2), 2) := by decide +kernel
theorem dX7_stick_51 : decode cX7_stick 51 = .ok (.ireturn, 1) := by decide +kernel
theorem dX7_stick_52 : decode cX7_stick 52 = .ok (.aload_n 0, 1) := by decide +kernel
theorem dX7_stick_53 : decode cX7_stick 53 = .ok (.getfield 29, 3) := by decide +kernel
theorem dX7_stick_56 : decode cX7_stick 56 = .ok (.aload_n 0, 1) := by decide +kernel
theorem dX7_stick_57 : decode cX7_stick 57 = .ok (.getfield 19, 3) := by decide +kernel
theorem dX7_stick_60 : decode cX7_stick 60 = .ok (.invokevirtual 83, 3) := by decide +kernel
theorem dX7_stick_63 : decode cX7_stick 63 = .ok (.aload_n 0, 1) := by decide +kernel
theorem dX7_stick_64 : decode cX7_stick 64 = .ok (.getfield 19, 3) := by decide +kernel
theorem dX7_stick_67 : decode cX7_stick 67 = .ok (.getfield 96, 3) := by decide +kernel
theorem dX7_stick_70 : decode cX7_stick 70 = .ok (.iload_n 1, 1) := by decide +kernel
theorem dX7_stick_71 : decode cX7_stick 71 = .ok (.aaload, 1) := by decide +kernel
theorem dX7_stick_72 : decode cX7_stick 72 = .ok (.iload_n 3, 1) := by decide +kernel
theorem dX7_stick_73 : decode cX7_stick 73 = .ok (.putfield 110, 3) := by decide +kernel
theorem dX7_stick_76 : decode cX7_stick 76 = .ok (.aload_n 0, 1) := by decide +kernel
theorem dX7_stick_77 : decode cX7_stick 77 = .ok (.getfield 19, 3) := by decide +kernel
theorem dX7_stick_80 : decode cX7_stick 80 = .ok (.invokevirtual 114, 3) := by decide +kernel
theorem dX7_stick_83 : decode cX7_stick 83 = .ok (.ireturn, 1) := by decide +kernel
set_option maxRecDepth 20000 in
theorem ggX7_tick_X2_keep : GoodIn wsX7_tick wsX2_keep := goodIn_r _ [10, 11, 12, 13, 14, 15, 16, 17, 18, 19, 20, 21, 22, 23, 24, 25, 26, 27, 28, 29, 30, 31, 32, 33, 34, 35, 36, 37, 38, 39, 40, 41, 42, 43, 44, 45, 46, 47, 48, 49, 50, 51, 52, 53, 54, 55, 56, 57, 58, 59, 60, 61, 145, 146, 147, 134, 135, 136, 137, 138, 139, 148, 149, 150, 151, 152, 153, 154, 155, 156, 157, 158, 159, 160, 161, 162, 140, 141, 142, 143, 144] (by decide +kernel) (by decide +kernel)
set_option maxRecDepth 20000 in
theorem gX7_tick_X2_keep : GoodIn wsX7_tick (wsV RX7 83 RX2 yX2_keep wsX2_keep) := goodIn_app (goodIn_of _ (by decide +kernel)) ggX7_tick_X2_keep
set_option maxRecDepth 20000 in
theorem ggX7_tick_X1_runTick : GoodIn wsX7_tick wsX1_runTick := goodIn_r _ [65, 25, 23, 66, 67, 68, 27, 69, 70, 71, 31, 72, 41, 42, 73, 74, 75, 76, 45, 37, 77, 78, 79, 80, 47, 34, 35, 81, 82, 83, 21, 84, 85, 86, 87, 88, 44, 40, 89, 90, 91, 92, 93, 94, 95, 96, 97, 98, 24, 99, 100, 101, 102, 103, 104, 51, 105, 60, 53, 58, 59, 106, 107, 108, 109, 110, 111, 26, 112, 113, 114, 115, 116, 117, 33, 118, 119, 120, 121, 122, 123, 124, 125, 126, 127, 134, 135, 136, 137, 138, 139, 148, 149, 150, 151, 152, 153, 154, 155, 156, 157, 158, 159, 160, 161, 162, 140, 141, 142, 143, 144] (by decide +kernel) (by decide +kernel)
set_option maxRecDepth 20000 in
theorem gX7_tick_X1_runTick : GoodIn wsX7_tick (wsV RX7 129 RX1 yX1_runTick wsX1_runTick) := goodIn_app (goodIn_of _ (by decide +kernel)) ggX7_tick_X1_runTick
theorem dX7_tick_0 : decode cX7_tick 0 = .ok (.iload_n 1, 1) := by decide +kernel
theorem dX7_tick_1 : decode cX7_tick 1 = .ok (.iconst 1, 1) := by decide +kernel
theorem dX7_tick_2 : decode cX7_tick 2 = .ok (.if_icmp .lt 9, 3) := by decide +kernel
theorem dX7_tick_5 : decode cX7_tick 5 = .ok (.iload_n 1, 1) := by decide +kernel
theorem dX7_tick_6 : decode cX7_tick 6 = .ok (.bipush 50, 2) := by decide +kernel
theorem dX7_tick_8 : decode cX7_tick 8 = .ok (.if_icmp .le 5, 3) := by decide +kernel
theorem dX7_tick_11 : decode cX7_tick 11 = .ok (.iconst (-1), 1) := by decide +kernel
theorem dX7_tick_12 : decode cX7_tick 12 = .ok (.ireturn, 1) := by decide +kernel
theorem dX7_tick_13 : decode cX7_tick 13 = .ok (.aload_n 0, 1) := by decide +kernel
theorem dX7_tick_14 : decode cX7_tick 14 = .ok (.getfield 19, 3) := by decide +kernel
theorem dX7_tick_17 : decode cX7_tick 17 = .ok (.getfield 117, 3) := by decide +kernel
theorem dX7_tick_20 : decode cX7_tick 20 = .ok (.iload_n 1, 1) := by decide +kernel
theorem dX7_tick_21 : decode cX7_tick 21 = .ok (.iadd, 1) := by decide +kernel
theorem dX7_tick_22 : decode cX7_tick 22 = .ok (.sipush 9999, 3) := by decide +kernel
theorem dX7_tick_25 : decode cX7_tick 25 = .ok (.if_icmp .le 6, 3) := by decide +kernel
theorem dX7_tick_28 : decode cX7_tick 28 = .ok (.bipush (-2), 2) := by decide +kernel
theorem dX7_tick_30 : decode cX7_tick 30 = .ok (.ireturn, 1) := by decide +kernel
theorem dX7_tick_31 : decode cX7_tick 31 = .ok (.aload_n 0, 1) := by decide +kernel
theorem dX7_tick_32 : decode cX7_tick 32 = .ok (.getfield 29, 3) := by decide +kernel
theorem dX7_tick_35 : decode cX7_tick 35 = .ok (.aload_n 0, 1) := by decide +kernel
theorem dX7_tick_36 : decode cX7_tick 36 = .ok (.getfield 19, 3) := by decide +kernel
theorem dX7_tick_39 : decode cX7_tick 39 = .ok (.invokevirtual 83, 3) := by decide +kernel
theorem dX7_tick_42 : decode cX7_tick 42 = .ok (.aload_n 0, 1) := by decide +kernel
theorem dX7_tick_43 : decode cX7_tick 43 = .ok (.getfield 19, 3) := by decide +kernel
theorem dX7_tick_46 : decode cX7_tick 46 = .ok (.getfield 120, 3) := by decide +kernel
theorem dX7_tick_49 : decode cX7_tick 49 = .ok (.getfield 124, 3) := by decide +kernel
theorem dX7_tick_52 : decode cX7_tick 52 = .ok (.istore_n 2, 1) := by decide +kernel
theorem dX7_tick_53 : decode cX7_tick 53 = .ok (.iconst 0, 1) := by decide +kernel
theorem dX7_tick_54 : decode cX7_tick 54 = .ok (.istore_n 3, 1) := by decide +kernel
theorem dX7_tick_55 : decode cX7_tick 55 = .ok (.iload_n 3, 1) := by decide +kernel
theorem dX7_tick_56 : decode cX7_tick 56 = .ok (.iload_n 1, 1) := by decide +kernel
theorem dX7_tick_57 : decode cX7_tick 57 = .ok (.if_icmp .ge 16, 3) := by decide +kernel
theorem dX7_tick_60 : decode cX7_tick 60 = .ok (.aload_n 0, 1) := by decide +kernel
theorem dX7_tick_61 : decode cX7_tick 61 = .ok (.getfield 19, 3) := by decide +kernel
theorem dX7_tick_64 : decode cX7_tick 64 = .ok (.invokevirtual 129, 3) := by decide +kernel
theorem dX7_tick_67 : decode cX7_tick 67 = .ok (.iinc 3 1, 3) := by decide +kernel
theorem dX7_tick_70 : decode cX7_tick 70 = .ok (.goto (-15), 3) := by decide +kernel
theorem dX7_tick_73 : decode cX7_tick 73 = .ok (.aload_n 0, 1) := by decide +kernel
theorem dX7_tick_74 : decode cX7_tick 74 = .ok (.getfield 19, 3) := by decide +kernel
theorem dX7_tick_77 : decode cX7_tick 77 = .ok (.getfield 120, 3) := by decide +kernel
theorem dX7_tick_80 : decode cX7_tick 80 = .ok (.getfield 124, 3) := by decide +kernel
theorem dX7_tick_83 : decode cX7_tick 83 = .ok (.iload_n 2, 1) := by decide +kernel
theorem dX7_tick_84 : decode cX7_tick 84 = .ok (.isub, 1) := by decide +kernel
theorem dX7_tick_85 : decode cX7_tick 85 = .ok (.ireturn, 1) := by decide +kernel
set_option maxRecDepth 20000 in
theorem ggX7_undo_X2_giveBack : GoodIn wsX7_undo wsX2_giveBack := goodIn_r _ [8, 9, 10, 11, 12, 13, 14, 15, 16, 17, 18, 19, 20, 21, 22, 23, 24, 25, 26, 27, 28, 29, 30, 31, 32, 33, 34, 35, 36, 37, 38, 39, 40, 41, 42, 43, 44, 45, 46, 47, 48, 49, 50, 51, 52, 53, 54, 55, 62, 63, 64, 65, 66, 67, 68, 69, 70, 71, 72, 73, 74, 75, 76, 77, 78, 79, 80, 81, 82, 83, 84, 85, 86, 87, 88, 89, 90] (by decide +kernel) (by decide +kernel)
set_option maxRecDepth 20000 in
theorem gX7_undo_X2_giveBack : GoodIn wsX7_undo (wsV RX7 133 RX2 yX2_giveBack wsX2_giveBack) := goodIn_app (goodIn_of _ (by decide +kernel)) ggX7_undo_X2_giveBack
theorem dX7_undo_0 : decode cX7_undo 0 = .ok (.aload_n 0, 1) := by decide +kernel
theorem dX7_undo_1 : decode cX7_undo 1 = .ok (.getfield 29, 3) := by decide +kernel
theorem dX7_undo_4 : decode cX7_undo 4 = .ok (.getfield 132, 3) := by decide +kernel
theorem dX7_undo_7 : decode cX7_undo 7 = .ok (.ifCond .ne 6, 3) := by decide +kernel
theorem dX7_undo_10 : decode cX7_undo 10 = .ok (.bipush (-2), 2) := by decide +kernel
theorem dX7_undo_12 : decode cX7_undo 12 = .ok (.ireturn, 1) := by decide +kernel
theorem dX7_undo_13 : decode cX7_undo 13 = .ok (.aload_n 0, 1) := by decide +kernel
theorem dX7_undo_14 : decode cX7_undo 14 = .ok (.getfield 29, 3) := by decide +kernel
theorem dX7_undo_17 : decode cX7_undo 17 = .ok (.aload_n 0, 1) := by decide +kernel
theorem dX7_undo_18 : decode cX7_undo 18 = .ok (.getfield 19, 3) := by decide +kernel
theorem dX7_undo_21 : decode cX7_undo 21 = .ok (.invokevirtual 133, 3) := by decide +kernel
theorem dX7_undo_24 : decode cX7_undo 24 = .ok (.aload_n 0, 1) := by decide +kernel
theorem dX7_undo_25 : decode cX7_undo 25 = .ok (.getfield 29, 3) := by decide +kernel
theorem dX7_undo_28 : decode cX7_undo 28 = .ok (.getfield 132, 3) := by decide +kernel
theorem dX7_undo_31 : decode cX7_undo 31 = .ok (.ireturn, 1) := by decide +kernel
set_option maxRecDepth 20000 in
theorem ggX7_stage_X1_has : GoodIn wsX7_stage wsX1_has := goodIn_r _ [7, 8, 45, 46, 47, 48, 49, 50] (by decide +kernel) (by decide +kernel)
set_option maxRecDepth 20000 in
theorem gX7_stage_X1_has : GoodIn wsX7_stage (wsV RX7 89 RX1 yX1_has wsX1_has) := goodIn_app (goodIn_of _ (by decide +kernel)) ggX7_stage_X1_has
set_option maxRecDepth 20000 in
theorem ggX7_stage_X4_valueOf : GoodIn wsX7_stage wsX4_valueOf := goodIn_r _ [13, 14, 15, 16, 17, 18, 19, 20, 21, 22, 23, 24, 25, 26, 27, 28, 29, 12, 30, 31, 32, 33, 34, 35, 36, 37, 38, 51, 52, 53, 54, 55, 56, 57, 58, 59, 60, 61, 62, 63, 64, 65] (by decide +kernel) (by decide +kernel)
set_option maxRecDepth 20000 in
theorem gX7_stage_X4_valueOf : GoodIn wsX7_stage (wsV RX7 136 RX4 yX4_valueOf wsX4_valueOf) := goodIn_app (goodIn_of _ (by decide +kernel)) ggX7_stage_X4_valueOf
theorem dX7_stage_0 : decode cX7_stage 0 = .ok (.aload_n 0, 1) := by decide +kernel
theorem dX7_stage_1 : decode cX7_stage 1 = .ok (.getfield 19, 3) := by decide +kernel
theorem dX7_stage_4 : decode cX7_stage 4 = .ok (.iload_n 1, 1) := by decide +kernel
theorem dX7_stage_5 : decode cX7_stage 5 = .ok (.invokevirtual 89, 3) := by decide +kernel
theorem dX7_stage_8 : decode cX7_stage 8 = .ok (.ifCond .eq 19, 3) := by decide +kernel
theorem dX7_stage_11 : decode cX7_stage 11 = .ok (.aload_n 0, 1) := by decide +kernel
theorem dX7_stage_12 : decode cX7_stage 12 = .ok (.getfield 19, 3) := by decide +kernel
theorem dX7_stage_15 : decode cX7_stage 15 = .ok (.getfield 96, 3) := by decide +kernel
theorem dX7_stage_18 : decode cX7_stage 18 = .ok (.iload_n 1, 1) := by decide +kernel
theorem dX7_stage_19 : decode cX7_stage 19 = .ok (.aaload, 1) := by decide +kernel
theorem dX7_stage_20 : decode cX7_stage 20 = .ok (.iload_n 2, 1) := by decide +kernel
theorem dX7_stage_21 : decode cX7_stage 21 = .ok (.invokevirtual 136, 3) := by decide +kernel
theorem dX7_stage_24 : decode cX7_stage 24 = .ok (.goto 4, 3) := by decide +kernel
theorem dX7_stage_27 : decode cX7_stage 27 = .ok (.iconst (-1), 1) := by decide +kernel
theorem dX7_stage_28 : decode cX7_stage 28 = .ok (.ireturn, 1) := by decide +kernel
set_option maxRecDepth 20000 in
theorem ggX7_done_X5_told : GoodIn wsX7_done wsX5_told := goodIn_r _ [7, 8, 9, 10, 11, 12, 33, 34, 35, 36, 37] (by decide +kernel) (by decide +kernel)
set_option maxRecDepth 20000 in
theorem gX7_done_X5_told : GoodIn wsX7_done (wsV RX7 139 RX5 yX5_told wsX5_told) := goodIn_app (goodIn_of _ (by decide +kernel)) ggX7_done_X5_told
set_option maxRecDepth 20000 in
theorem ggX7_done_X5_valueOf : GoodIn wsX7_done wsX5_valueOf := goodIn_r _ [16, 8, 17, 18, 19, 20, 4, 5, 6, 7, 9, 10, 11, 12, 33, 34, 35, 36, 37] (by decide +kernel) (by decide +kernel)
set_option maxRecDepth 20000 in
theorem gX7_done_X5_valueOf : GoodIn wsX7_done (wsV RX7 142 RX5 yX5_valueOf wsX5_valueOf) := goodIn_app (goodIn_of _ (by decide +kernel)) ggX7_done_X5_valueOf
theorem dX7_done_0 : decode cX7_done 0 = .ok (.iload_n 1, 1) := by decide +kernel
theorem dX7_done_1 : decode cX7_done 1 = .ok (.ifCond .lt 12, 3) := by decide +kernel
theorem dX7_done_4 : decode cX7_done 4 = .ok (.iload_n 2, 1) := by decide +kernel
theorem dX7_done_5 : decode cX7_done 5 = .ok (.ifCond .lt 8, 3) := by decide +kernel
theorem dX7_done_8 : decode cX7_done 8 = .ok (.iload_n 2, 1) := by decide +kernel
theorem dX7_done_9 : decode cX7_done 9 = .ok (.iconst 2, 1) := by decide +kernel
theorem dX7_done_10 : decode cX7_done 10 = .ok (.if_icmp .le 5, 3) := by decide +kernel
theorem dX7_done_13 : decode cX7_done 13 = .ok (.iconst (-1), 1) := by decide +kernel
theorem dX7_done_14 : decode cX7_done 14 = .ok (.ireturn, 1) := by decide +kernel
theorem dX7_done_15 : decode cX7_done 15 = .ok (.iload_n 1, 1) := by decide +kernel
theorem dX7_done_16 : decode cX7_done 16 = .ok (.aload_n 0, 1) := by decide +kernel
theorem dX7_done_17 : decode cX7_done 17 = .ok (.getfield 19, 3) := by decide +kernel
theorem dX7_done_20 : decode cX7_done 20 = .ok (.getfield 120, 3) := by decide +kernel
theorem dX7_done_23 : decode cX7_done 23 = .ok (.invokevirtual 139, 3) := by decide +kernel
theorem dX7_done_26 : decode cX7_done 26 = .ok (.if_icmp .ge 18, 3) := by decide +kernel
theorem dX7_done_29 : decode cX7_done 29 = .ok (.aload_n 0, 1) := by decide +kernel
theorem dX7_done_30 : decode cX7_done 30 = .ok (.getfield 19, 3) := by decide +kernel
theorem dX7_done_33 : decode cX7_done 33 = .ok (.getfield 120, 3) := by decide +kernel
theorem dX7_done_36 : decode cX7_done 36 = .ok (.iload_n 1, 1) := by decide +kernel
theorem dX7_done_37 : decode cX7_done 37 = .ok (.iload_n 2, 1) := by decide +kernel
theorem dX7_done_38 : decode cX7_done 38 = .ok (.invokevirtual 142, 3) := by decide +kernel
theorem dX7_done_41 : decode cX7_done 41 = .ok (.goto 5, 3) := by decide +kernel
theorem dX7_done_44 : decode cX7_done 44 = .ok (.bipush (-4), 2) := by decide +kernel
theorem dX7_done_46 : decode cX7_done 46 = .ok (.ireturn, 1) := by decide +kernel
set_option maxRecDepth 20000 in
theorem ggX7_settle_X0_follow : GoodIn wsX7_settle wsX0_follow := goodIn_r _ [11, 12, 13, 14, 15, 16, 17, 18, 19, 20, 21, 22, 23, 24, 25, 26, 27, 28, 29, 30, 31, 32, 33, 34, 35, 36, 37, 38, 39, 40, 41, 42, 43, 44, 45, 46, 47, 48, 49, 50, 51, 52, 53, 54, 55, 56, 57, 58, 59, 60, 61, 62, 63, 64, 65, 66, 67, 68, 69, 70, 71, 72, 73, 74, 75, 76, 77, 78, 79, 80, 81, 82, 83, 84, 85, 86, 87, 88, 89, 90, 10, 91, 92, 93, 94, 95, 96, 97, 98, 99, 100, 101, 102, 103, 104, 105, 106, 107, 108, 109, 110, 111, 112, 113, 114, 115, 116, 117, 118, 119, 120, 121, 122, 123, 124, 125, 126, 127, 128, 129, 130, 131, 132, 133, 134, 135, 136, 137, 138, 139, 140, 141, 142, 149, 150, 151, 152, 153, 154, 155, 156, 157, 158, 159, 160, 161, 162, 163, 164, 165, 166, 167, 168, 169, 170, 171, 172, 173, 174, 175, 176, 177, 178, 179, 180, 181] (by decide +kernel) (by decide +kernel)
set_option maxRecDepth 20000 in
theorem gX7_settle_X0_follow : GoodIn wsX7_settle (wsV RX7 145 RX0 yX0_follow wsX0_follow) := goodIn_app (goodIn_of _ (by decide +kernel)) ggX7_settle_X0_follow
theorem dX7_settle_0 : decode cX7_settle 0 = .ok (.iload_n 1, 1) := by decide +kernel
theorem dX7_settle_1 : decode cX7_settle 1 = .ok (.ifCond .lt 8, 3) := by decide +kernel
theorem dX7_settle_4 : decode cX7_settle 4 = .ok (.iload_n 1, 1) := by decide +kernel
theorem dX7_settle_5 : decode cX7_settle 5 = .ok (.iconst 3, 1) := by decide +kernel
theorem dX7_settle_6 : decode cX7_settle 6 = .ok (.if_icmp .le 5, 3) := by decide +kernel
theorem dX7_settle_9 : decode cX7_settle 9 = .ok (.iconst (-1), 1) := by decide +kernel
theorem dX7_settle_10 : decode cX7_settle 10 = .ok (.ireturn, 1) := by decide +kernel
theorem dX7_settle_11 : decode cX7_settle 11 = .ok (.aload_n 0, 1) := by decide +kernel
theorem dX7_settle_12 : decode cX7_settle 12 = .ok (.getfield 36, 3) := by decide +kernel
theorem dX7_settle_15 : decode cX7_settle 15 = .ok (.aload_n 0, 1) := by decide +kernel
theorem dX7_settle_16 : decode cX7_settle 16 = .ok (.getfield 19, 3) := by decide +kernel
theorem dX7_settle_19 : decode cX7_settle 19 = .ok (.invokevirtual 145, 3) := by decide +kernel
theorem dX7_settle_22 : decode cX7_settle 22 = .ok (.iload_n 1, 1) := by decide +kernel
theorem dX7_settle_23 : decode cX7_settle 23 = .ok (.tableswitch 49 0 2 #[25, 33, 41], 25) := by decide +kernel
theorem dX7_settle_48 : decode cX7_settle 48 = .ok (.aload_n 0, 1) := by decide +kernel
theorem dX7_settle_49 : decode cX7_settle 49 = .ok (.getfield 36, 3) := by decide +kernel
theorem dX7_settle_52 : decode cX7_settle 52 = .ok (.getfield 148, 3) := by decide +kernel
theorem dX7_settle_55 : decode cX7_settle 55 = .ok (.ireturn, 1) := by decide +kernel
theorem dX7_settle_56 : decode cX7_settle 56 = .ok (.aload_n 0, 1) := by decide +kernel
theorem dX7_settle_57 : decode cX7_settle 57 = .ok (.getfield 36, 3) := by decide +kernel
theorem dX7_settle_60 : decode cX7_settle 60 = .ok (.getfield 151, 3) := by decide +kernel
theorem dX7_settle_63 : decode cX7_settle 63 = .ok (.ireturn, 1) := by decide +kernel
theorem dX7_settle_64 : decode cX7_settle 64 = .ok (.aload_n 0, 1) := by decide +kernel
theorem dX7_settle_65 : decode cX7_settle 65 = .ok (.getfield 36, 3) := by decide +kernel
theorem dX7_settle_68 : decode cX7_settle 68 = .ok (.getfield 154, 3) := by decide +kernel
theorem dX7_settle_71 : decode cX7_settle 71 = .ok (.ireturn, 1) := by decide +kernel
theorem dX7_settle_72 : decode cX7_settle 72 = .ok (.aload_n 0, 1) := by decide +kernel
theorem dX7_settle_73 : decode cX7_settle 73 = .ok (.getfield 36, 3) := by decide +kernel
theorem dX7_settle_76 : decode cX7_settle 76 = .ok (.getfield 157, 3) := by decide +kernel
theorem dX7_settle_79 : decode cX7_settle 79 = .ok (.ireturn, 1) := by decide +kernel
set_option maxRecDepth 20000 in
theorem ggX7_best_X1_has : GoodIn wsX7_best wsX1_has := goodIn_r _ [9, 10, 59, 60, 61, 62, 63, 64] (by decide +kernel) (by decide +kernel)
set_option maxRecDepth 20000 in
theorem gX7_best_X1_has : GoodIn wsX7_best (wsV RX7 89 RX1 yX1_has wsX1_has) := goodIn_app (goodIn_of _ (by decide +kernel)) ggX7_best_X1_has
set_option maxRecDepth 20000 in
theorem ggX7_best_X3_start : GoodIn wsX7_best wsX3_start := goodIn_r _ [15, 16, 17, 18, 19, 20, 14, 21, 22, 23, 24, 25, 26, 27, 28, 29, 30, 31, 32, 33, 34, 35, 36, 37, 38, 39, 40, 41, 42, 43, 8, 44, 10, 45, 46, 47, 48, 49, 56, 57, 58, 59, 60, 61, 62, 63, 64, 65, 66, 67, 68, 69, 70, 71, 72, 73, 74, 75, 76, 77, 78, 79] (by decide +kernel) (by decide +kernel)
set_option maxRecDepth 20000 in
theorem gX7_best_X3_start : GoodIn wsX7_best (wsV RX7 160 RX3 yX3_start wsX3_start) := goodIn_app (goodIn_of _ (by decide +kernel)) ggX7_best_X3_start
theorem dX7_best_0 : decode cX7_best 0 = .ok (.iload_n 1, 1) := by decide +kernel
theorem dX7_best_1 : decode cX7_best 1 = .ok (.iconst (-1), 1) := by decide +kernel
theorem dX7_best_2 : decode cX7_best 2 = .ok (.if_icmp .eq 16, 3) := by decide +kernel
theorem dX7_best_5 : decode cX7_best 5 = .ok (.aload_n 0, 1) := by decide +kernel
theorem dX7_best_6 : decode cX7_best 6 = .ok (.getfield 19, 3) := by decide +kernel
theorem dX7_best_9 : decode cX7_best 9 = .ok (.iload_n 1, 1) := by decide +kernel
theorem dX7_best_10 : decode cX7_best 10 = .ok (.invokevirtual 89, 3) := by decide +kernel
theorem dX7_best_13 : decode cX7_best 13 = .ok (.ifCond .ne 5, 3) := by decide +kernel
theorem dX7_best_16 : decode cX7_best 16 = .ok (.iconst (-1), 1) := by decide +kernel
theorem dX7_best_17 : decode cX7_best 17 = .ok (.ireturn, 1) := by decide +kernel
theorem dX7_best_18 : decode cX7_best 18 = .ok (.aload_n 0, 1) := by decide +kernel
theorem dX7_best_19 : decode cX7_best 19 = .ok (.getfield 43, 3) := by decide +kernel
theorem dX7_best_22 : decode cX7_best 22 = .ok (.aload_n 0, 1) := by decide +kernel
theorem dX7_best_23 : decode cX7_best 23 = .ok (.getfield 19, 3) := by decide +kernel
theorem dX7_best_26 : decode cX7_best 26 = .ok (.invokevirtual 160, 3) := by decide +kernel
theorem dX7_best_29 : decode cX7_best 29 = .ok (.iload_n 1, 1) := by decide +kernel
theorem dX7_best_30 : decode cX7_best 30 = .ok (.iconst (-1), 1) := by decide +kernel
theorem dX7_best_31 : decode cX7_best 31 = .ok (.if_icmp .ne 13, 3) := by decide +kernel
theorem dX7_best_34 : decode cX7_best 34 = .ok (.aload_n 0, 1) := by decide +kernel
theorem dX7_best_35 : decode cX7_best 35 = .ok (.getfield 43, 3) := by decide +kernel
theorem dX7_best_38 : decode cX7_best 38 = .ok (.getfield 163, 3) := by decide +kernel
theorem dX7_best_41 : decode cX7_best 41 = .ok (.goto 16, 3) := by decide +kernel
theorem dX7_best_44 : decode cX7_best 44 = .ok (.aload_n 0, 1) := by decide +kernel
theorem dX7_best_45 : decode cX7_best 45 = .ok (.getfield 43, 3) := by decide +kernel
theorem dX7_best_48 : decode cX7_best 48 = .ok (.getfield 166, 3) := by decide +kernel
theorem dX7_best_51 : decode cX7_best 51 = .ok (.iload_n 1, 1) := by decide +kernel
theorem dX7_best_52 : decode cX7_best 52 = .ok (.iaload, 1) := by decide +kernel
theorem dX7_best_53 : decode cX7_best 53 = .ok (.sipush 1000, 3) := by decide +kernel
theorem dX7_best_56 : decode cX7_best 56 = .ok (.iadd, 1) := by decide +kernel
theorem dX7_best_57 : decode cX7_best 57 = .ok (.ireturn, 1) := by decide +kernel
set_option maxRecDepth 20000 in
theorem ggX7_ratio_X1_has : GoodIn wsX7_ratio wsX1_has := goodIn_r _ [9, 10, 28, 29, 30, 31, 32, 33] (by decide +kernel) (by decide +kernel)
set_option maxRecDepth 20000 in
theorem gX7_ratio_X1_has : GoodIn wsX7_ratio (wsV RX7 89 RX1 yX1_has wsX1_has) := goodIn_app (goodIn_of _ (by decide +kernel)) ggX7_ratio_X1_has
set_option maxRecDepth 20000 in
theorem ggX7_ratio_X4_turned : GoodIn wsX7_ratio wsX4_turned := goodIn_r _ [15, 16, 17, 34, 35, 36, 37, 38, 39, 40, 41, 42, 43, 44, 45, 46, 47, 48] (by decide +kernel) (by decide +kernel)
set_option maxRecDepth 20000 in
theorem gX7_ratio_X4_turned : GoodIn wsX7_ratio (wsV RX7 172 RX4 yX4_turned wsX4_turned) := goodIn_app (goodIn_of _ (by decide +kernel)) ggX7_ratio_X4_turned
set_option maxRecDepth 20000 in
theorem ggX7_ratio_X7_greatestCommon : GoodIn wsX7_ratio wsX7_greatestCommon := goodIn_r _ [21] (by decide +kernel) (by decide +kernel)
set_option maxRecDepth 20000 in
theorem gX7_ratio_X7_greatestCommon : GoodIn wsX7_ratio (va_wsS RX7 177 yX7_greatestCommon wsX7_greatestCommon) := goodIn_app (goodIn_of _ (by decide +kernel)) ggX7_ratio_X7_greatestCommon
theorem dX7_ratio_0 : decode cX7_ratio 0 = .ok (.aload_n 0, 1) := by decide +kernel
theorem dX7_ratio_1 : decode cX7_ratio 1 = .ok (.getfield 19, 3) := by decide +kernel
theorem dX7_ratio_4 : decode cX7_ratio 4 = .ok (.iload_n 1, 1) := by decide +kernel
theorem dX7_ratio_5 : decode cX7_ratio 5 = .ok (.invokevirtual 89, 3) := by decide +kernel
theorem dX7_ratio_8 : decode cX7_ratio 8 = .ok (.ifCond .eq 12, 3) := by decide +kernel
theorem dX7_ratio_11 : decode cX7_ratio 11 = .ok (.iload_n 2, 1) := by decide +kernel
theorem dX7_ratio_12 : decode cX7_ratio 12 = .ok (.ifCond .lt 8, 3) := by decide +kernel
theorem dX7_ratio_15 : decode cX7_ratio 15 = .ok (.iload_n 2, 1) := by decide +kernel
theorem dX7_ratio_16 : decode cX7_ratio 16 = .ok (.iconst 1, 1) := by decide +kernel
theorem dX7_ratio_17 : decode cX7_ratio 17 = .ok (.if_icmp .le 7, 3) := by decide +kernel
theorem dX7_ratio_20 : decode cX7_ratio 20 = .ok (.ldc2_w 170, 3) := by decide +kernel
theorem dX7_ratio_23 : decode cX7_ratio 23 = .ok (.lreturn, 1) := by decide +kernel
theorem dX7_ratio_24 : decode cX7_ratio 24 = .ok (.lconst 1, 1) := by decide +kernel
theorem dX7_ratio_25 : decode cX7_ratio 25 = .ok (.lstore_n 3, 1) := by decide +kernel
theorem dX7_ratio_26 : decode cX7_ratio 26 = .ok (.lconst 1, 1) := by decide +kernel
theorem dX7_ratio_27 : decode cX7_ratio 27 = .ok (.lstore 5, 2) := by decide +kernel
theorem dX7_ratio_29 : decode cX7_ratio 29 = .ok (.iconst 0, 1) := by decide +kernel
theorem dX7_ratio_30 : decode cX7_ratio 30 = .ok (.istore 7, 2) := by decide +kernel
theorem dX7_ratio_32 : decode cX7_ratio 32 = .ok (.iload 7, 2) := by decide +kernel
theorem dX7_ratio_34 : decode cX7_ratio 34 = .ok (.iload_n 1, 1) := by decide +kernel
theorem dX7_ratio_35 : decode cX7_ratio 35 = .ok (.if_icmp .gt 34, 3) := by decide +kernel
theorem dX7_ratio_38 : decode cX7_ratio 38 = .ok (.lload_n 3, 1) := by decide +kernel
theorem dX7_ratio_39 : decode cX7_ratio 39 = .ok (.aload_n 0, 1) := by decide +kernel
theorem dX7_ratio_40 : decode cX7_ratio 40 = .ok (.getfield 19, 3) := by decide +kernel
theorem dX7_ratio_43 : decode cX7_ratio 43 = .ok (.getfield 96, 3) := by decide +kernel
theorem dX7_ratio_46 : decode cX7_ratio 46 = .ok (.iload 7, 2) := by decide +kernel
theorem dX7_ratio_48 : decode cX7_ratio 48 = .ok (.aaload, 1) := by decide +kernel
theorem dX7_ratio_49 : decode cX7_ratio 49 = .ok (.invokevirtual 172, 3) := by decide +kernel
theorem dX7_ratio_52 : decode cX7_ratio 52 = .ok (.i2l, 1) := by decide +kernel
theorem dX7_ratio_53 : decode cX7_ratio 53 = .ok (.lmul, 1) := by decide +kernel
theorem dX7_ratio_54 : decode cX7_ratio 54 = .ok (.lstore_n 3, 1) := by decide +kernel
theorem dX7_ratio_55 : decode cX7_ratio 55 = .ok (.lload 5, 2) := by decide +kernel
theorem dX7_ratio_57 : decode cX7_ratio 57 = .ok (.ldc2_w 175, 3) := by decide +kernel
theorem dX7_ratio_60 : decode cX7_ratio 60 = .ok (.lmul, 1) := by decide +kernel
theorem dX7_ratio_61 : decode cX7_ratio 61 = .ok (.lstore 5, 2) := by decide +kernel
theorem dX7_ratio_63 : decode cX7_ratio 63 = .ok (.iinc 7 1, 3) := by decide +kernel
theorem dX7_ratio_66 : decode cX7_ratio 66 = .ok (.goto (-34), 3) := by decide +kernel
theorem dX7_ratio_69 : decode cX7_ratio 69 = .ok (.lload_n 3, 1) := by decide +kernel
theorem dX7_ratio_70 : decode cX7_ratio 70 = .ok (.lload 5, 2) := by decide +kernel
theorem dX7_ratio_72 : decode cX7_ratio 72 = .ok (.invokestatic 177, 3) := by decide +kernel
theorem dX7_ratio_75 : decode cX7_ratio 75 = .ok (.lstore 7, 2) := by decide +kernel
theorem dX7_ratio_77 : decode cX7_ratio 77 = .ok (.lload 7, 2) := by decide +kernel
theorem dX7_ratio_79 : decode cX7_ratio 79 = .ok (.lconst 1, 1) := by decide +kernel
theorem dX7_ratio_80 : decode cX7_ratio 80 = .ok (.lcmp, 1) := by decide +kernel
theorem dX7_ratio_81 : decode cX7_ratio 81 = .ok (.ifCond .ge 7, 3) := by decide +kernel
theorem dX7_ratio_84 : decode cX7_ratio 84 = .ok (.ldc2_w 170, 3) := by decide +kernel
theorem dX7_ratio_87 : decode cX7_ratio 87 = .ok (.lreturn, 1) := by decide +kernel
theorem dX7_ratio_88 : decode cX7_ratio 88 = .ok (.iload_n 2, 1) := by decide +kernel
theorem dX7_ratio_89 : decode cX7_ratio 89 = .ok (.ifCond .ne 7, 3) := by decide +kernel
theorem dX7_ratio_92 : decode cX7_ratio 92 = .ok (.lload_n 3, 1) := by decide +kernel
theorem dX7_ratio_93 : decode cX7_ratio 93 = .ok (.goto 5, 3) := by decide +kernel
theorem dX7_ratio_96 : decode cX7_ratio 96 = .ok (.lload 5, 2) := by decide +kernel
theorem dX7_ratio_98 : decode cX7_ratio 98 = .ok (.lload 7, 2) := by decide +kernel
theorem dX7_ratio_100 : decode cX7_ratio 100 = .ok (.ldiv, 1) := by decide +kernel
theorem dX7_ratio_101 : decode cX7_ratio 101 = .ok (.lreturn, 1) := by decide +kernel
set_option maxRecDepth 20000 in
theorem ggX7_graded_X7_isGrade : GoodIn wsX7_graded wsX7_isGrade := goodIn_r _ [8] (by decide +kernel) (by decide +kernel)
set_option maxRecDepth 20000 in
theorem gX7_graded_X7_isGrade : GoodIn wsX7_graded (va_wsS RX7 181 yX7_isGrade wsX7_isGrade) := goodIn_app (goodIn_of _ (by decide +kernel)) ggX7_graded_X7_isGrade
theorem dX7_graded_0 : decode cX7_graded 0 = .ok (.iload_n 1, 1) := by decide +kernel
theorem dX7_graded_1 : decode cX7_graded 1 = .ok (.invokestatic 181, 3) := by decide +kernel
theorem dX7_graded_4 : decode cX7_graded 4 = .ok (.ifCond .ne 5, 3) := by decide +kernel
theorem dX7_graded_7 : decode cX7_graded 7 = .ok (.iconst (-1), 1) := by decide +kernel
theorem dX7_graded_8 : decode cX7_graded 8 = .ok (.ireturn, 1) := by decide +kernel
theorem dX7_graded_9 : decode cX7_graded 9 = .ok (.iconst 1, 1) := by decide +kernel
theorem dX7_graded_10 : decode cX7_graded 10 = .ok (.istore_n 2, 1) := by decide +kernel
theorem dX7_graded_11 : decode cX7_graded 11 = .ok (.iload_n 2, 1) := by decide +kernel
theorem dX7_graded_12 : decode cX7_graded 12 = .ok (.aload_n 0, 1) := by decide +kernel
theorem dX7_graded_13 : decode cX7_graded 13 = .ok (.getfield 19, 3) := by decide +kernel
theorem dX7_graded_16 : decode cX7_graded 16 = .ok (.getfield 74, 3) := by decide +kernel
theorem dX7_graded_19 : decode cX7_graded 19 = .ok (.if_icmp .ge 42, 3) := by decide +kernel
theorem dX7_graded_22 : decode cX7_graded 22 = .ok (.aload_n 0, 1) := by decide +kernel
theorem dX7_graded_23 : decode cX7_graded 23 = .ok (.getfield 19, 3) := by decide +kernel
theorem dX7_graded_26 : decode cX7_graded 26 = .ok (.getfield 96, 3) := by decide +kernel
theorem dX7_graded_29 : decode cX7_graded 29 = .ok (.iload_n 2, 1) := by decide +kernel
theorem dX7_graded_30 : decode cX7_graded 30 = .ok (.aaload, 1) := by decide +kernel
theorem dX7_graded_31 : decode cX7_graded 31 = .ok (.getfield 184, 3) := by decide +kernel
theorem dX7_graded_34 : decode cX7_graded 34 = .ok (.aload_n 0, 1) := by decide +kernel
theorem dX7_graded_35 : decode cX7_graded 35 = .ok (.getfield 19, 3) := by decide +kernel
theorem dX7_graded_38 : decode cX7_graded 38 = .ok (.getfield 96, 3) := by decide +kernel
theorem dX7_graded_41 : decode cX7_graded 41 = .ok (.iload_n 2, 1) := by decide +kernel
theorem dX7_graded_42 : decode cX7_graded 42 = .ok (.iconst 1, 1) := by decide +kernel
theorem dX7_graded_43 : decode cX7_graded 43 = .ok (.isub, 1) := by decide +kernel
theorem dX7_graded_44 : decode cX7_graded 44 = .ok (.aaload, 1) := by decide +kernel
theorem dX7_graded_45 : decode cX7_graded 45 = .ok (.getfield 184, 3) := by decide +kernel
theorem dX7_graded_48 : decode cX7_graded 48 = .ok (.iload_n 1, 1) := by decide +kernel
theorem dX7_graded_49 : decode cX7_graded 49 = .ok (.iadd, 1) := by decide +kernel
theorem dX7_graded_50 : decode cX7_graded 50 = .ok (.if_icmp .ge 5, 3) := by decide +kernel
theorem dX7_graded_53 : decode cX7_graded 53 = .ok (.iconst 0, 1) := by decide +kernel
theorem dX7_graded_54 : decode cX7_graded 54 = .ok (.ireturn, 1) := by decide +kernel
theorem dX7_graded_55 : decode cX7_graded 55 = .ok (.iinc 2 1, 3) := by decide +kernel
theorem dX7_graded_58 : decode cX7_graded 58 = .ok (.goto (-47), 3) := by decide +kernel
theorem dX7_graded_61 : decode cX7_graded 61 = .ok (.iconst 1, 1) := by decide +kernel
theorem dX7_graded_62 : decode cX7_graded 62 = .ok (.ireturn, 1) := by decide +kernel
set_option maxRecDepth 20000 in
theorem ggX7_waits_X1_has : GoodIn wsX7_waits wsX1_has := goodIn_r _ [12, 13, 24, 25, 26, 27, 28, 29] (by decide +kernel) (by decide +kernel)
set_option maxRecDepth 20000 in
theorem gX7_waits_X1_has : GoodIn wsX7_waits (wsV RX7 89 RX1 yX1_has wsX1_has) := goodIn_app (goodIn_of _ (by decide +kernel)) ggX7_waits_X1_has
set_option maxRecDepth 20000 in
theorem ggX7_waits_X7_isGrade : GoodIn wsX7_waits wsX7_isGrade := goodIn_r _ [17] (by decide +kernel) (by decide +kernel)
set_option maxRecDepth 20000 in
theorem gX7_waits_X7_isGrade : GoodIn wsX7_waits (va_wsS RX7 181 yX7_isGrade wsX7_isGrade) := goodIn_app (goodIn_of _ (by decide +kernel)) ggX7_waits_X7_isGrade
theorem dX7_waits_0 : decode cX7_waits 0 = .ok (.aload_n 0, 1) := by decide +kernel
theorem dX7_waits_1 : decode cX7_waits 1 = .ok (.getfield 19, 3) := by decide +kernel
theorem dX7_waits_4 : decode cX7_waits 4 = .ok (.iload_n 1, 1) := by decide +kernel
theorem dX7_waits_5 : decode cX7_waits 5 = .ok (.invokevirtual 89, 3) := by decide +kernel
theorem dX7_waits_8 : decode cX7_waits 8 = .ok (.ifCond .eq 10, 3) := by decide +kernel
theorem dX7_waits_11 : decode cX7_waits 11 = .ok (.iload_n 2, 1) := by decide +kernel
theorem dX7_waits_12 : decode cX7_waits 12 = .ok (.invokestatic 181, 3) := by decide +kernel
theorem dX7_waits_15 : decode cX7_waits 15 = .ok (.ifCond .ne 5, 3) := by decide +kernel
theorem dX7_waits_18 : decode cX7_waits 18 = .ok (.iconst (-1), 1) := by decide +kernel
theorem dX7_waits_19 : decode cX7_waits 19 = .ok (.ireturn, 1) := by decide +kernel
theorem dX7_waits_20 : decode cX7_waits 20 = .ok (.aload_n 0, 1) := by decide +kernel
theorem dX7_waits_21 : decode cX7_waits 21 = .ok (.getfield 19, 3) := by decide +kernel
theorem dX7_waits_24 : decode cX7_waits 24 = .ok (.getfield 96, 3) := by decide +kernel
theorem dX7_waits_27 : decode cX7_waits 27 = .ok (.iconst 0, 1) := by decide +kernel
theorem dX7_waits_28 : decode cX7_waits 28 = .ok (.aaload, 1) := by decide +kernel
theorem dX7_waits_29 : decode cX7_waits 29 = .ok (.getfield 184, 3) := by decide +kernel
theorem dX7_waits_32 : decode cX7_waits 32 = .ok (.istore_n 3, 1) := by decide +kernel
theorem dX7_waits_33 : decode cX7_waits 33 = .ok (.iconst 1, 1) := by decide +kernel
theorem dX7_waits_34 : decode cX7_waits 34 = .ok (.istore 4, 2) := by decide +kernel
theorem dX7_waits_36 : decode cX7_waits 36 = .ok (.iload 4, 2) := by decide +kernel
theorem dX7_waits_38 : decode cX7_waits 38 = .ok (.iload_n 1, 1) := by decide +kernel
theorem dX7_waits_39 : decode cX7_waits 39 = .ok (.if_icmp .gt 29, 3) := by decide +kernel
theorem dX7_waits_42 : decode cX7_waits 42 = .ok (.aload_n 0, 1) := by decide +kernel
theorem dX7_waits_43 : decode cX7_waits 43 = .ok (.getfield 19, 3) := by decide +kernel
theorem dX7_waits_46 : decode cX7_waits 46 = .ok (.getfield 96, 3) := by decide +kernel
theorem dX7_waits_49 : decode cX7_waits 49 = .ok (.iload 4, 2) := by decide +kernel
theorem dX7_waits_51 : decode cX7_waits 51 = .ok (.aaload, 1) := by decide +kernel
theorem dX7_waits_52 : decode cX7_waits 52 = .ok (.getfield 184, 3) := by decide +kernel
theorem dX7_waits_55 : decode cX7_waits 55 = .ok (.iload_n 3, 1) := by decide +kernel
theorem dX7_waits_56 : decode cX7_waits 56 = .ok (.iload_n 2, 1) := by decide +kernel
theorem dX7_waits_57 : decode cX7_waits 57 = .ok (.iadd, 1) := by decide +kernel
theorem dX7_waits_58 : decode cX7_waits 58 = .ok (.invokestatic 187, 3) := by decide +kernel
theorem dX7_waits_61 : decode cX7_waits 61 = .ok (.istore_n 3, 1) := by decide +kernel
theorem dX7_waits_62 : decode cX7_waits 62 = .ok (.iinc 4 1, 3) := by decide +kernel
theorem dX7_waits_65 : decode cX7_waits 65 = .ok (.goto (-29), 3) := by decide +kernel
theorem dX7_waits_68 : decode cX7_waits 68 = .ok (.iload_n 3, 1) := by decide +kernel
theorem dX7_waits_69 : decode cX7_waits 69 = .ok (.ireturn, 1) := by decide +kernel
set_option maxRecDepth 20000 in
theorem ggX7_count_X1_goodStages : GoodIn wsX7_count wsX1_goodStages := goodIn_r _ [16, 17, 18, 19, 20, 21, 22, 23, 24, 25, 26, 89, 90, 91, 92, 93, 94, 107, 108, 109, 110, 111, 112, 113, 114, 115, 116, 117, 118, 119, 120, 121] (by decide +kernel) (by decide +kernel)
set_option maxRecDepth 20000 in
theorem gX7_count_X1_goodStages : GoodIn wsX7_count (wsV RX7 195 RX1 yX1_goodStages wsX1_goodStages) := goodIn_app (goodIn_of _ (by decide +kernel)) ggX7_count_X1_goodStages
set_option maxRecDepth 20000 in
theorem ggX7_count_X1_stuckStages : GoodIn wsX7_count wsX1_stuckStages := goodIn_r _ [30, 17, 18, 31, 89, 90, 91, 92, 93, 94, 107, 108, 109, 110, 111, 112, 113, 114, 115, 116, 117, 118, 119, 120, 121] (by decide +kernel) (by decide +kernel)
set_option maxRecDepth 20000 in
theorem gX7_count_X1_stuckStages : GoodIn wsX7_count (wsV RX7 114 RX1 yX1_stuckStages wsX1_stuckStages) := goodIn_app (goodIn_of _ (by decide +kernel)) ggX7_count_X1_stuckStages
set_option maxRecDepth 20000 in
theorem ggX7_count_X1_off : GoodIn wsX7_count wsX1_off := goodIn_r _ [35, 17, 18, 36, 37, 38, 22, 39, 24, 25, 40, 41, 42, 43, 89, 90, 91, 92, 93, 94, 107, 108, 109, 110, 111, 112, 113, 114, 115, 116, 117, 118, 119, 120, 121] (by decide +kernel) (by decide +kernel)
set_option maxRecDepth 20000 in
theorem gX7_count_X1_off : GoodIn wsX7_count (wsV RX7 198 RX1 yX1_off wsX1_off) := goodIn_app (goodIn_of _ (by decide +kernel)) ggX7_count_X1_off
set_option maxRecDepth 20000 in
theorem ggX7_count_X1_isQuiet : GoodIn wsX7_count wsX1_isQuiet := goodIn_r _ [47, 17, 18, 48, 49, 50, 22, 51, 52, 53, 54, 55, 56, 57, 58, 59, 60, 20, 21, 23, 24, 25, 26, 89, 90, 91, 92, 93, 94, 107, 108, 109, 110, 111, 112, 113, 114, 115, 116, 117, 118, 119, 120, 121] (by decide +kernel) (by decide +kernel)
set_option maxRecDepth 20000 in
theorem gX7_count_X1_isQuiet : GoodIn wsX7_count (wsV RX7 201 RX1 yX1_isQuiet wsX1_isQuiet) := goodIn_app (goodIn_of _ (by decide +kernel)) ggX7_count_X1_isQuiet
set_option maxRecDepth 20000 in
theorem ggX7_count_X5_unlikeTold : GoodIn wsX7_count wsX5_unlikeTold := goodIn_r _ [65, 66, 67, 68, 69, 70, 64, 71, 72, 73, 74, 42, 75, 76, 77, 78, 79, 80, 81, 82, 95, 96, 97, 98, 99] (by decide +kernel) (by decide +kernel)
set_option maxRecDepth 20000 in
theorem gX7_count_X5_unlikeTold : GoodIn wsX7_count (wsV RX7 205 RX5 yX5_unlikeTold wsX5_unlikeTold) := goodIn_app (goodIn_of _ (by decide +kernel)) ggX7_count_X5_unlikeTold
theorem dX7_count_0 : decode cX7_count 0 = .ok (.iload_n 1, 1) := by decide +kernel
theorem dX7_count_1 : decode cX7_count 1 = .ok (.tableswitch 176 0 11 #[63, 71, 79, 87, 98, 109, 117, 125, 133, 141, 149, 165], 63) := by decide +kernel
theorem dX7_count_64 : decode cX7_count 64 = .ok (.aload_n 0, 1) := by decide +kernel
theorem dX7_count_65 : decode cX7_count 65 = .ok (.getfield 19, 3) := by decide +kernel
theorem dX7_count_68 : decode cX7_count 68 = .ok (.getfield 74, 3) := by decide +kernel
theorem dX7_count_71 : decode cX7_count 71 = .ok (.ireturn, 1) := by decide +kernel
theorem dX7_count_72 : decode cX7_count 72 = .ok (.aload_n 0, 1) := by decide +kernel
theorem dX7_count_73 : decode cX7_count 73 = .ok (.getfield 19, 3) := by decide +kernel
theorem dX7_count_76 : decode cX7_count 76 = .ok (.getfield 80, 3) := by decide +kernel
theorem dX7_count_79 : decode cX7_count 79 = .ok (.ireturn, 1) := by decide +kernel
theorem dX7_count_80 : decode cX7_count 80 = .ok (.aload_n 0, 1) := by decide +kernel
theorem dX7_count_81 : decode cX7_count 81 = .ok (.getfield 19, 3) := by decide +kernel
theorem dX7_count_84 : decode cX7_count 84 = .ok (.getfield 117, 3) := by decide +kernel
theorem dX7_count_87 : decode cX7_count 87 = .ok (.ireturn, 1) := by decide +kernel
theorem dX7_count_88 : decode cX7_count 88 = .ok (.aload_n 0, 1) := by decide +kernel
theorem dX7_count_89 : decode cX7_count 89 = .ok (.getfield 19, 3) := by decide +kernel
theorem dX7_count_92 : decode cX7_count 92 = .ok (.getfield 120, 3) := by decide +kernel
theorem dX7_count_95 : decode cX7_count 95 = .ok (.getfield 124, 3) := by decide +kernel
theorem dX7_count_98 : decode cX7_count 98 = .ok (.ireturn, 1) := by decide +kernel
theorem dX7_count_99 : decode cX7_count 99 = .ok (.aload_n 0, 1) := by decide +kernel
theorem dX7_count_100 : decode cX7_count 100 = .ok (.getfield 19, 3) := by decide +kernel
theorem dX7_count_103 : decode cX7_count 103 = .ok (.getfield 120, 3) := by decide +kernel
theorem dX7_count_106 : decode cX7_count 106 = .ok (.getfield 192, 3) := by decide +kernel
theorem dX7_count_109 : decode cX7_count 109 = .ok (.ireturn, 1) := by decide +kernel
theorem dX7_count_110 : decode cX7_count 110 = .ok (.aload_n 0, 1) := by decide +kernel
theorem dX7_count_111 : decode cX7_count 111 = .ok (.getfield 19, 3) := by decide +kernel
theorem dX7_count_114 : decode cX7_count 114 = .ok (.invokevirtual 195, 3) := by decide +kernel
theorem dX7_count_117 : decode cX7_count 117 = .ok (.ireturn, 1) := by decide +kernel
theorem dX7_count_118 : decode cX7_count 118 = .ok (.aload_n 0, 1) := by decide +kernel
theorem dX7_count_119 : decode cX7_count 119 = .ok (.getfield 19, 3) := by decide +kernel
theorem dX7_count_122 : decode cX7_count 122 = .ok (.invokevirtual 114, 3) := by decide +kernel
theorem dX7_count_125 : decode cX7_count 125 = .ok (.ireturn, 1) := by decide +kernel
theorem dX7_count_126 : decode cX7_count 126 = .ok (.aload_n 0, 1) := by decide +kernel
theorem dX7_count_127 : decode cX7_count 127 = .ok (.getfield 19, 3) := by decide +kernel
theorem dX7_count_130 : decode cX7_count 130 = .ok (.invokevirtual 198, 3) := by decide +kernel
theorem dX7_count_133 : decode cX7_count 133 = .ok (.ireturn, 1) := by decide +kernel
theorem dX7_count_134 : decode cX7_count 134 = .ok (.aload_n 0, 1) := by decide +kernel
theorem dX7_count_135 : decode cX7_count 135 = .ok (.getfield 29, 3) := by decide +kernel
theorem dX7_count_138 : decode cX7_count 138 = .ok (.getfield 132, 3) := by decide +kernel
theorem dX7_count_141 : decode cX7_count 141 = .ok (.ireturn, 1) := by decide +kernel
theorem dX7_count_142 : decode cX7_count 142 = .ok (.aload_n 0, 1) := by decide +kernel
theorem dX7_count_143 : decode cX7_count 143 = .ok (.getfield 10, 3) := by decide +kernel
theorem dX7_count_146 : decode cX7_count 146 = .ok (.getfield 71, 3) := by decide +kernel
theorem dX7_count_149 : decode cX7_count 149 = .ok (.ireturn, 1) := by decide +kernel
theorem dX7_count_150 : decode cX7_count 150 = .ok (.aload_n 0, 1) := by decide +kernel
theorem dX7_count_151 : decode cX7_count 151 = .ok (.getfield 19, 3) := by decide +kernel
theorem dX7_count_154 : decode cX7_count 154 = .ok (.invokevirtual 201, 3) := by decide +kernel
theorem dX7_count_157 : decode cX7_count 157 = .ok (.ifCond .eq 7, 3) := by decide +kernel
theorem dX7_count_160 : decode cX7_count 160 = .ok (.iconst 1, 1) := by decide +kernel
theorem dX7_count_161 : decode cX7_count 161 = .ok (.goto 4, 3) := by decide +kernel
theorem dX7_count_164 : decode cX7_count 164 = .ok (.iconst 0, 1) := by decide +kernel
theorem dX7_count_165 : decode cX7_count 165 = .ok (.ireturn, 1) := by decide +kernel
theorem dX7_count_166 : decode cX7_count 166 = .ok (.aload_n 0, 1) := by decide +kernel
theorem dX7_count_167 : decode cX7_count 167 = .ok (.getfield 19, 3) := by decide +kernel
theorem dX7_count_170 : decode cX7_count 170 = .ok (.getfield 120, 3) := by decide +kernel
theorem dX7_count_173 : decode cX7_count 173 = .ok (.invokevirtual 205, 3) := by decide +kernel
theorem dX7_count_176 : decode cX7_count 176 = .ok (.ireturn, 1) := by decide +kernel
theorem dX7_count_177 : decode cX7_count 177 = .ok (.iconst (-1), 1) := by decide +kernel
theorem dX7_count_178 : decode cX7_count 178 = .ok (.ireturn, 1) := by decide +kernel
theorem dX7_isGrade_0 : decode cX7_isGrade 0 = .ok (.iload_n 0, 1) := by decide +kernel
theorem dX7_isGrade_1 : decode cX7_isGrade 1 = .ok (.ifCond .lt 13, 3) := by decide +kernel
theorem dX7_isGrade_4 : decode cX7_isGrade 4 = .ok (.iload_n 0, 1) := by decide +kernel
theorem dX7_isGrade_5 : decode cX7_isGrade 5 = .ok (.bipush 9, 2) := by decide +kernel
theorem dX7_isGrade_7 : decode cX7_isGrade 7 = .ok (.if_icmp .gt 7, 3) := by decide +kernel
theorem dX7_isGrade_10 : decode cX7_isGrade 10 = .ok (.iconst 1, 1) := by decide +kernel
theorem dX7_isGrade_11 : decode cX7_isGrade 11 = .ok (.goto 4, 3) := by decide +kernel
theorem dX7_isGrade_14 : decode cX7_isGrade 14 = .ok (.iconst 0, 1) := by decide +kernel
theorem dX7_isGrade_15 : decode cX7_isGrade 15 = .ok (.ireturn, 1) := by decide +kernel
theorem dX7_mayBeTold_0 : decode cX7_mayBeTold 0 = .ok (.iload_n 0, 1) := by decide +kernel
theorem dX7_mayBeTold_1 : decode cX7_mayBeTold 1 = .ok (.tableswitch 84 0 2 #[27, 47, 67], 27) := by decide +kernel
theorem dX7_mayBeTold_28 : decode cX7_mayBeTold 28 = .ok (.iload_n 1, 1) := by decide +kernel
theorem dX7_mayBeTold_29 : decode cX7_mayBeTold 29 = .ok (.sipush 950, 3) := by decide +kernel
theorem dX7_mayBeTold_32 : decode cX7_mayBeTold 32 = .ok (.if_icmp .lt 14, 3) := by decide +kernel
theorem dX7_mayBeTold_35 : decode cX7_mayBeTold 35 = .ok (.iload_n 1, 1) := by decide +kernel
theorem dX7_mayBeTold_36 : decode cX7_mayBeTold 36 = .ok (.sipush 1050, 3) := by decide +kernel
theorem dX7_mayBeTold_39 : decode cX7_mayBeTold 39 = .ok (.if_icmp .gt 7, 3) := by decide +kernel
theorem dX7_mayBeTold_42 : decode cX7_mayBeTold 42 = .ok (.iconst 1, 1) := by decide +kernel
theorem dX7_mayBeTold_43 : decode cX7_mayBeTold 43 = .ok (.goto 4, 3) := by decide +kernel
theorem dX7_mayBeTold_46 : decode cX7_mayBeTold 46 = .ok (.iconst 0, 1) := by decide +kernel
theorem dX7_mayBeTold_47 : decode cX7_mayBeTold 47 = .ok (.ireturn, 1) := by decide +kernel
theorem dX7_mayBeTold_48 : decode cX7_mayBeTold 48 = .ok (.iload_n 1, 1) := by decide +kernel
theorem dX7_mayBeTold_49 : decode cX7_mayBeTold 49 = .ok (.sipush 995, 3) := by decide +kernel
theorem dX7_mayBeTold_52 : decode cX7_mayBeTold 52 = .ok (.if_icmp .lt 14, 3) := by decide +kernel
theorem dX7_mayBeTold_55 : decode cX7_mayBeTold 55 = .ok (.iload_n 1, 1) := by decide +kernel
theorem dX7_mayBeTold_56 : decode cX7_mayBeTold 56 = .ok (.sipush 1005, 3) := by decide +kernel
theorem dX7_mayBeTold_59 : decode cX7_mayBeTold 59 = .ok (.if_icmp .gt 7, 3) := by decide +kernel
theorem dX7_mayBeTold_62 : decode cX7_mayBeTold 62 = .ok (.iconst 1, 1) := by decide +kernel
theorem dX7_mayBeTold_63 : decode cX7_mayBeTold 63 = .ok (.goto 4, 3) := by decide +kernel
theorem dX7_mayBeTold_66 : decode cX7_mayBeTold 66 = .ok (.iconst 0, 1) := by decide +kernel
theorem dX7_mayBeTold_67 : decode cX7_mayBeTold 67 = .ok (.ireturn, 1) := by decide +kernel
theorem dX7_mayBeTold_68 : decode cX7_mayBeTold 68 = .ok (.iload_n 1, 1) := by decide +kernel
theorem dX7_mayBeTold_69 : decode cX7_mayBeTold 69 = .ok (.iconst 1, 1) := by decide +kernel
theorem dX7_mayBeTold_70 : decode cX7_mayBeTold 70 = .ok (.if_icmp .lt 13, 3) := by decide +kernel
theorem dX7_mayBeTold_73 : decode cX7_mayBeTold 73 = .ok (.iload_n 1, 1) := by decide +kernel
theorem dX7_mayBeTold_74 : decode cX7_mayBeTold 74 = .ok (.bipush 9, 2) := by decide +kernel
theorem dX7_mayBeTold_76 : decode cX7_mayBeTold 76 = .ok (.if_icmp .gt 7, 3) := by decide +kernel
theorem dX7_mayBeTold_79 : decode cX7_mayBeTold 79 = .ok (.iconst 1, 1) := by decide +kernel
theorem dX7_mayBeTold_80 : decode cX7_mayBeTold 80 = .ok (.goto 4, 3) := by decide +kernel
theorem dX7_mayBeTold_83 : decode cX7_mayBeTold 83 = .ok (.iconst 0, 1) := by decide +kernel
theorem dX7_mayBeTold_84 : decode cX7_mayBeTold 84 = .ok (.ireturn, 1) := by decide +kernel
theorem dX7_mayBeTold_85 : decode cX7_mayBeTold 85 = .ok (.iconst 0, 1) := by decide +kernel
theorem dX7_mayBeTold_86 : decode cX7_mayBeTold 86 = .ok (.ireturn, 1) := by decide +kernel
theorem dX7_greatestCommon_0 : decode cX7_greatestCommon 0 = .ok (.iconst 0, 1) := by decide +kernel
theorem dX7_greatestCommon_1 : decode cX7_greatestCommon 1 = .ok (.istore 4, 2) := by decide +kernel
theorem dX7_greatestCommon_3 : decode cX7_greatestCommon 3 = .ok (.iload 4, 2) := by decide +kernel
theorem dX7_greatestCommon_5 : decode cX7_greatestCommon 5 = .ok (.bipush 100, 2) := by decide +kernel
theorem dX7_greatestCommon_7 : decode cX7_greatestCommon 7 = .ok (.if_icmp .ge 25, 3) := by decide +kernel
theorem dX7_greatestCommon_10 : decode cX7_greatestCommon 10 = .ok (.lload_n 2, 1) := by decide +kernel
theorem dX7_greatestCommon_11 : decode cX7_greatestCommon 11 = .ok (.lconst 0, 1) := by decide +kernel
theorem dX7_greatestCommon_12 : decode cX7_greatestCommon 12 = .ok (.lcmp, 1) := by decide +kernel
theorem dX7_greatestCommon_13 : decode cX7_greatestCommon 13 = .ok (.ifCond .eq 19, 3) := by decide +kernel
theorem dX7_greatestCommon_16 : decode cX7_greatestCommon 16 = .ok (.lload_n 0, 1) := by decide +kernel
theorem dX7_greatestCommon_17 : decode cX7_greatestCommon 17 = .ok (.lload_n 2, 1) := by decide +kernel
theorem dX7_greatestCommon_18 : decode cX7_greatestCommon 18 = .ok (.lrem, 1) := by decide +kernel
theorem dX7_greatestCommon_19 : decode cX7_greatestCommon 19 = .ok (.lstore 5, 2) := by decide +kernel
theorem dX7_greatestCommon_21 : decode cX7_greatestCommon 21 = .ok (.lload_n 2, 1) := by decide +kernel
theorem dX7_greatestCommon_22 : decode cX7_greatestCommon 22 = .ok (.lstore_n 0, 1) := by decide +kernel
theorem dX7_greatestCommon_23 : decode cX7_greatestCommon 23 = .ok (.lload 5, 2) := by decide +kernel
theorem dX7_greatestCommon_25 : decode cX7_greatestCommon 25 = .ok (.lstore_n 2, 1) := by decide +kernel
theorem dX7_greatestCommon_26 : decode cX7_greatestCommon 26 = .ok (.iinc 4 1, 3) := by decide +kernel
theorem dX7_greatestCommon_29 : decode cX7_greatestCommon 29 = .ok (.goto (-26), 3) := by decide +kernel
theorem dX7_greatestCommon_32 : decode cX7_greatestCommon 32 = .ok (.lload_n 0, 1) := by decide +kernel
theorem dX7_greatestCommon_33 : decode cX7_greatestCommon 33 = .ok (.lreturn, 1) := by decide +kernel
theorem dX7_outOf_0 : decode cX7_outOf 0 = .ok (.iload_n 0, 1) := by decide +kernel
theorem dX7_outOf_1 : decode cX7_outOf 1 = .ok (.iload_n 1, 1) := by decide +kernel
theorem dX7_outOf_2 : decode cX7_outOf 2 = .ok (.imul, 1) := by decide +kernel
theorem dX7_outOf_3 : decode cX7_outOf 3 = .ok (.sipush 1000, 3) := by decide +kernel
theorem dX7_outOf_6 : decode cX7_outOf 6 = .ok (.idiv, 1) := by decide +kernel
theorem dX7_outOf_7 : decode cX7_outOf 7 = .ok (.ireturn, 1) := by decide +kernel
theorem dX7_lostBetween_0 : decode cX7_lostBetween 0 = .ok (.iload_n 0, 1) := by decide +kernel
theorem dX7_lostBetween_1 : decode cX7_lostBetween 1 = .ok (.iload_n 1, 1) := by decide +kernel
theorem dX7_lostBetween_2 : decode cX7_lostBetween 2 = .ok (.imul, 1) := by decide +kernel
theorem dX7_lostBetween_3 : decode cX7_lostBetween 3 = .ok (.bipush 10, 2) := by decide +kernel
theorem dX7_lostBetween_5 : decode cX7_lostBetween 5 = .ok (.idiv, 1) := by decide +kernel
theorem dX7_lostBetween_6 : decode cX7_lostBetween 6 = .ok (.ireturn, 1) := by decide +kernel
end
section
set_option maxRecDepth 20000 in
theorem ggX8_init_X8_stands : GoodIn wsX8_init wsX8_stands := goodIn_r _ [26, 7, 27, 28, 29, 30, 31, 32, 33, 34, 35, 36, 37, 38, 39, 40, 41, 42, 43, 44, 45, 46, 47, 48, 49, 50] (by decide +kernel) (by decide +kernel)
set_option maxRecDepth 20000 in
theorem gX8_init_X8_stands : GoodIn wsX8_init (wsV RX8 55 RX8 yX8_stands wsX8_stands) := goodIn_app (goodIn_of _ (by decide +kernel)) ggX8_init_X8_stands
theorem dX8_init_0 : decode cX8_init 0 = .ok (.aload_n 0, 1) := by decide +kernel
theorem dX8_init_1 : decode cX8_init 1 = .ok (.invokespecial 1, 3) := by decide +kernel
theorem dX8_init_4 : decode cX8_init 4 = .ok (.aload_n 0, 1) := by decide +kernel
theorem dX8_init_5 : decode cX8_init 5 = .ok (.sipush 200, 3) := by decide +kernel
theorem dX8_init_8 : decode cX8_init 8 = .ok (.newarray .byte, 2) := by decide +kernel
theorem dX8_init_10 : decode cX8_init 10 = .ok (.putfield 7, 3) := by decide +kernel
theorem dX8_init_13 : decode cX8_init 13 = .ok (.aload_n 0, 1) := by decide +kernel
theorem dX8_init_14 : decode cX8_init 14 = .ok (.bipush 114, 2) := by decide +kernel
theorem dX8_init_16 : decode cX8_init 16 = .ok (.newarray .int, 2) := by decide +kernel
theorem dX8_init_18 : decode cX8_init 18 = .ok (.putfield 13, 3) := by decide +kernel
theorem dX8_init_21 : decode cX8_init 21 = .ok (.aload_n 0, 1) := by decide +kernel
theorem dX8_init_22 : decode cX8_init 22 = .ok (.bipush 114, 2) := by decide +kernel
theorem dX8_init_24 : decode cX8_init 24 = .ok (.newarray .int, 2) := by decide +kernel
theorem dX8_init_26 : decode cX8_init 26 = .ok (.putfield 17, 3) := by decide +kernel
theorem dX8_init_29 : decode cX8_init 29 = .ok (.aload_n 0, 1) := by decide +kernel
theorem dX8_init_30 : decode cX8_init 30 = .ok (.sipush 684, 3) := by decide +kernel
theorem dX8_init_33 : decode cX8_init 33 = .ok (.newarray .int, 2) := by decide +kernel
theorem dX8_init_35 : decode cX8_init 35 = .ok (.putfield 20, 3) := by decide +kernel
theorem dX8_init_38 : decode cX8_init 38 = .ok (.aload_n 0, 1) := by decide +kernel
theorem dX8_init_39 : decode cX8_init 39 = .ok (.iconst 4, 1) := by decide +kernel
theorem dX8_init_40 : decode cX8_init 40 = .ok (.newarray .int, 2) := by decide +kernel
theorem dX8_init_42 : decode cX8_init 42 = .ok (.putfield 23, 3) := by decide +kernel
theorem dX8_init_45 : decode cX8_init 45 = .ok (.aload_n 0, 1) := by decide +kernel
theorem dX8_init_46 : decode cX8_init 46 = .ok (.iconst 4, 1) := by decide +kernel
theorem dX8_init_47 : decode cX8_init 47 = .ok (.newarray .int, 2) := by decide +kernel
theorem dX8_init_49 : decode cX8_init 49 = .ok (.putfield 26, 3) := by decide +kernel
theorem dX8_init_52 : decode cX8_init 52 = .ok (.aload_n 0, 1) := by decide +kernel
theorem dX8_init_53 : decode cX8_init 53 = .ok (.iconst 4, 1) := by decide +kernel
theorem dX8_init_54 : decode cX8_init 54 = .ok (.newarray .int, 2) := by decide +kernel
theorem dX8_init_56 : decode cX8_init 56 = .ok (.putfield 29, 3) := by decide +kernel
theorem dX8_init_59 : decode cX8_init 59 = .ok (.aload_n 0, 1) := by decide +kernel
theorem dX8_init_60 : decode cX8_init 60 = .ok (.iconst 4, 1) := by decide +kernel
theorem dX8_init_61 : decode cX8_init 61 = .ok (.newarray .int, 2) := by decide +kernel
theorem dX8_init_63 : decode cX8_init 63 = .ok (.putfield 32, 3) := by decide +kernel
theorem dX8_init_66 : decode cX8_init 66 = .ok (.aload_n 0, 1) := by decide +kernel
theorem dX8_init_67 : decode cX8_init 67 = .ok (.iconst 4, 1) := by decide +kernel
theorem dX8_init_68 : decode cX8_init 68 = .ok (.newarray .boolean, 2) := by decide +kernel
theorem dX8_init_70 : decode cX8_init 70 = .ok (.putfield 35, 3) := by decide +kernel
theorem dX8_init_73 : decode cX8_init 73 = .ok (.aload_n 0, 1) := by decide +kernel
theorem dX8_init_74 : decode cX8_init 74 = .ok (.iconst 4, 1) := by decide +kernel
theorem dX8_init_75 : decode cX8_init 75 = .ok (.newarray .boolean, 2) := by decide +kernel
theorem dX8_init_77 : decode cX8_init 77 = .ok (.putfield 39, 3) := by decide +kernel
theorem dX8_init_80 : decode cX8_init 80 = .ok (.aload_n 0, 1) := by decide +kernel
theorem dX8_init_81 : decode cX8_init 81 = .ok (.sipush 301, 3) := by decide +kernel
theorem dX8_init_84 : decode cX8_init 84 = .ok (.newarray .long, 2) := by decide +kernel
theorem dX8_init_86 : decode cX8_init 86 = .ok (.putfield 42, 3) := by decide +kernel
theorem dX8_init_89 : decode cX8_init 89 = .ok (.aload_n 0, 1) := by decide +kernel
theorem dX8_init_90 : decode cX8_init 90 = .ok (.sipush 301, 3) := by decide +kernel
theorem dX8_init_93 : decode cX8_init 93 = .ok (.newarray .int, 2) := by decide +kernel
theorem dX8_init_95 : decode cX8_init 95 = .ok (.putfield 46, 3) := by decide +kernel
theorem dX8_init_98 : decode cX8_init 98 = .ok (.aload_n 0, 1) := by decide +kernel
theorem dX8_init_99 : decode cX8_init 99 = .ok (.bipush 114, 2) := by decide +kernel
theorem dX8_init_101 : decode cX8_init 101 = .ok (.newarray .int, 2) := by decide +kernel
theorem dX8_init_103 : decode cX8_init 103 = .ok (.putfield 49, 3) := by decide +kernel
theorem dX8_init_106 : decode cX8_init 106 = .ok (.aload_n 0, 1) := by decide +kernel
theorem dX8_init_107 : decode cX8_init 107 = .ok (.iconst 4, 1) := by decide +kernel
theorem dX8_init_108 : decode cX8_init 108 = .ok (.newarray .int, 2) := by decide +kernel
theorem dX8_init_110 : decode cX8_init 110 = .ok (.putfield 52, 3) := by decide +kernel
theorem dX8_init_113 : decode cX8_init 113 = .ok (.aload_n 0, 1) := by decide +kernel
theorem dX8_init_114 : decode cX8_init 114 = .ok (.getfield 13, 3) := by decide +kernel
theorem dX8_init_117 : decode cX8_init 117 = .ok (.iconst 0, 1) := by decide +kernel
theorem dX8_init_118 : decode cX8_init 118 = .ok (.iconst 4, 1) := by decide +kernel
theorem dX8_init_119 : decode cX8_init 119 = .ok (.iastore, 1) := by decide +kernel
theorem dX8_init_120 : decode cX8_init 120 = .ok (.aload_n 0, 1) := by decide +kernel
theorem dX8_init_121 : decode cX8_init 121 = .ok (.getfield 13, 3) := by decide +kernel
theorem dX8_init_124 : decode cX8_init 124 = .ok (.iconst 1, 1) := by decide +kernel
theorem dX8_init_125 : decode cX8_init 125 = .ok (.sipush 1010, 3) := by decide +kernel
theorem dX8_init_128 : decode cX8_init 128 = .ok (.iastore, 1) := by decide +kernel
theorem dX8_init_129 : decode cX8_init 129 = .ok (.aload_n 0, 1) := by decide +kernel
theorem dX8_init_130 : decode cX8_init 130 = .ok (.iconst 0, 1) := by decide +kernel
theorem dX8_init_131 : decode cX8_init 131 = .ok (.bipush 10, 2) := by decide +kernel
theorem dX8_init_133 : decode cX8_init 133 = .ok (.sipush 1000, 3) := by decide +kernel
theorem dX8_init_136 : decode cX8_init 136 = .ok (.bipush 12, 2) := by decide +kernel
theorem dX8_init_138 : decode cX8_init 138 = .ok (.iconst 2, 1) := by decide +kernel
theorem dX8_init_139 : decode cX8_init 139 = .ok (.iconst 0, 1) := by decide +kernel
theorem dX8_init_140 : decode cX8_init 140 = .ok (.bipush 20, 2) := by decide +kernel
theorem dX8_init_142 : decode cX8_init 142 = .ok (.bipush 8, 2) := by decide +kernel
theorem dX8_init_144 : decode cX8_init 144 = .ok (.invokevirtual 55, 3) := by decide +kernel
theorem dX8_init_147 : decode cX8_init 147 = .ok (.aload_n 0, 1) := by decide +kernel
theorem dX8_init_148 : decode cX8_init 148 = .ok (.iconst 1, 1) := by decide +kernel
theorem dX8_init_149 : decode cX8_init 149 = .ok (.bipush 15, 2) := by decide +kernel
theorem dX8_init_151 : decode cX8_init 151 = .ok (.sipush 1000, 3) := by decide +kernel
theorem dX8_init_154 : decode cX8_init 154 = .ok (.bipush 16, 2) := by decide +kernel
theorem dX8_init_156 : decode cX8_init 156 = .ok (.iconst 3, 1) := by decide +kernel
theorem dX8_init_157 : decode cX8_init 157 = .ok (.iconst 2, 1) := by decide +kernel
theorem dX8_init_158 : decode cX8_init 158 = .ok (.bipush 15, 2) := by decide +kernel
theorem dX8_init_160 : decode cX8_init 160 = .ok (.bipush 9, 2) := by decide +kernel
theorem dX8_init_162 : decode cX8_init 162 = .ok (.invokevirtual 55, 3) := by decide +kernel
theorem dX8_init_165 : decode cX8_init 165 = .ok (.aload_n 0, 1) := by decide +kernel
theorem dX8_init_166 : decode cX8_init 166 = .ok (.iconst 2, 1) := by decide +kernel
theorem dX8_init_167 : decode cX8_init 167 = .ok (.bipush 20, 2) := by decide +kernel
theorem dX8_init_169 : decode cX8_init 169 = .ok (.sipush 990, 3) := by decide +kernel
theorem dX8_init_172 : decode cX8_init 172 = .ok (.bipush 25, 2) := by decide +kernel
theorem dX8_init_174 : decode cX8_init 174 = .ok (.iconst 5, 1) := by decide +kernel
theorem dX8_init_175 : decode cX8_init 175 = .ok (.iconst 1, 1) := by decide +kernel
theorem dX8_init_176 : decode cX8_init 176 = .ok (.bipush (-12), 2) := by decide +kernel
theorem dX8_init_178 : decode cX8_init 178 = .ok (.bipush 6, 2) := by decide +kernel
theorem dX8_init_180 : decode cX8_init 180 = .ok (.invokevirtual 55, 3) := by decide +kernel
theorem dX8_init_183 : decode cX8_init 183 = .ok (.aload_n 0, 1) := by decide +kernel
theorem dX8_init_184 : decode cX8_init 184 = .ok (.iconst 3, 1) := by decide +kernel
theorem dX8_init_185 : decode cX8_init 185 = .ok (.bipush 12, 2) := by decide +kernel
theorem dX8_init_187 : decode cX8_init 187 = .ok (.sipush 985, 3) := by decide +kernel
theorem dX8_init_190 : decode cX8_init 190 = .ok (.bipush 20, 2) := by decide +kernel
theorem dX8_init_192 : decode cX8_init 192 = .ok (.bipush 6, 2) := by decide +kernel
theorem dX8_init_194 : decode cX8_init 194 = .ok (.iconst 0, 1) := by decide +kernel
theorem dX8_init_195 : decode cX8_init 195 = .ok (.bipush 18, 2) := by decide +kernel
theorem dX8_init_197 : decode cX8_init 197 = .ok (.iconst 4, 1) := by decide +kernel
theorem dX8_init_198 : decode cX8_init 198 = .ok (.invokevirtual 55, 3) := by decide +kernel
theorem dX8_init_201 : decode cX8_init 201 = .ok (.return_, 1) := by decide +kernel
theorem dX8_stands_0 : decode cX8_stands 0 = .ok (.bipush 6, 2) := by decide +kernel
theorem dX8_stands_2 : decode cX8_stands 2 = .ok (.bipush 12, 2) := by decide +kernel
theorem dX8_stands_4 : decode cX8_stands 4 = .ok (.iload_n 1, 1) := by decide +kernel
theorem dX8_stands_5 : decode cX8_stands 5 = .ok (.imul, 1) := by decide +kernel
theorem dX8_stands_6 : decode cX8_stands 6 = .ok (.iadd, 1) := by decide +kernel
theorem dX8_stands_7 : decode cX8_stands 7 = .ok (.istore 9, 2) := by decide +kernel
theorem dX8_stands_9 : decode cX8_stands 9 = .ok (.aload_n 0, 1) := by decide +kernel
theorem dX8_stands_10 : decode cX8_stands 10 = .ok (.getfield 13, 3) := by decide +kernel
theorem dX8_stands_13 : decode cX8_stands 13 = .ok (.iload 9, 2) := by decide +kernel
theorem dX8_stands_15 : decode cX8_stands 15 = .ok (.iload_n 2, 1) := by decide +kernel
theorem dX8_stands_16 : decode cX8_stands 16 = .ok (.iastore, 1) := by decide +kernel
theorem dX8_stands_17 : decode cX8_stands 17 = .ok (.aload_n 0, 1) := by decide +kernel
theorem dX8_stands_18 : decode cX8_stands 18 = .ok (.getfield 13, 3) := by decide +kernel
theorem dX8_stands_21 : decode cX8_stands 21 = .ok (.iload 9, 2) := by decide +kernel
theorem dX8_stands_23 : decode cX8_stands 23 = .ok (.iconst 1, 1) := by decide +kernel
theorem dX8_stands_24 : decode cX8_stands 24 = .ok (.iadd, 1) := by decide +kernel
theorem dX8_stands_25 : decode cX8_stands 25 = .ok (.iload_n 3, 1) := by decide +kernel
theorem dX8_stands_26 : decode cX8_stands 26 = .ok (.iastore, 1) := by decide +kernel
theorem dX8_stands_27 : decode cX8_stands 27 = .ok (.aload_n 0, 1) := by decide +kernel
theorem dX8_stands_28 : decode cX8_stands 28 = .ok (.getfield 13, 3) := by decide +kernel
theorem dX8_stands_31 : decode cX8_stands 31 = .ok (.iload 9, 2) := by decide +kernel
theorem dX8_stands_33 : decode cX8_stands 33 = .ok (.iconst 2, 1) := by decide +kernel
theorem dX8_stands_34 : decode cX8_stands 34 = .ok (.iadd, 1) := by decide +kernel
theorem dX8_stands_35 : decode cX8_stands 35 = .ok (.iload 4, 2) := by decide +kernel
theorem dX8_stands_37 : decode cX8_stands 37 = .ok (.iastore, 1) := by decide +kernel
theorem dX8_stands_38 : decode cX8_stands 38 = .ok (.aload_n 0, 1) := by decide +kernel
theorem dX8_stands_39 : decode cX8_stands 39 = .ok (.getfield 13, 3) := by decide +kernel
theorem dX8_stands_42 : decode cX8_stands 42 = .ok (.iload 9, 2) := by decide +kernel
theorem dX8_stands_44 : decode cX8_stands 44 = .ok (.iconst 3, 1) := by decide +kernel
theorem dX8_stands_45 : decode cX8_stands 45 = .ok (.iadd, 1) := by decide +kernel
theorem dX8_stands_46 : decode cX8_stands 46 = .ok (.iload 5, 2) := by decide +kernel
theorem dX8_stands_48 : decode cX8_stands 48 = .ok (.iastore, 1) := by decide +kernel
theorem dX8_stands_49 : decode cX8_stands 49 = .ok (.aload_n 0, 1) := by decide +kernel
theorem dX8_stands_50 : decode cX8_stands 50 = .ok (.getfield 13, 3) := by decide +kernel
theorem dX8_stands_53 : decode cX8_stands 53 = .ok (.iload 9, 2) := by decide +kernel
theorem dX8_stands_55 : decode cX8_stands 55 = .ok (.iconst 4, 1) := by decide +kernel
theorem dX8_stands_56 : decode cX8_stands 56 = .ok (.iadd, 1) := by decide +kernel
theorem dX8_stands_57 : decode cX8_stands 57 = .ok (.iload 6, 2) := by decide +kernel
theorem dX8_stands_59 : decode cX8_stands 59 = .ok (.iastore, 1) := by decide +kernel
theorem dX8_stands_60 : decode cX8_stands 60 = .ok (.aload_n 0, 1) := by decide +kernel
theorem dX8_stands_61 : decode cX8_stands 61 = .ok (.getfield 13, 3) := by decide +kernel
theorem dX8_stands_64 : decode cX8_stands 64 = .ok (.iload 9, 2) := by decide +kernel
theorem dX8_stands_66 : decode cX8_stands 66 = .ok (.iconst 5, 1) := by decide +kernel
theorem dX8_stands_67 : decode cX8_stands 67 = .ok (.iadd, 1) := by decide +kernel
theorem dX8_stands_68 : decode cX8_stands 68 = .ok (.iload 7, 2) := by decide +kernel
theorem dX8_stands_70 : decode cX8_stands 70 = .ok (.iastore, 1) := by decide +kernel
theorem dX8_stands_71 : decode cX8_stands 71 = .ok (.aload_n 0, 1) := by decide +kernel
theorem dX8_stands_72 : decode cX8_stands 72 = .ok (.getfield 13, 3) := by decide +kernel
theorem dX8_stands_75 : decode cX8_stands 75 = .ok (.iload 9, 2) := by decide +kernel
theorem dX8_stands_77 : decode cX8_stands 77 = .ok (.bipush 6, 2) := by decide +kernel
theorem dX8_stands_79 : decode cX8_stands 79 = .ok (.iadd, 1) := by decide +kernel
theorem dX8_stands_80 : decode cX8_stands 80 = .ok (.iload 8, 2) := by decide +kernel
theorem dX8_stands_82 : decode cX8_stands 82 = .ok (.iastore, 1) := by decide +kernel
theorem dX8_stands_83 : decode cX8_stands 83 = .ok (.return_, 1) := by decide +kernel
theorem dX8_in_0 : decode cX8_in 0 = .ok (.iload_n 0, 1) := by decide +kernel
theorem dX8_in_1 : decode cX8_in 1 = .ok (.iload_n 1, 1) := by decide +kernel
theorem dX8_in_2 : decode cX8_in 2 = .ok (.if_icmp .lt 12, 3) := by decide +kernel
theorem dX8_in_5 : decode cX8_in 5 = .ok (.iload_n 0, 1) := by decide +kernel
theorem dX8_in_6 : decode cX8_in 6 = .ok (.iload_n 2, 1) := by decide +kernel
theorem dX8_in_7 : decode cX8_in 7 = .ok (.if_icmp .gt 7, 3) := by decide +kernel
theorem dX8_in_10 : decode cX8_in 10 = .ok (.iconst 1, 1) := by decide +kernel
theorem dX8_in_11 : decode cX8_in 11 = .ok (.goto 4, 3) := by decide +kernel
theorem dX8_in_14 : decode cX8_in 14 = .ok (.iconst 0, 1) := by decide +kernel
theorem dX8_in_15 : decode cX8_in 15 = .ok (.ireturn, 1) := by decide +kernel
set_option maxRecDepth 20000 in
theorem ggX8_write_X8_in : GoodIn wsX8_write wsX8_in := goodIn_r _ [7] (by decide +kernel) (by decide +kernel)
set_option maxRecDepth 20000 in
theorem gX8_write_X8_in : GoodIn wsX8_write (va_wsS RX8 63 yX8_in wsX8_in) := goodIn_app (goodIn_of _ (by decide +kernel)) ggX8_write_X8_in
theorem dX8_write_0 : decode cX8_write 0 = .ok (.aload_n 0, 1) := by decide +kernel
theorem dX8_write_1 : decode cX8_write 1 = .ok (.iconst 0, 1) := by decide +kernel
theorem dX8_write_2 : decode cX8_write 2 = .ok (.putfield 59, 3) := by decide +kernel
theorem dX8_write_5 : decode cX8_write 5 = .ok (.iload_n 1, 1) := by decide +kernel
theorem dX8_write_6 : decode cX8_write 6 = .ok (.bipush 32, 2) := by decide +kernel
theorem dX8_write_8 : decode cX8_write 8 = .ok (.bipush 126, 2) := by decide +kernel
theorem dX8_write_10 : decode cX8_write 10 = .ok (.invokestatic 63, 3) := by decide +kernel
theorem dX8_write_13 : decode cX8_write 13 = .ok (.ifCond .ne 5, 3) := by decide +kernel
theorem dX8_write_16 : decode cX8_write 16 = .ok (.iconst (-1), 1) := by decide +kernel
theorem dX8_write_17 : decode cX8_write 17 = .ok (.ireturn, 1) := by decide +kernel
theorem dX8_write_18 : decode cX8_write 18 = .ok (.aload_n 0, 1) := by decide +kernel
theorem dX8_write_19 : decode cX8_write 19 = .ok (.getfield 67, 3) := by decide +kernel
theorem dX8_write_22 : decode cX8_write 22 = .ok (.sipush 200, 3) := by decide +kernel
theorem dX8_write_25 : decode cX8_write 25 = .ok (.if_icmp .ne 6, 3) := by decide +kernel
theorem dX8_write_28 : decode cX8_write 28 = .ok (.bipush (-3), 2) := by decide +kernel
theorem dX8_write_30 : decode cX8_write 30 = .ok (.ireturn, 1) := by decide +kernel
theorem dX8_write_31 : decode cX8_write 31 = .ok (.aload_n 0, 1) := by decide +kernel
theorem dX8_write_32 : decode cX8_write 32 = .ok (.getfield 7, 3) := by decide +kernel
theorem dX8_write_35 : decode cX8_write 35 = .ok (.aload_n 0, 1) := by decide +kernel
theorem dX8_write_36 : decode cX8_write 36 = .ok (.getfield 67, 3) := by decide +kernel
theorem dX8_write_39 : decode cX8_write 39 = .ok (.iload_n 1, 1) := by decide +kernel
theorem dX8_write_40 : decode cX8_write 40 = .ok (.i2b, 1) := by decide +kernel
theorem dX8_write_41 : decode cX8_write 41 = .ok (.bastore, 1) := by decide +kernel
theorem dX8_write_42 : decode cX8_write 42 = .ok (.aload_n 0, 1) := by decide +kernel
theorem dX8_write_43 : decode cX8_write 43 = .ok (.dup, 1) := by decide +kernel
theorem dX8_write_44 : decode cX8_write 44 = .ok (.getfield 67, 3) := by decide +kernel
theorem dX8_write_47 : decode cX8_write 47 = .ok (.iconst 1, 1) := by decide +kernel
theorem dX8_write_48 : decode cX8_write 48 = .ok (.iadd, 1) := by decide +kernel
theorem dX8_write_49 : decode cX8_write 49 = .ok (.putfield 67, 3) := by decide +kernel
theorem dX8_write_52 : decode cX8_write 52 = .ok (.aload_n 0, 1) := by decide +kernel
theorem dX8_write_53 : decode cX8_write 53 = .ok (.getfield 67, 3) := by decide +kernel
theorem dX8_write_56 : decode cX8_write 56 = .ok (.ireturn, 1) := by decide +kernel
theorem dX8_wipe_0 : decode cX8_wipe 0 = .ok (.aload_n 0, 1) := by decide +kernel
theorem dX8_wipe_1 : decode cX8_wipe 1 = .ok (.iconst 0, 1) := by decide +kernel
theorem dX8_wipe_2 : decode cX8_wipe 2 = .ok (.putfield 59, 3) := by decide +kernel
theorem dX8_wipe_5 : decode cX8_wipe 5 = .ok (.aload_n 0, 1) := by decide +kernel
theorem dX8_wipe_6 : decode cX8_wipe 6 = .ok (.getfield 67, 3) := by decide +kernel
theorem dX8_wipe_9 : decode cX8_wipe 9 = .ok (.istore_n 1, 1) := by decide +kernel
theorem dX8_wipe_10 : decode cX8_wipe 10 = .ok (.aload_n 0, 1) := by decide +kernel
theorem dX8_wipe_11 : decode cX8_wipe 11 = .ok (.iconst 0, 1) := by decide +kernel
theorem dX8_wipe_12 : decode cX8_wipe 12 = .ok (.putfield 67, 3) := by decide +kernel
theorem dX8_wipe_15 : decode cX8_wipe 15 = .ok (.iload_n 1, 1) := by decide +kernel
theorem dX8_wipe_16 : decode cX8_wipe 16 = .ok (.ireturn, 1) := by decide +kernel
theorem dX8_isHere_0 : decode cX8_isHere 0 = .ok (.aload_n 0, 1) := by decide +kernel
theorem dX8_isHere_1 : decode cX8_isHere 1 = .ok (.getfield 70, 3) := by decide +kernel
theorem dX8_isHere_4 : decode cX8_isHere 4 = .ok (.aload_n 0, 1) := by decide +kernel
theorem dX8_isHere_5 : decode cX8_isHere 5 = .ok (.getfield 67, 3) := by decide +kernel
theorem dX8_isHere_8 : decode cX8_isHere 8 = .ok (.if_icmp .ge 20, 3) := by decide +kernel
theorem dX8_isHere_11 : decode cX8_isHere 11 = .ok (.aload_n 0, 1) := by decide +kernel
theorem dX8_isHere_12 : decode cX8_isHere 12 = .ok (.getfield 7, 3) := by decide +kernel
theorem dX8_isHere_15 : decode cX8_isHere 15 = .ok (.aload_n 0, 1) := by decide +kernel
theorem dX8_isHere_16 : decode cX8_isHere 16 = .ok (.getfield 70, 3) := by decide +kernel
theorem dX8_isHere_19 : decode cX8_isHere 19 = .ok (.baload, 1) := by decide +kernel
theorem dX8_isHere_20 : decode cX8_isHere 20 = .ok (.iload_n 1, 1) := by decide +kernel
theorem dX8_isHere_21 : decode cX8_isHere 21 = .ok (.if_icmp .ne 7, 3) := by decide +kernel
theorem dX8_isHere_24 : decode cX8_isHere 24 = .ok (.iconst 1, 1) := by decide +kernel
theorem dX8_isHere_25 : decode cX8_isHere 25 = .ok (.goto 4, 3) := by decide +kernel
theorem dX8_isHere_28 : decode cX8_isHere 28 = .ok (.iconst 0, 1) := by decide +kernel
theorem dX8_isHere_29 : decode cX8_isHere 29 = .ok (.ireturn, 1) := by decide +kernel
set_option maxRecDepth 20000 in
theorem ggX8_takes_X8_isHere : GoodIn wsX8_takes wsX8_isHere := goodIn_r _ [7, 1, 8, 9, 10, 11, 12, 13, 14, 15, 16, 17, 18, 19, 20, 21, 22, 23, 24, 25, 26, 27, 28, 29, 30, 31, 32, 33] (by decide +kernel) (by decide +kernel)
set_option maxRecDepth 20000 in
theorem gX8_takes_X8_isHere : GoodIn wsX8_takes (wsV RX8 73 RX8 yX8_isHere wsX8_isHere) := goodIn_app (goodIn_of _ (by decide +kernel)) ggX8_takes_X8_isHere
theorem dX8_takes_0 : decode cX8_takes 0 = .ok (.aload_n 0, 1) := by decide +kernel
theorem dX8_takes_1 : decode cX8_takes 1 = .ok (.iload_n 1, 1) := by decide +kernel
theorem dX8_takes_2 : decode cX8_takes 2 = .ok (.invokevirtual 73, 3) := by decide +kernel
theorem dX8_takes_5 : decode cX8_takes 5 = .ok (.ifCond .eq 16, 3) := by decide +kernel
theorem dX8_takes_8 : decode cX8_takes 8 = .ok (.aload_n 0, 1) := by decide +kernel
theorem dX8_takes_9 : decode cX8_takes 9 = .ok (.dup, 1) := by decide +kernel
theorem dX8_takes_10 : decode cX8_takes 10 = .ok (.getfield 70, 3) := by decide +kernel
theorem dX8_takes_13 : decode cX8_takes 13 = .ok (.iconst 1, 1) := by decide +kernel
theorem dX8_takes_14 : decode cX8_takes 14 = .ok (.iadd, 1) := by decide +kernel
theorem dX8_takes_15 : decode cX8_takes 15 = .ok (.putfield 70, 3) := by decide +kernel
theorem dX8_takes_18 : decode cX8_takes 18 = .ok (.goto 8, 3) := by decide +kernel
theorem dX8_takes_21 : decode cX8_takes 21 = .ok (.aload_n 0, 1) := by decide +kernel
theorem dX8_takes_22 : decode cX8_takes 22 = .ok (.iconst 0, 1) := by decide +kernel
theorem dX8_takes_23 : decode cX8_takes 23 = .ok (.putfield 77, 3) := by decide +kernel
theorem dX8_takes_26 : decode cX8_takes 26 = .ok (.return_, 1) := by decide +kernel
set_option maxRecDepth 20000 in
theorem ggX8_takesNumber_X8_isHere : GoodIn wsX8_takesNumber wsX8_isHere := goodIn_r _ [9, 1, 2, 3, 13, 14, 15, 16, 17, 18, 19, 20, 21, 22, 23, 24, 25, 26, 27, 28, 29, 30, 31, 32, 33, 34, 35, 36] (by decide +kernel) (by decide +kernel)
set_option maxRecDepth 20000 in
theorem gX8_takesNumber_X8_isHere : GoodIn wsX8_takesNumber (wsV RX8 73 RX8 yX8_isHere wsX8_isHere) := goodIn_app (goodIn_of _ (by decide +kernel)) ggX8_takesNumber_X8_isHere
set_option maxRecDepth 20000 in
theorem ggX8_takesNumber_X8_in : GoodIn wsX8_takesNumber wsX8_in := goodIn_r _ [12] (by decide +kernel) (by decide +kernel)
set_option maxRecDepth 20000 in
theorem gX8_takesNumber_X8_in : GoodIn wsX8_takesNumber (va_wsS RX8 63 yX8_in wsX8_in) := goodIn_app (goodIn_of _ (by decide +kernel)) ggX8_takesNumber_X8_in
theorem dX8_takesNumber_0 : decode cX8_takesNumber 0 = .ok (.iload_n 1, 1) := by decide +kernel
theorem dX8_takesNumber_1 : decode cX8_takesNumber 1 = .ok (.ifCond .ge 16, 3) := by decide +kernel
theorem dX8_takesNumber_4 : decode cX8_takesNumber 4 = .ok (.aload_n 0, 1) := by decide +kernel
theorem dX8_takesNumber_5 : decode cX8_takesNumber 5 = .ok (.bipush 45, 2) := by decide +kernel
theorem dX8_takesNumber_7 : decode cX8_takesNumber 7 = .ok (.invokevirtual 73, 3) := by decide +kernel
theorem dX8_takesNumber_10 : decode cX8_takesNumber 10 = .ok (.ifCond .eq 7, 3) := by decide +kernel
theorem dX8_takesNumber_13 : decode cX8_takesNumber 13 = .ok (.iconst 1, 1) := by decide +kernel
theorem dX8_takesNumber_14 : decode cX8_takesNumber 14 = .ok (.goto 4, 3) := by decide +kernel
theorem dX8_takesNumber_17 : decode cX8_takesNumber 17 = .ok (.iconst 0, 1) := by decide +kernel
theorem dX8_takesNumber_18 : decode cX8_takesNumber 18 = .ok (.istore_n 3, 1) := by decide +kernel
theorem dX8_takesNumber_19 : decode cX8_takesNumber 19 = .ok (.aload_n 0, 1) := by decide +kernel
theorem dX8_takesNumber_20 : decode cX8_takesNumber 20 = .ok (.dup, 1) := by decide +kernel
theorem dX8_takesNumber_21 : decode cX8_takesNumber 21 = .ok (.getfield 70, 3) := by decide +kernel
theorem dX8_takesNumber_24 : decode cX8_takesNumber 24 = .ok (.iload_n 3, 1) := by decide +kernel
theorem dX8_takesNumber_25 : decode cX8_takesNumber 25 = .ok (.ifCond .eq 7, 3) := by decide +kernel
theorem dX8_takesNumber_28 : decode cX8_takesNumber 28 = .ok (.iconst 1, 1) := by decide +kernel
theorem dX8_takesNumber_29 : decode cX8_takesNumber 29 = .ok (.goto 4, 3) := by decide +kernel
theorem dX8_takesNumber_32 : decode cX8_takesNumber 32 = .ok (.iconst 0, 1) := by decide +kernel
theorem dX8_takesNumber_33 : decode cX8_takesNumber 33 = .ok (.iadd, 1) := by decide +kernel
theorem dX8_takesNumber_34 : decode cX8_takesNumber 34 = .ok (.putfield 70, 3) := by decide +kernel
theorem dX8_takesNumber_37 : decode cX8_takesNumber 37 = .ok (.iconst 0, 1) := by decide +kernel
theorem dX8_takesNumber_38 : decode cX8_takesNumber 38 = .ok (.istore 4, 2) := by decide +kernel
theorem dX8_takesNumber_40 : decode cX8_takesNumber 40 = .ok (.iconst 0, 1) := by decide +kernel
theorem dX8_takesNumber_41 : decode cX8_takesNumber 41 = .ok (.istore 5, 2) := by decide +kernel
theorem dX8_takesNumber_43 : decode cX8_takesNumber 43 = .ok (.aload_n 0, 1) := by decide +kernel
theorem dX8_takesNumber_44 : decode cX8_takesNumber 44 = .ok (.getfield 70, 3) := by decide +kernel
theorem dX8_takesNumber_47 : decode cX8_takesNumber 47 = .ok (.aload_n 0, 1) := by decide +kernel
theorem dX8_takesNumber_48 : decode cX8_takesNumber 48 = .ok (.getfield 67, 3) := by decide +kernel
theorem dX8_takesNumber_51 : decode cX8_takesNumber 51 = .ok (.if_icmp .ge 64, 3) := by decide +kernel
theorem dX8_takesNumber_54 : decode cX8_takesNumber 54 = .ok (.aload_n 0, 1) := by decide +kernel
theorem dX8_takesNumber_55 : decode cX8_takesNumber 55 = .ok (.getfield 7, 3) := by decide +kernel
theorem dX8_takesNumber_58 : decode cX8_takesNumber 58 = .ok (.aload_n 0, 1) := by decide +kernel
theorem dX8_takesNumber_59 : decode cX8_takesNumber 59 = .ok (.getfield 70, 3) := by decide +kernel
theorem dX8_takesNumber_62 : decode cX8_takesNumber 62 = .ok (.baload, 1) := by decide +kernel
theorem dX8_takesNumber_63 : decode cX8_takesNumber 63 = .ok (.bipush 48, 2) := by decide +kernel
theorem dX8_takesNumber_65 : decode cX8_takesNumber 65 = .ok (.bipush 57, 2) := by decide +kernel
theorem dX8_takesNumber_67 : decode cX8_takesNumber 67 = .ok (.invokestatic 63, 3) := by decide +kernel
theorem dX8_takesNumber_70 : decode cX8_takesNumber 70 = .ok (.ifCond .eq 45, 3) := by decide +kernel
theorem dX8_takesNumber_73 : decode cX8_takesNumber 73 = .ok (.iload 5, 2) := by decide +kernel
theorem dX8_takesNumber_75 : decode cX8_takesNumber 75 = .ok (.iconst 4, 1) := by decide +kernel
theorem dX8_takesNumber_76 : decode cX8_takesNumber 76 = .ok (.if_icmp .ge 39, 3) := by decide +kernel
theorem dX8_takesNumber_79 : decode cX8_takesNumber 79 = .ok (.bipush 10, 2) := by decide +kernel
theorem dX8_takesNumber_81 : decode cX8_takesNumber 81 = .ok (.iload 4, 2) := by decide +kernel
theorem dX8_takesNumber_83 : decode cX8_takesNumber 83 = .ok (.imul, 1) := by decide +kernel
theorem dX8_takesNumber_84 : decode cX8_takesNumber 84 = .ok (.aload_n 0, 1) := by decide +kernel
theorem dX8_takesNumber_85 : decode cX8_takesNumber 85 = .ok (.getfield 7, 3) := by decide +kernel
theorem dX8_takesNumber_88 : decode cX8_takesNumber 88 = .ok (.aload_n 0, 1) := by decide +kernel
theorem dX8_takesNumber_89 : decode cX8_takesNumber 89 = .ok (.getfield 70, 3) := by decide +kernel
theorem dX8_takesNumber_92 : decode cX8_takesNumber 92 = .ok (.baload, 1) := by decide +kernel
theorem dX8_takesNumber_93 : decode cX8_takesNumber 93 = .ok (.iadd, 1) := by decide +kernel
theorem dX8_takesNumber_94 : decode cX8_takesNumber 94 = .ok (.bipush 48, 2) := by decide +kernel
theorem dX8_takesNumber_96 : decode cX8_takesNumber 96 = .ok (.isub, 1) := by decide +kernel
theorem dX8_takesNumber_97 : decode cX8_takesNumber 97 = .ok (.istore 4, 2) := by decide +kernel
theorem dX8_takesNumber_99 : decode cX8_takesNumber 99 = .ok (.iinc 5 1, 3) := by decide +kernel
theorem dX8_takesNumber_102 : decode cX8_takesNumber 102 = .ok (.aload_n 0, 1) := by decide +kernel
theorem dX8_takesNumber_103 : decode cX8_takesNumber 103 = .ok (.dup, 1) := by decide +kernel
theorem dX8_takesNumber_104 : decode cX8_takesNumber 104 = .ok (.getfield 70, 3) := by decide +kernel
theorem dX8_takesNumber_107 : decode cX8_takesNumber 107 = .ok (.iconst 1, 1) := by decide +kernel
theorem dX8_takesNumber_108 : decode cX8_takesNumber 108 = .ok (.iadd, 1) := by decide +kernel
theorem dX8_takesNumber_109 : decode cX8_takesNumber 109 = .ok (.putfield 70, 3) := by decide +kernel
theorem dX8_takesNumber_112 : decode cX8_takesNumber 112 = .ok (.goto (-69), 3) := by decide +kernel
theorem dX8_takesNumber_115 : decode cX8_takesNumber 115 = .ok (.aload_n 0, 1) := by decide +kernel
theorem dX8_takesNumber_116 : decode cX8_takesNumber 116 = .ok (.aload_n 0, 1) := by decide +kernel
theorem dX8_takesNumber_117 : decode cX8_takesNumber 117 = .ok (.getfield 77, 3) := by decide +kernel
theorem dX8_takesNumber_120 : decode cX8_takesNumber 120 = .ok (.ifCond .eq 21, 3) := by decide +kernel
theorem dX8_takesNumber_123 : decode cX8_takesNumber 123 = .ok (.iload 5, 2) := by decide +kernel
theorem dX8_takesNumber_125 : decode cX8_takesNumber 125 = .ok (.ifCond .le 16, 3) := by decide +kernel
theorem dX8_takesNumber_128 : decode cX8_takesNumber 128 = .ok (.iload_n 3, 1) := by decide +kernel
theorem dX8_takesNumber_129 : decode cX8_takesNumber 129 = .ok (.ifCond .eq 8, 3) := by decide +kernel
theorem dX8_takesNumber_132 : decode cX8_takesNumber 132 = .ok (.iload 4, 2) := by decide +kernel
theorem dX8_takesNumber_134 : decode cX8_takesNumber 134 = .ok (.ifCond .eq 7, 3) := by decide +kernel
theorem dX8_takesNumber_137 : decode cX8_takesNumber 137 = .ok (.iconst 1, 1) := by decide +kernel
theorem dX8_takesNumber_138 : decode cX8_takesNumber 138 = .ok (.goto 4, 3) := by decide +kernel
theorem dX8_takesNumber_141 : decode cX8_takesNumber 141 = .ok (.iconst 0, 1) := by decide +kernel
theorem dX8_takesNumber_142 : decode cX8_takesNumber 142 = .ok (.putfield 77, 3) := by decide +kernel
theorem dX8_takesNumber_145 : decode cX8_takesNumber 145 = .ok (.iload_n 3, 1) := by decide +kernel
theorem dX8_takesNumber_146 : decode cX8_takesNumber 146 = .ok (.ifCond .eq 9, 3) := by decide +kernel
theorem dX8_takesNumber_149 : decode cX8_takesNumber 149 = .ok (.iload 4, 2) := by decide +kernel
theorem dX8_takesNumber_151 : decode cX8_takesNumber 151 = .ok (.ineg, 1) := by decide +kernel
theorem dX8_takesNumber_152 : decode cX8_takesNumber 152 = .ok (.goto 5, 3) := by decide +kernel
theorem dX8_takesNumber_155 : decode cX8_takesNumber 155 = .ok (.iload 4, 2) := by decide +kernel
theorem dX8_takesNumber_157 : decode cX8_takesNumber 157 = .ok (.istore 4, 2) := by decide +kernel
theorem dX8_takesNumber_159 : decode cX8_takesNumber 159 = .ok (.aload_n 0, 1) := by decide +kernel
theorem dX8_takesNumber_160 : decode cX8_takesNumber 160 = .ok (.aload_n 0, 1) := by decide +kernel
theorem dX8_takesNumber_161 : decode cX8_takesNumber 161 = .ok (.getfield 77, 3) := by decide +kernel
theorem dX8_takesNumber_164 : decode cX8_takesNumber 164 = .ok (.ifCond .eq 17, 3) := by decide +kernel
theorem dX8_takesNumber_167 : decode cX8_takesNumber 167 = .ok (.iload 4, 2) := by decide +kernel
theorem dX8_takesNumber_169 : decode cX8_takesNumber 169 = .ok (.iload_n 1, 1) := by decide +kernel
theorem dX8_takesNumber_170 : decode cX8_takesNumber 170 = .ok (.iload_n 2, 1) := by decide +kernel
theorem dX8_takesNumber_171 : decode cX8_takesNumber 171 = .ok (.invokestatic 63, 3) := by decide +kernel
theorem dX8_takesNumber_174 : decode cX8_takesNumber 174 = .ok (.ifCond .eq 7, 3) := by decide +kernel
theorem dX8_takesNumber_177 : decode cX8_takesNumber 177 = .ok (.iconst 1, 1) := by decide +kernel
theorem dX8_takesNumber_178 : decode cX8_takesNumber 178 = .ok (.goto 4, 3) := by decide +kernel
theorem dX8_takesNumber_181 : decode cX8_takesNumber 181 = .ok (.iconst 0, 1) := by decide +kernel
theorem dX8_takesNumber_182 : decode cX8_takesNumber 182 = .ok (.putfield 77, 3) := by decide +kernel
theorem dX8_takesNumber_185 : decode cX8_takesNumber 185 = .ok (.iload 4, 2) := by decide +kernel
theorem dX8_takesNumber_187 : decode cX8_takesNumber 187 = .ok (.ireturn, 1) := by decide +kernel
theorem dX8_lowOf_0 : decode cX8_lowOf 0 = .ok (.iload_n 0, 1) := by decide +kernel
theorem dX8_lowOf_1 : decode cX8_lowOf 1 = .ok (.ifCond .eq 13, 3) := by decide +kernel
theorem dX8_lowOf_4 : decode cX8_lowOf 4 = .ok (.iload_n 0, 1) := by decide +kernel
theorem dX8_lowOf_5 : decode cX8_lowOf 5 = .ok (.iconst 2, 1) := by decide +kernel
theorem dX8_lowOf_6 : decode cX8_lowOf 6 = .ok (.if_icmp .eq 8, 3) := by decide +kernel
theorem dX8_lowOf_9 : decode cX8_lowOf 9 = .ok (.iload_n 0, 1) := by decide +kernel
theorem dX8_lowOf_10 : decode cX8_lowOf 10 = .ok (.iconst 3, 1) := by decide +kernel
theorem dX8_lowOf_11 : decode cX8_lowOf 11 = .ok (.if_icmp .ne 7, 3) := by decide +kernel
theorem dX8_lowOf_14 : decode cX8_lowOf 14 = .ok (.iconst 1, 1) := by decide +kernel
theorem dX8_lowOf_15 : decode cX8_lowOf 15 = .ok (.goto 25, 3) := by decide +kernel
theorem dX8_lowOf_18 : decode cX8_lowOf 18 = .ok (.iload_n 0, 1) := by decide +kernel
theorem dX8_lowOf_19 : decode cX8_lowOf 19 = .ok (.iconst 1, 1) := by decide +kernel
theorem dX8_lowOf_20 : decode cX8_lowOf 20 = .ok (.if_icmp .ne 9, 3) := by decide +kernel
theorem dX8_lowOf_23 : decode cX8_lowOf 23 = .ok (.sipush 800, 3) := by decide +kernel
theorem dX8_lowOf_26 : decode cX8_lowOf 26 = .ok (.goto 14, 3) := by decide +kernel
theorem dX8_lowOf_29 : decode cX8_lowOf 29 = .ok (.iload_n 0, 1) := by decide +kernel
theorem dX8_lowOf_30 : decode cX8_lowOf 30 = .ok (.iconst 5, 1) := by decide +kernel
theorem dX8_lowOf_31 : decode cX8_lowOf 31 = .ok (.if_icmp .ne 8, 3) := by decide +kernel
theorem dX8_lowOf_34 : decode cX8_lowOf 34 = .ok (.bipush (-50), 2) := by decide +kernel
theorem dX8_lowOf_36 : decode cX8_lowOf 36 = .ok (.goto 4, 3) := by decide +kernel
theorem dX8_lowOf_39 : decode cX8_lowOf 39 = .ok (.iconst 0, 1) := by decide +kernel
theorem dX8_lowOf_40 : decode cX8_lowOf 40 = .ok (.ireturn, 1) := by decide +kernel
theorem dX8_highOf_0 : decode cX8_highOf 0 = .ok (.iload_n 0, 1) := by decide +kernel
theorem dX8_highOf_1 : decode cX8_highOf 1 = .ok (.tableswitch 51 0 5 #[39, 42, 46, 51, 49, 39], 39) := by decide +kernel
theorem dX8_highOf_40 : decode cX8_highOf 40 = .ok (.bipush 50, 2) := by decide +kernel
theorem dX8_highOf_42 : decode cX8_highOf 42 = .ok (.ireturn, 1) := by decide +kernel
theorem dX8_highOf_43 : decode cX8_highOf 43 = .ok (.sipush 1200, 3) := by decide +kernel
theorem dX8_highOf_46 : decode cX8_highOf 46 = .ok (.ireturn, 1) := by decide +kernel
theorem dX8_highOf_47 : decode cX8_highOf 47 = .ok (.bipush 99, 2) := by decide +kernel
theorem dX8_highOf_49 : decode cX8_highOf 49 = .ok (.ireturn, 1) := by decide +kernel
theorem dX8_highOf_50 : decode cX8_highOf 50 = .ok (.iconst 2, 1) := by decide +kernel
theorem dX8_highOf_51 : decode cX8_highOf 51 = .ok (.ireturn, 1) := by decide +kernel
theorem dX8_highOf_52 : decode cX8_highOf 52 = .ok (.bipush 9, 2) := by decide +kernel
theorem dX8_highOf_54 : decode cX8_highOf 54 = .ok (.ireturn, 1) := by decide +kernel
set_option maxRecDepth 20000 in
theorem ggX8_takesStage_X8_takes : GoodIn wsX8_takesStage wsX8_takes := goodIn_r _ [7, 8, 1, 9, 10, 11, 6, 12, 13, 14, 28, 29, 30, 31, 32, 33, 34, 35, 36, 37, 38, 39, 40, 41, 42, 43, 44, 45, 46, 47, 48, 49, 50, 51] (by decide +kernel) (by decide +kernel)
set_option maxRecDepth 20000 in
theorem gX8_takesStage_X8_takes : GoodIn wsX8_takesStage (wsV RX8 81 RX8 yX8_takes wsX8_takes) := goodIn_app (goodIn_of _ (by decide +kernel)) ggX8_takesStage_X8_takes
set_option maxRecDepth 20000 in
theorem ggX8_takesStage_X8_lowOf : GoodIn wsX8_takesStage wsX8_lowOf := goodIn_r _ [17] (by decide +kernel) (by decide +kernel)
set_option maxRecDepth 20000 in
theorem gX8_takesStage_X8_lowOf : GoodIn wsX8_takesStage (va_wsS RX8 85 yX8_lowOf wsX8_lowOf) := goodIn_app (goodIn_of _ (by decide +kernel)) ggX8_takesStage_X8_lowOf
set_option maxRecDepth 20000 in
theorem ggX8_takesStage_X8_highOf : GoodIn wsX8_takesStage wsX8_highOf := goodIn_r _ [20] (by decide +kernel) (by decide +kernel)
set_option maxRecDepth 20000 in
theorem gX8_takesStage_X8_highOf : GoodIn wsX8_takesStage (va_wsS RX8 89 yX8_highOf wsX8_highOf) := goodIn_app (goodIn_of _ (by decide +kernel)) ggX8_takesStage_X8_highOf
set_option maxRecDepth 20000 in
theorem ggX8_takesStage_X8_takesNumber : GoodIn wsX8_takesStage wsX8_takesNumber := goodIn_r _ [24, 8, 13, 14, 1, 9, 10, 11, 6, 12, 25, 26, 27, 28, 29, 30, 31, 32, 33, 34, 35, 36, 37, 38, 39, 40, 41, 42, 43, 44, 45, 46, 47, 48, 49, 50, 51] (by decide +kernel) (by decide +kernel)
set_option maxRecDepth 20000 in
theorem gX8_takesStage_X8_takesNumber : GoodIn wsX8_takesStage (wsV RX8 92 RX8 yX8_takesNumber wsX8_takesNumber) := goodIn_app (goodIn_of _ (by decide +kernel)) ggX8_takesStage_X8_takesNumber
theorem dX8_takesStage_0 : decode cX8_takesStage 0 = .ok (.aload_n 0, 1) := by decide +kernel
theorem dX8_takesStage_1 : decode cX8_takesStage 1 = .ok (.aload_n 0, 1) := by decide +kernel
theorem dX8_takesStage_2 : decode cX8_takesStage 2 = .ok (.getfield 77, 3) := by decide +kernel
theorem dX8_takesStage_5 : decode cX8_takesStage 5 = .ok (.ifCond .eq 17, 3) := by decide +kernel
theorem dX8_takesStage_8 : decode cX8_takesStage 8 = .ok (.aload_n 0, 1) := by decide +kernel
theorem dX8_takesStage_9 : decode cX8_takesStage 9 = .ok (.getfield 17, 3) := by decide +kernel
theorem dX8_takesStage_12 : decode cX8_takesStage 12 = .ok (.iconst 0, 1) := by decide +kernel
theorem dX8_takesStage_13 : decode cX8_takesStage 13 = .ok (.iaload, 1) := by decide +kernel
theorem dX8_takesStage_14 : decode cX8_takesStage 14 = .ok (.iconst 4, 1) := by decide +kernel
theorem dX8_takesStage_15 : decode cX8_takesStage 15 = .ok (.if_icmp .ge 7, 3) := by decide +kernel
theorem dX8_takesStage_18 : decode cX8_takesStage 18 = .ok (.iconst 1, 1) := by decide +kernel
theorem dX8_takesStage_19 : decode cX8_takesStage 19 = .ok (.goto 4, 3) := by decide +kernel
theorem dX8_takesStage_22 : decode cX8_takesStage 22 = .ok (.iconst 0, 1) := by decide +kernel
theorem dX8_takesStage_23 : decode cX8_takesStage 23 = .ok (.putfield 77, 3) := by decide +kernel
theorem dX8_takesStage_26 : decode cX8_takesStage 26 = .ok (.bipush 6, 2) := by decide +kernel
theorem dX8_takesStage_28 : decode cX8_takesStage 28 = .ok (.bipush 12, 2) := by decide +kernel
theorem dX8_takesStage_30 : decode cX8_takesStage 30 = .ok (.aload_n 0, 1) := by decide +kernel
theorem dX8_takesStage_31 : decode cX8_takesStage 31 = .ok (.getfield 17, 3) := by decide +kernel
theorem dX8_takesStage_34 : decode cX8_takesStage 34 = .ok (.iconst 0, 1) := by decide +kernel
theorem dX8_takesStage_35 : decode cX8_takesStage 35 = .ok (.iaload, 1) := by decide +kernel
theorem dX8_takesStage_36 : decode cX8_takesStage 36 = .ok (.imul, 1) := by decide +kernel
theorem dX8_takesStage_37 : decode cX8_takesStage 37 = .ok (.iadd, 1) := by decide +kernel
theorem dX8_takesStage_38 : decode cX8_takesStage 38 = .ok (.istore_n 1, 1) := by decide +kernel
theorem dX8_takesStage_39 : decode cX8_takesStage 39 = .ok (.iconst 0, 1) := by decide +kernel
theorem dX8_takesStage_40 : decode cX8_takesStage 40 = .ok (.istore_n 2, 1) := by decide +kernel
theorem dX8_takesStage_41 : decode cX8_takesStage 41 = .ok (.iload_n 2, 1) := by decide +kernel
theorem dX8_takesStage_42 : decode cX8_takesStage 42 = .ok (.bipush 7, 2) := by decide +kernel
theorem dX8_takesStage_44 : decode cX8_takesStage 44 = .ok (.if_icmp .ge 46, 3) := by decide +kernel
theorem dX8_takesStage_47 : decode cX8_takesStage 47 = .ok (.aload_n 0, 1) := by decide +kernel
theorem dX8_takesStage_48 : decode cX8_takesStage 48 = .ok (.getfield 77, 3) := by decide +kernel
theorem dX8_takesStage_51 : decode cX8_takesStage 51 = .ok (.ifCond .eq 39, 3) := by decide +kernel
theorem dX8_takesStage_54 : decode cX8_takesStage 54 = .ok (.iload_n 2, 1) := by decide +kernel
theorem dX8_takesStage_55 : decode cX8_takesStage 55 = .ok (.ifCond .le 9, 3) := by decide +kernel
theorem dX8_takesStage_58 : decode cX8_takesStage 58 = .ok (.aload_n 0, 1) := by decide +kernel
theorem dX8_takesStage_59 : decode cX8_takesStage 59 = .ok (.bipush 44, 2) := by decide +kernel
theorem dX8_takesStage_61 : decode cX8_takesStage 61 = .ok (.invokevirtual 81, 3) := by decide +kernel
theorem dX8_takesStage_64 : decode cX8_takesStage 64 = .ok (.aload_n 0, 1) := by decide +kernel
theorem dX8_takesStage_65 : decode cX8_takesStage 65 = .ok (.getfield 17, 3) := by decide +kernel
theorem dX8_takesStage_68 : decode cX8_takesStage 68 = .ok (.iload_n 1, 1) := by decide +kernel
theorem dX8_takesStage_69 : decode cX8_takesStage 69 = .ok (.iload_n 2, 1) := by decide +kernel
theorem dX8_takesStage_70 : decode cX8_takesStage 70 = .ok (.iadd, 1) := by decide +kernel
theorem dX8_takesStage_71 : decode cX8_takesStage 71 = .ok (.aload_n 0, 1) := by decide +kernel
theorem dX8_takesStage_72 : decode cX8_takesStage 72 = .ok (.iload_n 2, 1) := by decide +kernel
theorem dX8_takesStage_73 : decode cX8_takesStage 73 = .ok (.invokestatic 85, 3) := by decide +kernel
theorem dX8_takesStage_76 : decode cX8_takesStage 76 = .ok (.iload_n 2, 1) := by decide +kernel
theorem dX8_takesStage_77 : decode cX8_takesStage 77 = .ok (.invokestatic 89, 3) := by decide +kernel
theorem dX8_takesStage_80 : decode cX8_takesStage 80 = .ok (.invokevirtual 92, 3) := by decide +kernel
theorem dX8_takesStage_83 : decode cX8_takesStage 83 = .ok (.iastore, 1) := by decide +kernel
theorem dX8_takesStage_84 : decode cX8_takesStage 84 = .ok (.iinc 2 1, 3) := by decide +kernel
theorem dX8_takesStage_87 : decode cX8_takesStage 87 = .ok (.goto (-46), 3) := by decide +kernel
theorem dX8_takesStage_90 : decode cX8_takesStage 90 = .ok (.aload_n 0, 1) := by decide +kernel
theorem dX8_takesStage_91 : decode cX8_takesStage 91 = .ok (.bipush 59, 2) := by decide +kernel
theorem dX8_takesStage_93 : decode cX8_takesStage 93 = .ok (.invokevirtual 81, 3) := by decide +kernel
theorem dX8_takesStage_96 : decode cX8_takesStage 96 = .ok (.aload_n 0, 1) := by decide +kernel
theorem dX8_takesStage_97 : decode cX8_takesStage 97 = .ok (.getfield 17, 3) := by decide +kernel
theorem dX8_takesStage_100 : decode cX8_takesStage 100 = .ok (.iconst 0, 1) := by decide +kernel
theorem dX8_takesStage_101 : decode cX8_takesStage 101 = .ok (.dup2, 1) := by decide +kernel
theorem dX8_takesStage_102 : decode cX8_takesStage 102 = .ok (.iaload, 1) := by decide +kernel
theorem dX8_takesStage_103 : decode cX8_takesStage 103 = .ok (.aload_n 0, 1) := by decide +kernel
theorem dX8_takesStage_104 : decode cX8_takesStage 104 = .ok (.getfield 77, 3) := by decide +kernel
theorem dX8_takesStage_107 : decode cX8_takesStage 107 = .ok (.ifCond .eq 7, 3) := by decide +kernel
theorem dX8_takesStage_110 : decode cX8_takesStage 110 = .ok (.iconst 1, 1) := by decide +kernel
theorem dX8_takesStage_111 : decode cX8_takesStage 111 = .ok (.goto 4, 3) := by decide +kernel
theorem dX8_takesStage_114 : decode cX8_takesStage 114 = .ok (.iconst 0, 1) := by decide +kernel
theorem dX8_takesStage_115 : decode cX8_takesStage 115 = .ok (.iadd, 1) := by decide +kernel
theorem dX8_takesStage_116 : decode cX8_takesStage 116 = .ok (.iastore, 1) := by decide +kernel
theorem dX8_takesStage_117 : decode cX8_takesStage 117 = .ok (.return_, 1) := by decide +kernel
set_option maxRecDepth 20000 in
theorem ggX8_reads_X8_isHere : GoodIn wsX8_reads wsX8_isHere := goodIn_r _ [9, 2, 3, 10, 32, 33, 34, 35, 36, 37, 38, 39, 40, 41, 42, 43, 44, 45, 46, 47, 48, 49, 50, 51, 52, 53, 54, 55] (by decide +kernel) (by decide +kernel)
set_option maxRecDepth 20000 in
theorem gX8_reads_X8_isHere : GoodIn wsX8_reads (wsV RX8 73 RX8 yX8_isHere wsX8_isHere) := goodIn_app (goodIn_of _ (by decide +kernel)) ggX8_reads_X8_isHere
set_option maxRecDepth 20000 in
theorem ggX8_reads_X8_takesNumber : GoodIn wsX8_reads wsX8_takesNumber := goodIn_r _ [14, 2, 3, 10, 4, 5, 6, 7, 8, 9, 15, 16, 17, 32, 33, 34, 35, 36, 37, 38, 39, 40, 41, 42, 43, 44, 45, 46, 47, 48, 49, 50, 51, 52, 53, 54, 55] (by decide +kernel) (by decide +kernel)
set_option maxRecDepth 20000 in
theorem gX8_reads_X8_takesNumber : GoodIn wsX8_reads (wsV RX8 92 RX8 yX8_takesNumber wsX8_takesNumber) := goodIn_app (goodIn_of _ (by decide +kernel)) ggX8_reads_X8_takesNumber
set_option maxRecDepth 20000 in
theorem ggX8_reads_X8_takes : GoodIn wsX8_reads wsX8_takes := goodIn_r _ [21, 2, 4, 5, 6, 7, 8, 9, 3, 10, 32, 33, 34, 35, 36, 37, 38, 39, 40, 41, 42, 43, 44, 45, 46, 47, 48, 49, 50, 51, 52, 53, 54, 55] (by decide +kernel) (by decide +kernel)
set_option maxRecDepth 20000 in
theorem gX8_reads_X8_takes : GoodIn wsX8_reads (wsV RX8 81 RX8 yX8_takes wsX8_takes) := goodIn_app (goodIn_of _ (by decide +kernel)) ggX8_reads_X8_takes
set_option maxRecDepth 20000 in
theorem ggX8_reads_X8_takesStage : GoodIn wsX8_reads wsX8_takesStage := goodIn_r _ [25, 4, 1, 18, 19, 20, 8, 21, 2, 5, 6, 7, 9, 3, 10, 26, 27, 28, 29, 30, 31, 11, 12, 13, 14, 15, 16, 17, 32, 33, 34, 35, 36, 37, 38, 39, 40, 41, 42, 43, 44, 45, 46, 47, 48, 49, 50, 51, 52, 53, 54, 55] (by decide +kernel) (by decide +kernel)
set_option maxRecDepth 20000 in
theorem gX8_reads_X8_takesStage : GoodIn wsX8_reads (wsV RX8 96 RX8 yX8_takesStage wsX8_takesStage) := goodIn_app (goodIn_of _ (by decide +kernel)) ggX8_reads_X8_takesStage
theorem dX8_reads_0 : decode cX8_reads 0 = .ok (.iconst 0, 1) := by decide +kernel
theorem dX8_reads_1 : decode cX8_reads 1 = .ok (.istore_n 1, 1) := by decide +kernel
theorem dX8_reads_2 : decode cX8_reads 2 = .ok (.iload_n 1, 1) := by decide +kernel
theorem dX8_reads_3 : decode cX8_reads 3 = .ok (.bipush 114, 2) := by decide +kernel
theorem dX8_reads_5 : decode cX8_reads 5 = .ok (.if_icmp .ge 16, 3) := by decide +kernel
theorem dX8_reads_8 : decode cX8_reads 8 = .ok (.aload_n 0, 1) := by decide +kernel
theorem dX8_reads_9 : decode cX8_reads 9 = .ok (.getfield 17, 3) := by decide +kernel
theorem dX8_reads_12 : decode cX8_reads 12 = .ok (.iload_n 1, 1) := by decide +kernel
theorem dX8_reads_13 : decode cX8_reads 13 = .ok (.iconst 0, 1) := by decide +kernel
theorem dX8_reads_14 : decode cX8_reads 14 = .ok (.iastore, 1) := by decide +kernel
theorem dX8_reads_15 : decode cX8_reads 15 = .ok (.iinc 1 1, 3) := by decide +kernel
theorem dX8_reads_18 : decode cX8_reads 18 = .ok (.goto (-16), 3) := by decide +kernel
theorem dX8_reads_21 : decode cX8_reads 21 = .ok (.aload_n 0, 1) := by decide +kernel
theorem dX8_reads_22 : decode cX8_reads 22 = .ok (.getfield 17, 3) := by decide +kernel
theorem dX8_reads_25 : decode cX8_reads 25 = .ok (.iconst 1, 1) := by decide +kernel
theorem dX8_reads_26 : decode cX8_reads 26 = .ok (.sipush 1000, 3) := by decide +kernel
theorem dX8_reads_29 : decode cX8_reads 29 = .ok (.iastore, 1) := by decide +kernel
theorem dX8_reads_30 : decode cX8_reads 30 = .ok (.aload_n 0, 1) := by decide +kernel
theorem dX8_reads_31 : decode cX8_reads 31 = .ok (.iconst 0, 1) := by decide +kernel
theorem dX8_reads_32 : decode cX8_reads 32 = .ok (.putfield 70, 3) := by decide +kernel
theorem dX8_reads_35 : decode cX8_reads 35 = .ok (.aload_n 0, 1) := by decide +kernel
theorem dX8_reads_36 : decode cX8_reads 36 = .ok (.getfield 70, 3) := by decide +kernel
theorem dX8_reads_39 : decode cX8_reads 39 = .ok (.aload_n 0, 1) := by decide +kernel
theorem dX8_reads_40 : decode cX8_reads 40 = .ok (.getfield 67, 3) := by decide +kernel
theorem dX8_reads_43 : decode cX8_reads 43 = .ok (.if_icmp .ge 118, 3) := by decide +kernel
theorem dX8_reads_46 : decode cX8_reads 46 = .ok (.aload_n 0, 1) := by decide +kernel
theorem dX8_reads_47 : decode cX8_reads 47 = .ok (.getfield 70, 3) := by decide +kernel
theorem dX8_reads_50 : decode cX8_reads 50 = .ok (.istore_n 1, 1) := by decide +kernel
theorem dX8_reads_51 : decode cX8_reads 51 = .ok (.aload_n 0, 1) := by decide +kernel
theorem dX8_reads_52 : decode cX8_reads 52 = .ok (.iconst 1, 1) := by decide +kernel
theorem dX8_reads_53 : decode cX8_reads 53 = .ok (.putfield 77, 3) := by decide +kernel
theorem dX8_reads_56 : decode cX8_reads 56 = .ok (.aload_n 0, 1) := by decide +kernel
theorem dX8_reads_57 : decode cX8_reads 57 = .ok (.bipush 118, 2) := by decide +kernel
theorem dX8_reads_59 : decode cX8_reads 59 = .ok (.invokevirtual 73, 3) := by decide +kernel
theorem dX8_reads_62 : decode cX8_reads 62 = .ok (.ifCond .eq 56, 3) := by decide +kernel
theorem dX8_reads_65 : decode cX8_reads 65 = .ok (.aload_n 0, 1) := by decide +kernel
theorem dX8_reads_66 : decode cX8_reads 66 = .ok (.dup, 1) := by decide +kernel
theorem dX8_reads_67 : decode cX8_reads 67 = .ok (.getfield 70, 3) := by decide +kernel
theorem dX8_reads_70 : decode cX8_reads 70 = .ok (.iconst 1, 1) := by decide +kernel
theorem dX8_reads_71 : decode cX8_reads 71 = .ok (.iadd, 1) := by decide +kernel
theorem dX8_reads_72 : decode cX8_reads 72 = .ok (.putfield 70, 3) := by decide +kernel
theorem dX8_reads_75 : decode cX8_reads 75 = .ok (.aload_n 0, 1) := by decide +kernel
theorem dX8_reads_76 : decode cX8_reads 76 = .ok (.sipush 800, 3) := by decide +kernel
theorem dX8_reads_79 : decode cX8_reads 79 = .ok (.sipush 1200, 3) := by decide +kernel
theorem dX8_reads_82 : decode cX8_reads 82 = .ok (.invokevirtual 92, 3) := by decide +kernel
theorem dX8_reads_85 : decode cX8_reads 85 = .ok (.istore_n 2, 1) := by decide +kernel
theorem dX8_reads_86 : decode cX8_reads 86 = .ok (.aload_n 0, 1) := by decide +kernel
theorem dX8_reads_87 : decode cX8_reads 87 = .ok (.bipush 59, 2) := by decide +kernel
theorem dX8_reads_89 : decode cX8_reads 89 = .ok (.invokevirtual 81, 3) := by decide +kernel
theorem dX8_reads_92 : decode cX8_reads 92 = .ok (.aload_n 0, 1) := by decide +kernel
theorem dX8_reads_93 : decode cX8_reads 93 = .ok (.getfield 17, 3) := by decide +kernel
theorem dX8_reads_96 : decode cX8_reads 96 = .ok (.iconst 1, 1) := by decide +kernel
theorem dX8_reads_97 : decode cX8_reads 97 = .ok (.aload_n 0, 1) := by decide +kernel
theorem dX8_reads_98 : decode cX8_reads 98 = .ok (.getfield 77, 3) := by decide +kernel
theorem dX8_reads_101 : decode cX8_reads 101 = .ok (.ifCond .eq 7, 3) := by decide +kernel
theorem dX8_reads_104 : decode cX8_reads 104 = .ok (.iload_n 2, 1) := by decide +kernel
theorem dX8_reads_105 : decode cX8_reads 105 = .ok (.goto 9, 3) := by decide +kernel
theorem dX8_reads_108 : decode cX8_reads 108 = .ok (.aload_n 0, 1) := by decide +kernel
theorem dX8_reads_109 : decode cX8_reads 109 = .ok (.getfield 17, 3) := by decide +kernel
theorem dX8_reads_112 : decode cX8_reads 112 = .ok (.iconst 1, 1) := by decide +kernel
theorem dX8_reads_113 : decode cX8_reads 113 = .ok (.iaload, 1) := by decide +kernel
theorem dX8_reads_114 : decode cX8_reads 114 = .ok (.iastore, 1) := by decide +kernel
theorem dX8_reads_115 : decode cX8_reads 115 = .ok (.goto 34, 3) := by decide +kernel
theorem dX8_reads_118 : decode cX8_reads 118 = .ok (.aload_n 0, 1) := by decide +kernel
theorem dX8_reads_119 : decode cX8_reads 119 = .ok (.bipush 115, 2) := by decide +kernel
theorem dX8_reads_121 : decode cX8_reads 121 = .ok (.invokevirtual 73, 3) := by decide +kernel
theorem dX8_reads_124 : decode cX8_reads 124 = .ok (.ifCond .eq 20, 3) := by decide +kernel
theorem dX8_reads_127 : decode cX8_reads 127 = .ok (.aload_n 0, 1) := by decide +kernel
theorem dX8_reads_128 : decode cX8_reads 128 = .ok (.dup, 1) := by decide +kernel
theorem dX8_reads_129 : decode cX8_reads 129 = .ok (.getfield 70, 3) := by decide +kernel
theorem dX8_reads_132 : decode cX8_reads 132 = .ok (.iconst 1, 1) := by decide +kernel
theorem dX8_reads_133 : decode cX8_reads 133 = .ok (.iadd, 1) := by decide +kernel
theorem dX8_reads_134 : decode cX8_reads 134 = .ok (.putfield 70, 3) := by decide +kernel
theorem dX8_reads_137 : decode cX8_reads 137 = .ok (.aload_n 0, 1) := by decide +kernel
theorem dX8_reads_138 : decode cX8_reads 138 = .ok (.invokevirtual 96, 3) := by decide +kernel
theorem dX8_reads_141 : decode cX8_reads 141 = .ok (.goto 8, 3) := by decide +kernel
theorem dX8_reads_144 : decode cX8_reads 144 = .ok (.aload_n 0, 1) := by decide +kernel
theorem dX8_reads_145 : decode cX8_reads 145 = .ok (.iconst 0, 1) := by decide +kernel
theorem dX8_reads_146 : decode cX8_reads 146 = .ok (.putfield 77, 3) := by decide +kernel
theorem dX8_reads_149 : decode cX8_reads 149 = .ok (.aload_n 0, 1) := by decide +kernel
theorem dX8_reads_150 : decode cX8_reads 150 = .ok (.getfield 77, 3) := by decide +kernel
theorem dX8_reads_153 : decode cX8_reads 153 = .ok (.ifCond .ne 5, 3) := by decide +kernel
theorem dX8_reads_156 : decode cX8_reads 156 = .ok (.iload_n 1, 1) := by decide +kernel
theorem dX8_reads_157 : decode cX8_reads 157 = .ok (.ireturn, 1) := by decide +kernel
theorem dX8_reads_158 : decode cX8_reads 158 = .ok (.goto (-123), 3) := by decide +kernel
theorem dX8_reads_161 : decode cX8_reads 161 = .ok (.bipush (-4), 2) := by decide +kernel
theorem dX8_reads_163 : decode cX8_reads 163 = .ok (.ireturn, 1) := by decide +kernel
set_option maxRecDepth 20000 in
theorem ggX8_fault_X8_reads : GoodIn wsX8_fault wsX8_reads := goodIn_r _ [6, 7, 8, 9, 10, 11, 12, 13, 5, 14, 15, 16, 17, 18, 19, 20, 21, 22, 23, 24, 25, 26, 27, 28, 29, 30, 31, 32, 33, 34, 35, 36, 37, 38, 39, 40, 41, 42, 43, 44, 45, 46, 47, 48, 49, 50, 51, 52, 53, 54, 55, 56, 57, 58, 59, 60] (by decide +kernel) (by decide +kernel)
set_option maxRecDepth 20000 in
theorem gX8_fault_X8_reads : GoodIn wsX8_fault (wsV RX8 99 RX8 yX8_reads wsX8_reads) := goodIn_app (goodIn_of _ (by decide +kernel)) ggX8_fault_X8_reads
theorem dX8_fault_0 : decode cX8_fault 0 = .ok (.aload_n 0, 1) := by decide +kernel
theorem dX8_fault_1 : decode cX8_fault 1 = .ok (.iconst 0, 1) := by decide +kernel
theorem dX8_fault_2 : decode cX8_fault 2 = .ok (.putfield 59, 3) := by decide +kernel
theorem dX8_fault_5 : decode cX8_fault 5 = .ok (.aload_n 0, 1) := by decide +kernel
theorem dX8_fault_6 : decode cX8_fault 6 = .ok (.invokevirtual 99, 3) := by decide +kernel
theorem dX8_fault_9 : decode cX8_fault 9 = .ok (.ireturn, 1) := by decide +kernel
set_option maxRecDepth 20000 in
theorem ggX8_lay_X8_reads : GoodIn wsX8_lay wsX8_reads := goodIn_r _ [9, 2, 10, 11, 12, 13, 14, 15, 8, 16, 17, 18, 19, 20, 21, 22, 23, 24, 25, 26, 27, 28, 29, 30, 31, 32, 33, 34, 35, 36, 37, 38, 39, 40, 41, 42, 43, 44, 45, 46, 47, 48, 49, 50, 51, 52, 53, 54, 55, 56, 57, 58, 59, 60, 61, 62] (by decide +kernel) (by decide +kernel)
set_option maxRecDepth 20000 in
theorem gX8_lay_X8_reads : GoodIn wsX8_lay (wsV RX8 99 RX8 yX8_reads wsX8_reads) := goodIn_app (goodIn_of _ (by decide +kernel)) ggX8_lay_X8_reads
theorem dX8_lay_0 : decode cX8_lay 0 = .ok (.aload_n 0, 1) := by decide +kernel
theorem dX8_lay_1 : decode cX8_lay 1 = .ok (.iconst 0, 1) := by decide +kernel
theorem dX8_lay_2 : decode cX8_lay 2 = .ok (.putfield 59, 3) := by decide +kernel
theorem dX8_lay_5 : decode cX8_lay 5 = .ok (.aload_n 0, 1) := by decide +kernel
theorem dX8_lay_6 : decode cX8_lay 6 = .ok (.invokevirtual 99, 3) := by decide +kernel
theorem dX8_lay_9 : decode cX8_lay 9 = .ok (.bipush (-4), 2) := by decide +kernel
theorem dX8_lay_11 : decode cX8_lay 11 = .ok (.if_icmp .ne 12, 3) := by decide +kernel
theorem dX8_lay_14 : decode cX8_lay 14 = .ok (.aload_n 0, 1) := by decide +kernel
theorem dX8_lay_15 : decode cX8_lay 15 = .ok (.getfield 17, 3) := by decide +kernel
theorem dX8_lay_18 : decode cX8_lay 18 = .ok (.iconst 0, 1) := by decide +kernel
theorem dX8_lay_19 : decode cX8_lay 19 = .ok (.iaload, 1) := by decide +kernel
theorem dX8_lay_20 : decode cX8_lay 20 = .ok (.ifCond .ne 6, 3) := by decide +kernel
theorem dX8_lay_23 : decode cX8_lay 23 = .ok (.bipush (-2), 2) := by decide +kernel
theorem dX8_lay_25 : decode cX8_lay 25 = .ok (.ireturn, 1) := by decide +kernel
theorem dX8_lay_26 : decode cX8_lay 26 = .ok (.iconst 0, 1) := by decide +kernel
theorem dX8_lay_27 : decode cX8_lay 27 = .ok (.istore_n 1, 1) := by decide +kernel
theorem dX8_lay_28 : decode cX8_lay 28 = .ok (.iload_n 1, 1) := by decide +kernel
theorem dX8_lay_29 : decode cX8_lay 29 = .ok (.bipush 114, 2) := by decide +kernel
theorem dX8_lay_31 : decode cX8_lay 31 = .ok (.if_icmp .ge 41, 3) := by decide +kernel
theorem dX8_lay_34 : decode cX8_lay 34 = .ok (.aload_n 0, 1) := by decide +kernel
theorem dX8_lay_35 : decode cX8_lay 35 = .ok (.getfield 13, 3) := by decide +kernel
theorem dX8_lay_38 : decode cX8_lay 38 = .ok (.iload_n 1, 1) := by decide +kernel
theorem dX8_lay_39 : decode cX8_lay 39 = .ok (.iload_n 1, 1) := by decide +kernel
theorem dX8_lay_40 : decode cX8_lay 40 = .ok (.bipush 6, 2) := by decide +kernel
theorem dX8_lay_42 : decode cX8_lay 42 = .ok (.bipush 12, 2) := by decide +kernel
theorem dX8_lay_44 : decode cX8_lay 44 = .ok (.aload_n 0, 1) := by decide +kernel
theorem dX8_lay_45 : decode cX8_lay 45 = .ok (.getfield 17, 3) := by decide +kernel
theorem dX8_lay_48 : decode cX8_lay 48 = .ok (.iconst 0, 1) := by decide +kernel
theorem dX8_lay_49 : decode cX8_lay 49 = .ok (.iaload, 1) := by decide +kernel
theorem dX8_lay_50 : decode cX8_lay 50 = .ok (.imul, 1) := by decide +kernel
theorem dX8_lay_51 : decode cX8_lay 51 = .ok (.iadd, 1) := by decide +kernel
theorem dX8_lay_52 : decode cX8_lay 52 = .ok (.if_icmp .ge 12, 3) := by decide +kernel
theorem dX8_lay_55 : decode cX8_lay 55 = .ok (.aload_n 0, 1) := by decide +kernel
theorem dX8_lay_56 : decode cX8_lay 56 = .ok (.getfield 17, 3) := by decide +kernel
theorem dX8_lay_59 : decode cX8_lay 59 = .ok (.iload_n 1, 1) := by decide +kernel
theorem dX8_lay_60 : decode cX8_lay 60 = .ok (.iaload, 1) := by decide +kernel
theorem dX8_lay_61 : decode cX8_lay 61 = .ok (.goto 4, 3) := by decide +kernel
theorem dX8_lay_64 : decode cX8_lay 64 = .ok (.iconst 0, 1) := by decide +kernel
theorem dX8_lay_65 : decode cX8_lay 65 = .ok (.iastore, 1) := by decide +kernel
theorem dX8_lay_66 : decode cX8_lay 66 = .ok (.iinc 1 1, 3) := by decide +kernel
theorem dX8_lay_69 : decode cX8_lay 69 = .ok (.goto (-41), 3) := by decide +kernel
theorem dX8_lay_72 : decode cX8_lay 72 = .ok (.aload_n 0, 1) := by decide +kernel
theorem dX8_lay_73 : decode cX8_lay 73 = .ok (.iconst 0, 1) := by decide +kernel
theorem dX8_lay_74 : decode cX8_lay 74 = .ok (.putfield 103, 3) := by decide +kernel
theorem dX8_lay_77 : decode cX8_lay 77 = .ok (.aload_n 0, 1) := by decide +kernel
theorem dX8_lay_78 : decode cX8_lay 78 = .ok (.getfield 13, 3) := by decide +kernel
theorem dX8_lay_81 : decode cX8_lay 81 = .ok (.iconst 0, 1) := by decide +kernel
theorem dX8_lay_82 : decode cX8_lay 82 = .ok (.iaload, 1) := by decide +kernel
theorem dX8_lay_83 : decode cX8_lay 83 = .ok (.ireturn, 1) := by decide +kernel
set_option maxRecDepth 20000 in
theorem ggX8_isStage_X8_in : GoodIn wsX8_isStage wsX8_in := goodIn_r _ [5] (by decide +kernel) (by decide +kernel)
set_option maxRecDepth 20000 in
theorem gX8_isStage_X8_in : GoodIn wsX8_isStage (va_wsS RX8 63 yX8_in wsX8_in) := goodIn_app (goodIn_of _ (by decide +kernel)) ggX8_isStage_X8_in
theorem dX8_isStage_0 : decode cX8_isStage 0 = .ok (.iload_n 1, 1) := by decide +kernel
theorem dX8_isStage_1 : decode cX8_isStage 1 = .ok (.iconst 0, 1) := by decide +kernel
theorem dX8_isStage_2 : decode cX8_isStage 2 = .ok (.aload_n 0, 1) := by decide +kernel
theorem dX8_isStage_3 : decode cX8_isStage 3 = .ok (.getfield 13, 3) := by decide +kernel
theorem dX8_isStage_6 : decode cX8_isStage 6 = .ok (.iconst 0, 1) := by decide +kernel
theorem dX8_isStage_7 : decode cX8_isStage 7 = .ok (.iaload, 1) := by decide +kernel
theorem dX8_isStage_8 : decode cX8_isStage 8 = .ok (.iconst 1, 1) := by decide +kernel
theorem dX8_isStage_9 : decode cX8_isStage 9 = .ok (.isub, 1) := by decide +kernel
theorem dX8_isStage_10 : decode cX8_isStage 10 = .ok (.invokestatic 63, 3) := by decide +kernel
theorem dX8_isStage_13 : decode cX8_isStage 13 = .ok (.ireturn, 1) := by decide +kernel
theorem dX8_of_0 : decode cX8_of 0 = .ok (.aload_n 0, 1) := by decide +kernel
theorem dX8_of_1 : decode cX8_of 1 = .ok (.getfield 13, 3) := by decide +kernel
theorem dX8_of_4 : decode cX8_of 4 = .ok (.bipush 6, 2) := by decide +kernel
theorem dX8_of_6 : decode cX8_of 6 = .ok (.bipush 12, 2) := by decide +kernel
theorem dX8_of_8 : decode cX8_of 8 = .ok (.iload_n 1, 1) := by decide +kernel
theorem dX8_of_9 : decode cX8_of 9 = .ok (.imul, 1) := by decide +kernel
theorem dX8_of_10 : decode cX8_of 10 = .ok (.iadd, 1) := by decide +kernel
theorem dX8_of_11 : decode cX8_of 11 = .ok (.iload_n 2, 1) := by decide +kernel
theorem dX8_of_12 : decode cX8_of 12 = .ok (.iadd, 1) := by decide +kernel
theorem dX8_of_13 : decode cX8_of 13 = .ok (.iaload, 1) := by decide +kernel
theorem dX8_of_14 : decode cX8_of 14 = .ok (.ireturn, 1) := by decide +kernel
theorem dX8_puts_0 : decode cX8_puts 0 = .ok (.aload_n 0, 1) := by decide +kernel
theorem dX8_puts_1 : decode cX8_puts 1 = .ok (.getfield 13, 3) := by decide +kernel
theorem dX8_puts_4 : decode cX8_puts 4 = .ok (.bipush 6, 2) := by decide +kernel
theorem dX8_puts_6 : decode cX8_puts 6 = .ok (.bipush 12, 2) := by decide +kernel
theorem dX8_puts_8 : decode cX8_puts 8 = .ok (.iload_n 1, 1) := by decide +kernel
theorem dX8_puts_9 : decode cX8_puts 9 = .ok (.imul, 1) := by decide +kernel
theorem dX8_puts_10 : decode cX8_puts 10 = .ok (.iadd, 1) := by decide +kernel
theorem dX8_puts_11 : decode cX8_puts 11 = .ok (.iload_n 2, 1) := by decide +kernel
theorem dX8_puts_12 : decode cX8_puts 12 = .ok (.iadd, 1) := by decide +kernel
theorem dX8_puts_13 : decode cX8_puts 13 = .ok (.iload_n 3, 1) := by decide +kernel
theorem dX8_puts_14 : decode cX8_puts 14 = .ok (.iastore, 1) := by decide +kernel
theorem dX8_puts_15 : decode cX8_puts 15 = .ok (.return_, 1) := by decide +kernel
set_option maxRecDepth 20000 in
theorem ggX8_goodOf_X8_of : GoodIn wsX8_goodOf wsX8_of := goodIn_r _ [6, 7, 8, 9, 10, 11, 12, 13, 14, 15, 16, 17, 18, 19, 20, 21, 22, 23, 24, 25, 26, 27, 28, 29, 30, 31] (by decide +kernel) (by decide +kernel)
set_option maxRecDepth 20000 in
theorem gX8_goodOf_X8_of : GoodIn wsX8_goodOf (wsV RX8 106 RX8 yX8_of wsX8_of) := goodIn_app (goodIn_of _ (by decide +kernel)) ggX8_goodOf_X8_of
theorem dX8_goodOf_0 : decode cX8_goodOf 0 = .ok (.aload_n 0, 1) := by decide +kernel
theorem dX8_goodOf_1 : decode cX8_goodOf 1 = .ok (.getfield 29, 3) := by decide +kernel
theorem dX8_goodOf_4 : decode cX8_goodOf 4 = .ok (.iload_n 1, 1) := by decide +kernel
theorem dX8_goodOf_5 : decode cX8_goodOf 5 = .ok (.iaload, 1) := by decide +kernel
theorem dX8_goodOf_6 : decode cX8_goodOf 6 = .ok (.aload_n 0, 1) := by decide +kernel
theorem dX8_goodOf_7 : decode cX8_goodOf 7 = .ok (.iload_n 1, 1) := by decide +kernel
theorem dX8_goodOf_8 : decode cX8_goodOf 8 = .ok (.iconst 1, 1) := by decide +kernel
theorem dX8_goodOf_9 : decode cX8_goodOf 9 = .ok (.invokevirtual 106, 3) := by decide +kernel
theorem dX8_goodOf_12 : decode cX8_goodOf 12 = .ok (.aload_n 0, 1) := by decide +kernel
theorem dX8_goodOf_13 : decode cX8_goodOf 13 = .ok (.iload_n 1, 1) := by decide +kernel
theorem dX8_goodOf_14 : decode cX8_goodOf 14 = .ok (.iconst 2, 1) := by decide +kernel
theorem dX8_goodOf_15 : decode cX8_goodOf 15 = .ok (.invokevirtual 106, 3) := by decide +kernel
theorem dX8_goodOf_18 : decode cX8_goodOf 18 = .ok (.isub, 1) := by decide +kernel
theorem dX8_goodOf_19 : decode cX8_goodOf 19 = .ok (.if_icmp .ge 7, 3) := by decide +kernel
theorem dX8_goodOf_22 : decode cX8_goodOf 22 = .ok (.iconst 1, 1) := by decide +kernel
theorem dX8_goodOf_23 : decode cX8_goodOf 23 = .ok (.goto 30, 3) := by decide +kernel
theorem dX8_goodOf_26 : decode cX8_goodOf 26 = .ok (.aload_n 0, 1) := by decide +kernel
theorem dX8_goodOf_27 : decode cX8_goodOf 27 = .ok (.getfield 29, 3) := by decide +kernel
theorem dX8_goodOf_30 : decode cX8_goodOf 30 = .ok (.iload_n 1, 1) := by decide +kernel
theorem dX8_goodOf_31 : decode cX8_goodOf 31 = .ok (.iaload, 1) := by decide +kernel
theorem dX8_goodOf_32 : decode cX8_goodOf 32 = .ok (.aload_n 0, 1) := by decide +kernel
theorem dX8_goodOf_33 : decode cX8_goodOf 33 = .ok (.iload_n 1, 1) := by decide +kernel
theorem dX8_goodOf_34 : decode cX8_goodOf 34 = .ok (.iconst 1, 1) := by decide +kernel
theorem dX8_goodOf_35 : decode cX8_goodOf 35 = .ok (.invokevirtual 106, 3) := by decide +kernel
theorem dX8_goodOf_38 : decode cX8_goodOf 38 = .ok (.aload_n 0, 1) := by decide +kernel
theorem dX8_goodOf_39 : decode cX8_goodOf 39 = .ok (.iload_n 1, 1) := by decide +kernel
theorem dX8_goodOf_40 : decode cX8_goodOf 40 = .ok (.iconst 2, 1) := by decide +kernel
theorem dX8_goodOf_41 : decode cX8_goodOf 41 = .ok (.invokevirtual 106, 3) := by decide +kernel
theorem dX8_goodOf_44 : decode cX8_goodOf 44 = .ok (.iadd, 1) := by decide +kernel
theorem dX8_goodOf_45 : decode cX8_goodOf 45 = .ok (.if_icmp .le 7, 3) := by decide +kernel
theorem dX8_goodOf_48 : decode cX8_goodOf 48 = .ok (.iconst 2, 1) := by decide +kernel
theorem dX8_goodOf_49 : decode cX8_goodOf 49 = .ok (.goto 4, 3) := by decide +kernel
theorem dX8_goodOf_52 : decode cX8_goodOf 52 = .ok (.iconst 0, 1) := by decide +kernel
theorem dX8_goodOf_53 : decode cX8_goodOf 53 = .ok (.ireturn, 1) := by decide +kernel
set_option maxRecDepth 20000 in
theorem ggX8_lays_X8_of : GoodIn wsX8_lays wsX8_of := goodIn_r _ [11, 1, 22, 23, 24, 25, 26, 27, 28, 29, 30, 31, 32, 33, 34, 35, 36, 37, 38, 39, 40, 41, 42, 43, 44, 45] (by decide +kernel) (by decide +kernel)
set_option maxRecDepth 20000 in
theorem gX8_lays_X8_of : GoodIn wsX8_lays (wsV RX8 106 RX8 yX8_of wsX8_of) := goodIn_app (goodIn_of _ (by decide +kernel)) ggX8_lays_X8_of
set_option maxRecDepth 20000 in
theorem ggX8_lays_X8_goodOf : GoodIn wsX8_lays wsX8_goodOf := goodIn_r _ [15, 4, 7, 8, 9, 10, 11, 1, 22, 23, 24, 25, 26, 27, 28, 29, 30, 31, 32, 33, 34, 35, 36, 37, 38, 39, 40, 41, 42, 43, 44, 45] (by decide +kernel) (by decide +kernel)
set_option maxRecDepth 20000 in
theorem gX8_lays_X8_goodOf : GoodIn wsX8_lays (wsV RX8 109 RX8 yX8_goodOf wsX8_goodOf) := goodIn_app (goodIn_of _ (by decide +kernel)) ggX8_lays_X8_goodOf
set_option maxRecDepth 20000 in
theorem ggX8_lays_X8_way : GoodIn wsX8_lays wsX8_way := goodIn_r _ [18] (by decide +kernel) (by decide +kernel)
set_option maxRecDepth 20000 in
theorem gX8_lays_X8_way : GoodIn wsX8_lays (va_wsS RX8 112 yX8_way wsX8_way) := goodIn_app (goodIn_of _ (by decide +kernel)) ggX8_lays_X8_way
set_option maxRecDepth 20000 in
theorem ggX8_lays_X8_in : GoodIn wsX8_lays wsX8_in := goodIn_r _ [21] (by decide +kernel) (by decide +kernel)
set_option maxRecDepth 20000 in
theorem gX8_lays_X8_in : GoodIn wsX8_lays (va_wsS RX8 63 yX8_in wsX8_in) := goodIn_app (goodIn_of _ (by decide +kernel)) ggX8_lays_X8_in
theorem dX8_lays_0 : decode cX8_lays 0 = .ok (.iconst 0, 1) := by decide +kernel
theorem dX8_lays_1 : decode cX8_lays 1 = .ok (.istore_n 1, 1) := by decide +kernel
theorem dX8_lays_2 : decode cX8_lays 2 = .ok (.aload_n 0, 1) := by decide +kernel
theorem dX8_lays_3 : decode cX8_lays 3 = .ok (.getfield 13, 3) := by decide +kernel
theorem dX8_lays_6 : decode cX8_lays 6 = .ok (.iconst 0, 1) := by decide +kernel
theorem dX8_lays_7 : decode cX8_lays 7 = .ok (.iaload, 1) := by decide +kernel
theorem dX8_lays_8 : decode cX8_lays 8 = .ok (.iconst 1, 1) := by decide +kernel
theorem dX8_lays_9 : decode cX8_lays 9 = .ok (.isub, 1) := by decide +kernel
theorem dX8_lays_10 : decode cX8_lays 10 = .ok (.istore_n 2, 1) := by decide +kernel
theorem dX8_lays_11 : decode cX8_lays 11 = .ok (.iload_n 2, 1) := by decide +kernel
theorem dX8_lays_12 : decode cX8_lays 12 = .ok (.ifCond .lt 25, 3) := by decide +kernel
theorem dX8_lays_15 : decode cX8_lays 15 = .ok (.iload_n 1, 1) := by decide +kernel
theorem dX8_lays_16 : decode cX8_lays 16 = .ok (.aload_n 0, 1) := by decide +kernel
theorem dX8_lays_17 : decode cX8_lays 17 = .ok (.iload_n 2, 1) := by decide +kernel
theorem dX8_lays_18 : decode cX8_lays 18 = .ok (.iconst 5, 1) := by decide +kernel
theorem dX8_lays_19 : decode cX8_lays 19 = .ok (.invokevirtual 106, 3) := by decide +kernel
theorem dX8_lays_22 : decode cX8_lays 22 = .ok (.iadd, 1) := by decide +kernel
theorem dX8_lays_23 : decode cX8_lays 23 = .ok (.istore_n 1, 1) := by decide +kernel
theorem dX8_lays_24 : decode cX8_lays 24 = .ok (.aload_n 0, 1) := by decide +kernel
theorem dX8_lays_25 : decode cX8_lays 25 = .ok (.getfield 23, 3) := by decide +kernel
theorem dX8_lays_28 : decode cX8_lays 28 = .ok (.iload_n 2, 1) := by decide +kernel
theorem dX8_lays_29 : decode cX8_lays 29 = .ok (.iload_n 1, 1) := by decide +kernel
theorem dX8_lays_30 : decode cX8_lays 30 = .ok (.iastore, 1) := by decide +kernel
theorem dX8_lays_31 : decode cX8_lays 31 = .ok (.iinc 2 (-1), 3) := by decide +kernel
theorem dX8_lays_34 : decode cX8_lays 34 = .ok (.goto (-23), 3) := by decide +kernel
theorem dX8_lays_37 : decode cX8_lays 37 = .ok (.iconst 0, 1) := by decide +kernel
theorem dX8_lays_38 : decode cX8_lays 38 = .ok (.istore_n 2, 1) := by decide +kernel
theorem dX8_lays_39 : decode cX8_lays 39 = .ok (.iload_n 2, 1) := by decide +kernel
theorem dX8_lays_40 : decode cX8_lays 40 = .ok (.aload_n 0, 1) := by decide +kernel
theorem dX8_lays_41 : decode cX8_lays 41 = .ok (.getfield 13, 3) := by decide +kernel
theorem dX8_lays_44 : decode cX8_lays 44 = .ok (.iconst 0, 1) := by decide +kernel
theorem dX8_lays_45 : decode cX8_lays 45 = .ok (.iaload, 1) := by decide +kernel
theorem dX8_lays_46 : decode cX8_lays 46 = .ok (.if_icmp .ge 195, 3) := by decide +kernel
theorem dX8_lays_49 : decode cX8_lays 49 = .ok (.aload_n 0, 1) := by decide +kernel
theorem dX8_lays_50 : decode cX8_lays 50 = .ok (.getfield 26, 3) := by decide +kernel
theorem dX8_lays_53 : decode cX8_lays 53 = .ok (.iload_n 2, 1) := by decide +kernel
theorem dX8_lays_54 : decode cX8_lays 54 = .ok (.iload_n 2, 1) := by decide +kernel
theorem dX8_lays_55 : decode cX8_lays 55 = .ok (.ifCond .ne 12, 3) := by decide +kernel
theorem dX8_lays_58 : decode cX8_lays 58 = .ok (.aload_n 0, 1) := by decide +kernel
theorem dX8_lays_59 : decode cX8_lays 59 = .ok (.getfield 13, 3) := by decide +kernel
theorem dX8_lays_62 : decode cX8_lays 62 = .ok (.iconst 1, 1) := by decide +kernel
theorem dX8_lays_63 : decode cX8_lays 63 = .ok (.iaload, 1) := by decide +kernel
theorem dX8_lays_64 : decode cX8_lays 64 = .ok (.goto 31, 3) := by decide +kernel
theorem dX8_lays_67 : decode cX8_lays 67 = .ok (.aload_n 0, 1) := by decide +kernel
theorem dX8_lays_68 : decode cX8_lays 68 = .ok (.getfield 29, 3) := by decide +kernel
theorem dX8_lays_71 : decode cX8_lays 71 = .ok (.iload_n 2, 1) := by decide +kernel
theorem dX8_lays_72 : decode cX8_lays 72 = .ok (.iconst 1, 1) := by decide +kernel
theorem dX8_lays_73 : decode cX8_lays 73 = .ok (.isub, 1) := by decide +kernel
theorem dX8_lays_74 : decode cX8_lays 74 = .ok (.iaload, 1) := by decide +kernel
theorem dX8_lays_75 : decode cX8_lays 75 = .ok (.aload_n 0, 1) := by decide +kernel
theorem dX8_lays_76 : decode cX8_lays 76 = .ok (.iload_n 2, 1) := by decide +kernel
theorem dX8_lays_77 : decode cX8_lays 77 = .ok (.iconst 1, 1) := by decide +kernel
theorem dX8_lays_78 : decode cX8_lays 78 = .ok (.isub, 1) := by decide +kernel
theorem dX8_lays_79 : decode cX8_lays 79 = .ok (.bipush 6, 2) := by decide +kernel
theorem dX8_lays_81 : decode cX8_lays 81 = .ok (.invokevirtual 106, 3) := by decide +kernel
theorem dX8_lays_84 : decode cX8_lays 84 = .ok (.aload_n 0, 1) := by decide +kernel
theorem dX8_lays_85 : decode cX8_lays 85 = .ok (.getfield 23, 3) := by decide +kernel
theorem dX8_lays_88 : decode cX8_lays 88 = .ok (.iload_n 2, 1) := by decide +kernel
theorem dX8_lays_89 : decode cX8_lays 89 = .ok (.iaload, 1) := by decide +kernel
theorem dX8_lays_90 : decode cX8_lays 90 = .ok (.imul, 1) := by decide +kernel
theorem dX8_lays_91 : decode cX8_lays 91 = .ok (.bipush 10, 2) := by decide +kernel
theorem dX8_lays_93 : decode cX8_lays 93 = .ok (.idiv, 1) := by decide +kernel
theorem dX8_lays_94 : decode cX8_lays 94 = .ok (.isub, 1) := by decide +kernel
theorem dX8_lays_95 : decode cX8_lays 95 = .ok (.iastore, 1) := by decide +kernel
theorem dX8_lays_96 : decode cX8_lays 96 = .ok (.aload_n 0, 1) := by decide +kernel
theorem dX8_lays_97 : decode cX8_lays 97 = .ok (.getfield 29, 3) := by decide +kernel
theorem dX8_lays_100 : decode cX8_lays 100 = .ok (.iload_n 2, 1) := by decide +kernel
theorem dX8_lays_101 : decode cX8_lays 101 = .ok (.aload_n 0, 1) := by decide +kernel
theorem dX8_lays_102 : decode cX8_lays 102 = .ok (.getfield 26, 3) := by decide +kernel
theorem dX8_lays_105 : decode cX8_lays 105 = .ok (.iload_n 2, 1) := by decide +kernel
theorem dX8_lays_106 : decode cX8_lays 106 = .ok (.iaload, 1) := by decide +kernel
theorem dX8_lays_107 : decode cX8_lays 107 = .ok (.sipush 1000, 3) := by decide +kernel
theorem dX8_lays_110 : decode cX8_lays 110 = .ok (.aload_n 0, 1) := by decide +kernel
theorem dX8_lays_111 : decode cX8_lays 111 = .ok (.iload_n 2, 1) := by decide +kernel
theorem dX8_lays_112 : decode cX8_lays 112 = .ok (.bipush 7, 2) := by decide +kernel
theorem dX8_lays_114 : decode cX8_lays 114 = .ok (.invokevirtual 106, 3) := by decide +kernel
theorem dX8_lays_117 : decode cX8_lays 117 = .ok (.aload_n 0, 1) := by decide +kernel
theorem dX8_lays_118 : decode cX8_lays 118 = .ok (.iload_n 2, 1) := by decide +kernel
theorem dX8_lays_119 : decode cX8_lays 119 = .ok (.iconst 0, 1) := by decide +kernel
theorem dX8_lays_120 : decode cX8_lays 120 = .ok (.invokevirtual 106, 3) := by decide +kernel
theorem dX8_lays_123 : decode cX8_lays 123 = .ok (.imul, 1) := by decide +kernel
theorem dX8_lays_124 : decode cX8_lays 124 = .ok (.iadd, 1) := by decide +kernel
theorem dX8_lays_125 : decode cX8_lays 125 = .ok (.imul, 1) := by decide +kernel
theorem dX8_lays_126 : decode cX8_lays 126 = .ok (.sipush 1000, 3) := by decide +kernel
theorem dX8_lays_129 : decode cX8_lays 129 = .ok (.idiv, 1) := by decide +kernel
theorem dX8_lays_130 : decode cX8_lays 130 = .ok (.iastore, 1) := by decide +kernel
theorem dX8_lays_131 : decode cX8_lays 131 = .ok (.aload_n 0, 1) := by decide +kernel
theorem dX8_lays_132 : decode cX8_lays 132 = .ok (.iload_n 2, 1) := by decide +kernel
theorem dX8_lays_133 : decode cX8_lays 133 = .ok (.invokevirtual 109, 3) := by decide +kernel
theorem dX8_lays_136 : decode cX8_lays 136 = .ok (.istore_n 3, 1) := by decide +kernel
theorem dX8_lays_137 : decode cX8_lays 137 = .ok (.aload_n 0, 1) := by decide +kernel
theorem dX8_lays_138 : decode cX8_lays 138 = .ok (.getfield 23, 3) := by decide +kernel
theorem dX8_lays_141 : decode cX8_lays 141 = .ok (.iload_n 2, 1) := by decide +kernel
theorem dX8_lays_142 : decode cX8_lays 142 = .ok (.iaload, 1) := by decide +kernel
theorem dX8_lays_143 : decode cX8_lays 143 = .ok (.ifCond .ge 39, 3) := by decide +kernel
theorem dX8_lays_146 : decode cX8_lays 146 = .ok (.iload_n 3, 1) := by decide +kernel
theorem dX8_lays_147 : decode cX8_lays 147 = .ok (.ifCond .le 35, 3) := by decide +kernel
theorem dX8_lays_150 : decode cX8_lays 150 = .ok (.aload_n 0, 1) := by decide +kernel
theorem dX8_lays_151 : decode cX8_lays 151 = .ok (.iload_n 2, 1) := by decide +kernel
theorem dX8_lays_152 : decode cX8_lays 152 = .ok (.iconst 4, 1) := by decide +kernel
theorem dX8_lays_153 : decode cX8_lays 153 = .ok (.invokevirtual 106, 3) := by decide +kernel
theorem dX8_lays_156 : decode cX8_lays 156 = .ok (.iconst 1, 1) := by decide +kernel
theorem dX8_lays_157 : decode cX8_lays 157 = .ok (.if_icmp .ne 7, 3) := by decide +kernel
theorem dX8_lays_160 : decode cX8_lays 160 = .ok (.iconst 0, 1) := by decide +kernel
theorem dX8_lays_161 : decode cX8_lays 161 = .ok (.goto 20, 3) := by decide +kernel
theorem dX8_lays_164 : decode cX8_lays 164 = .ok (.aload_n 0, 1) := by decide +kernel
theorem dX8_lays_165 : decode cX8_lays 165 = .ok (.iload_n 2, 1) := by decide +kernel
theorem dX8_lays_166 : decode cX8_lays 166 = .ok (.iconst 4, 1) := by decide +kernel
theorem dX8_lays_167 : decode cX8_lays 167 = .ok (.invokevirtual 106, 3) := by decide +kernel
theorem dX8_lays_170 : decode cX8_lays 170 = .ok (.iconst 2, 1) := by decide +kernel
theorem dX8_lays_171 : decode cX8_lays 171 = .ok (.if_icmp .ne 9, 3) := by decide +kernel
theorem dX8_lays_174 : decode cX8_lays 174 = .ok (.iconst 3, 1) := by decide +kernel
theorem dX8_lays_175 : decode cX8_lays 175 = .ok (.iload_n 3, 1) := by decide +kernel
theorem dX8_lays_176 : decode cX8_lays 176 = .ok (.isub, 1) := by decide +kernel
theorem dX8_lays_177 : decode cX8_lays 177 = .ok (.goto 4, 3) := by decide +kernel
theorem dX8_lays_180 : decode cX8_lays 180 = .ok (.iload_n 3, 1) := by decide +kernel
theorem dX8_lays_181 : decode cX8_lays 181 = .ok (.istore_n 3, 1) := by decide +kernel
theorem dX8_lays_182 : decode cX8_lays 182 = .ok (.aload_n 0, 1) := by decide +kernel
theorem dX8_lays_183 : decode cX8_lays 183 = .ok (.getfield 32, 3) := by decide +kernel
theorem dX8_lays_186 : decode cX8_lays 186 = .ok (.iload_n 2, 1) := by decide +kernel
theorem dX8_lays_187 : decode cX8_lays 187 = .ok (.iload_n 3, 1) := by decide +kernel
theorem dX8_lays_188 : decode cX8_lays 188 = .ok (.iastore, 1) := by decide +kernel
theorem dX8_lays_189 : decode cX8_lays 189 = .ok (.aload_n 0, 1) := by decide +kernel
theorem dX8_lays_190 : decode cX8_lays 190 = .ok (.getfield 35, 3) := by decide +kernel
theorem dX8_lays_193 : decode cX8_lays 193 = .ok (.iload_n 2, 1) := by decide +kernel
theorem dX8_lays_194 : decode cX8_lays 194 = .ok (.iload_n 3, 1) := by decide +kernel
theorem dX8_lays_195 : decode cX8_lays 195 = .ok (.ifCond .le 38, 3) := by decide +kernel
theorem dX8_lays_198 : decode cX8_lays 198 = .ok (.aload_n 0, 1) := by decide +kernel
theorem dX8_lays_199 : decode cX8_lays 199 = .ok (.iload_n 2, 1) := by decide +kernel
theorem dX8_lays_200 : decode cX8_lays 200 = .ok (.bipush 8, 2) := by decide +kernel
theorem dX8_lays_202 : decode cX8_lays 202 = .ok (.invokevirtual 106, 3) := by decide +kernel
theorem dX8_lays_205 : decode cX8_lays 205 = .ok (.ifCond .ne 28, 3) := by decide +kernel
theorem dX8_lays_208 : decode cX8_lays 208 = .ok (.aload_n 0, 1) := by decide +kernel
theorem dX8_lays_209 : decode cX8_lays 209 = .ok (.iload_n 2, 1) := by decide +kernel
theorem dX8_lays_210 : decode cX8_lays 210 = .ok (.bipush 7, 2) := by decide +kernel
theorem dX8_lays_212 : decode cX8_lays 212 = .ok (.invokevirtual 106, 3) := by decide +kernel
theorem dX8_lays_215 : decode cX8_lays 215 = .ok (.iload_n 3, 1) := by decide +kernel
theorem dX8_lays_216 : decode cX8_lays 216 = .ok (.invokestatic 112, 3) := by decide +kernel
theorem dX8_lays_219 : decode cX8_lays 219 = .ok (.iadd, 1) := by decide +kernel
theorem dX8_lays_220 : decode cX8_lays 220 = .ok (.bipush (-5), 2) := by decide +kernel
theorem dX8_lays_222 : decode cX8_lays 222 = .ok (.iconst 5, 1) := by decide +kernel
theorem dX8_lays_223 : decode cX8_lays 223 = .ok (.invokestatic 63, 3) := by decide +kernel
theorem dX8_lays_226 : decode cX8_lays 226 = .ok (.ifCond .eq 7, 3) := by decide +kernel
theorem dX8_lays_229 : decode cX8_lays 229 = .ok (.iconst 1, 1) := by decide +kernel
theorem dX8_lays_230 : decode cX8_lays 230 = .ok (.goto 4, 3) := by decide +kernel
theorem dX8_lays_233 : decode cX8_lays 233 = .ok (.iconst 0, 1) := by decide +kernel
theorem dX8_lays_234 : decode cX8_lays 234 = .ok (.bastore, 1) := by decide +kernel
theorem dX8_lays_235 : decode cX8_lays 235 = .ok (.iinc 2 1, 3) := by decide +kernel
theorem dX8_lays_238 : decode cX8_lays 238 = .ok (.goto (-199), 3) := by decide +kernel
theorem dX8_lays_241 : decode cX8_lays 241 = .ok (.return_, 1) := by decide +kernel
theorem dX8_way_0 : decode cX8_way 0 = .ok (.iload_n 0, 1) := by decide +kernel
theorem dX8_way_1 : decode cX8_way 1 = .ok (.iconst 1, 1) := by decide +kernel
theorem dX8_way_2 : decode cX8_way 2 = .ok (.if_icmp .ne 7, 3) := by decide +kernel
theorem dX8_way_5 : decode cX8_way 5 = .ok (.iconst 1, 1) := by decide +kernel
theorem dX8_way_6 : decode cX8_way 6 = .ok (.goto 13, 3) := by decide +kernel
theorem dX8_way_9 : decode cX8_way 9 = .ok (.iload_n 0, 1) := by decide +kernel
theorem dX8_way_10 : decode cX8_way 10 = .ok (.iconst 2, 1) := by decide +kernel
theorem dX8_way_11 : decode cX8_way 11 = .ok (.if_icmp .ne 7, 3) := by decide +kernel
theorem dX8_way_14 : decode cX8_way 14 = .ok (.iconst (-1), 1) := by decide +kernel
theorem dX8_way_15 : decode cX8_way 15 = .ok (.goto 4, 3) := by decide +kernel
theorem dX8_way_18 : decode cX8_way 18 = .ok (.iconst 0, 1) := by decide +kernel
theorem dX8_way_19 : decode cX8_way 19 = .ok (.ireturn, 1) := by decide +kernel
theorem dX8_isQuiet_0 : decode cX8_isQuiet 0 = .ok (.iconst 1, 1) := by decide +kernel
theorem dX8_isQuiet_1 : decode cX8_isQuiet 1 = .ok (.istore_n 1, 1) := by decide +kernel
theorem dX8_isQuiet_2 : decode cX8_isQuiet 2 = .ok (.iconst 0, 1) := by decide +kernel
theorem dX8_isQuiet_3 : decode cX8_isQuiet 3 = .ok (.istore_n 2, 1) := by decide +kernel
theorem dX8_isQuiet_4 : decode cX8_isQuiet 4 = .ok (.iload_n 2, 1) := by decide +kernel
theorem dX8_isQuiet_5 : decode cX8_isQuiet 5 = .ok (.aload_n 0, 1) := by decide +kernel
theorem dX8_isQuiet_6 : decode cX8_isQuiet 6 = .ok (.getfield 13, 3) := by decide +kernel
theorem dX8_isQuiet_9 : decode cX8_isQuiet 9 = .ok (.iconst 0, 1) := by decide +kernel
theorem dX8_isQuiet_10 : decode cX8_isQuiet 10 = .ok (.iaload, 1) := by decide +kernel
theorem dX8_isQuiet_11 : decode cX8_isQuiet 11 = .ok (.if_icmp .ge 28, 3) := by decide +kernel
theorem dX8_isQuiet_14 : decode cX8_isQuiet 14 = .ok (.iload_n 1, 1) := by decide +kernel
theorem dX8_isQuiet_15 : decode cX8_isQuiet 15 = .ok (.ifCond .eq 16, 3) := by decide +kernel
theorem dX8_isQuiet_18 : decode cX8_isQuiet 18 = .ok (.aload_n 0, 1) := by decide +kernel
theorem dX8_isQuiet_19 : decode cX8_isQuiet 19 = .ok (.getfield 35, 3) := by decide +kernel
theorem dX8_isQuiet_22 : decode cX8_isQuiet 22 = .ok (.iload_n 2, 1) := by decide +kernel
theorem dX8_isQuiet_23 : decode cX8_isQuiet 23 = .ok (.baload, 1) := by decide +kernel
theorem dX8_isQuiet_24 : decode cX8_isQuiet 24 = .ok (.ifCond .ne 7, 3) := by decide +kernel
theorem dX8_isQuiet_27 : decode cX8_isQuiet 27 = .ok (.iconst 1, 1) := by decide +kernel
theorem dX8_isQuiet_28 : decode cX8_isQuiet 28 = .ok (.goto 4, 3) := by decide +kernel
theorem dX8_isQuiet_31 : decode cX8_isQuiet 31 = .ok (.iconst 0, 1) := by decide +kernel
theorem dX8_isQuiet_32 : decode cX8_isQuiet 32 = .ok (.istore_n 1, 1) := by decide +kernel
theorem dX8_isQuiet_33 : decode cX8_isQuiet 33 = .ok (.iinc 2 1, 3) := by decide +kernel
theorem dX8_isQuiet_36 : decode cX8_isQuiet 36 = .ok (.goto (-32), 3) := by decide +kernel
theorem dX8_isQuiet_39 : decode cX8_isQuiet 39 = .ok (.iload_n 1, 1) := by decide +kernel
theorem dX8_isQuiet_40 : decode cX8_isQuiet 40 = .ok (.ireturn, 1) := by decide +kernel
set_option maxRecDepth 20000 in
theorem ggX8_offOf_X8_of : GoodIn wsX8_offOf wsX8_of := goodIn_r _ [7, 1, 8, 9, 10, 11, 12, 13, 14, 15, 16, 17, 18, 19, 20, 21, 22, 23, 24, 25, 26, 27, 28, 29, 30, 31] (by decide +kernel) (by decide +kernel)
set_option maxRecDepth 20000 in
theorem gX8_offOf_X8_of : GoodIn wsX8_offOf (wsV RX8 106 RX8 yX8_of wsX8_of) := goodIn_app (goodIn_of _ (by decide +kernel)) ggX8_offOf_X8_of
theorem dX8_offOf_0 : decode cX8_offOf 0 = .ok (.iconst 0, 1) := by decide +kernel
theorem dX8_offOf_1 : decode cX8_offOf 1 = .ok (.istore_n 1, 1) := by decide +kernel
theorem dX8_offOf_2 : decode cX8_offOf 2 = .ok (.iconst 0, 1) := by decide +kernel
theorem dX8_offOf_3 : decode cX8_offOf 3 = .ok (.istore_n 2, 1) := by decide +kernel
theorem dX8_offOf_4 : decode cX8_offOf 4 = .ok (.iload_n 2, 1) := by decide +kernel
theorem dX8_offOf_5 : decode cX8_offOf 5 = .ok (.aload_n 0, 1) := by decide +kernel
theorem dX8_offOf_6 : decode cX8_offOf 6 = .ok (.getfield 13, 3) := by decide +kernel
theorem dX8_offOf_9 : decode cX8_offOf 9 = .ok (.iconst 0, 1) := by decide +kernel
theorem dX8_offOf_10 : decode cX8_offOf 10 = .ok (.iaload, 1) := by decide +kernel
theorem dX8_offOf_11 : decode cX8_offOf 11 = .ok (.if_icmp .ge 36, 3) := by decide +kernel
theorem dX8_offOf_14 : decode cX8_offOf 14 = .ok (.aload_n 0, 1) := by decide +kernel
theorem dX8_offOf_15 : decode cX8_offOf 15 = .ok (.getfield 29, 3) := by decide +kernel
theorem dX8_offOf_18 : decode cX8_offOf 18 = .ok (.iload_n 2, 1) := by decide +kernel
theorem dX8_offOf_19 : decode cX8_offOf 19 = .ok (.iaload, 1) := by decide +kernel
theorem dX8_offOf_20 : decode cX8_offOf 20 = .ok (.aload_n 0, 1) := by decide +kernel
theorem dX8_offOf_21 : decode cX8_offOf 21 = .ok (.iload_n 2, 1) := by decide +kernel
theorem dX8_offOf_22 : decode cX8_offOf 22 = .ok (.iconst 1, 1) := by decide +kernel
theorem dX8_offOf_23 : decode cX8_offOf 23 = .ok (.invokevirtual 106, 3) := by decide +kernel
theorem dX8_offOf_26 : decode cX8_offOf 26 = .ok (.isub, 1) := by decide +kernel
theorem dX8_offOf_27 : decode cX8_offOf 27 = .ok (.istore_n 3, 1) := by decide +kernel
theorem dX8_offOf_28 : decode cX8_offOf 28 = .ok (.iload_n 1, 1) := by decide +kernel
theorem dX8_offOf_29 : decode cX8_offOf 29 = .ok (.iload_n 3, 1) := by decide +kernel
theorem dX8_offOf_30 : decode cX8_offOf 30 = .ok (.ifCond .ge 8, 3) := by decide +kernel
theorem dX8_offOf_33 : decode cX8_offOf 33 = .ok (.iload_n 3, 1) := by decide +kernel
theorem dX8_offOf_34 : decode cX8_offOf 34 = .ok (.ineg, 1) := by decide +kernel
theorem dX8_offOf_35 : decode cX8_offOf 35 = .ok (.goto 4, 3) := by decide +kernel
theorem dX8_offOf_38 : decode cX8_offOf 38 = .ok (.iload_n 3, 1) := by decide +kernel
theorem dX8_offOf_39 : decode cX8_offOf 39 = .ok (.iadd, 1) := by decide +kernel
theorem dX8_offOf_40 : decode cX8_offOf 40 = .ok (.istore_n 1, 1) := by decide +kernel
theorem dX8_offOf_41 : decode cX8_offOf 41 = .ok (.iinc 2 1, 3) := by decide +kernel
theorem dX8_offOf_44 : decode cX8_offOf 44 = .ok (.goto (-40), 3) := by decide +kernel
theorem dX8_offOf_47 : decode cX8_offOf 47 = .ok (.iload_n 1, 1) := by decide +kernel
theorem dX8_offOf_48 : decode cX8_offOf 48 = .ok (.ireturn, 1) := by decide +kernel
set_option maxRecDepth 20000 in
theorem ggX8_counts_X8_of : GoodIn wsX8_counts wsX8_of := goodIn_r _ [8, 1, 13, 14, 15, 16, 17, 18, 19, 20, 21, 22, 23, 24, 25, 26, 27, 28, 29, 30, 31, 32, 33, 34, 35, 36] (by decide +kernel) (by decide +kernel)
set_option maxRecDepth 20000 in
theorem gX8_counts_X8_of : GoodIn wsX8_counts (wsV RX8 106 RX8 yX8_of wsX8_of) := goodIn_app (goodIn_of _ (by decide +kernel)) ggX8_counts_X8_of
set_option maxRecDepth 20000 in
theorem ggX8_counts_X8_puts : GoodIn wsX8_counts wsX8_puts := goodIn_r _ [12, 1, 13, 14, 15, 16, 17, 18, 19, 20, 21, 22, 23, 24, 25, 26, 27, 28, 29, 30, 31, 32, 33, 34, 35, 36] (by decide +kernel) (by decide +kernel)
set_option maxRecDepth 20000 in
theorem gX8_counts_X8_puts : GoodIn wsX8_counts (wsV RX8 115 RX8 yX8_puts wsX8_puts) := goodIn_app (goodIn_of _ (by decide +kernel)) ggX8_counts_X8_puts
theorem dX8_counts_0 : decode cX8_counts 0 = .ok (.iconst 0, 1) := by decide +kernel
theorem dX8_counts_1 : decode cX8_counts 1 = .ok (.istore_n 1, 1) := by decide +kernel
theorem dX8_counts_2 : decode cX8_counts 2 = .ok (.iload_n 1, 1) := by decide +kernel
theorem dX8_counts_3 : decode cX8_counts 3 = .ok (.aload_n 0, 1) := by decide +kernel
theorem dX8_counts_4 : decode cX8_counts 4 = .ok (.getfield 13, 3) := by decide +kernel
theorem dX8_counts_7 : decode cX8_counts 7 = .ok (.iconst 0, 1) := by decide +kernel
theorem dX8_counts_8 : decode cX8_counts 8 = .ok (.iaload, 1) := by decide +kernel
theorem dX8_counts_9 : decode cX8_counts 9 = .ok (.if_icmp .ge 98, 3) := by decide +kernel
theorem dX8_counts_12 : decode cX8_counts 12 = .ok (.aload_n 0, 1) := by decide +kernel
theorem dX8_counts_13 : decode cX8_counts 13 = .ok (.iload_n 1, 1) := by decide +kernel
theorem dX8_counts_14 : decode cX8_counts 14 = .ok (.bipush 9, 2) := by decide +kernel
theorem dX8_counts_16 : decode cX8_counts 16 = .ok (.aload_n 0, 1) := by decide +kernel
theorem dX8_counts_17 : decode cX8_counts 17 = .ok (.getfield 32, 3) := by decide +kernel
theorem dX8_counts_20 : decode cX8_counts 20 = .ok (.iload_n 1, 1) := by decide +kernel
theorem dX8_counts_21 : decode cX8_counts 21 = .ok (.iaload, 1) := by decide +kernel
theorem dX8_counts_22 : decode cX8_counts 22 = .ok (.ifCond .ne 7, 3) := by decide +kernel
theorem dX8_counts_25 : decode cX8_counts 25 = .ok (.iconst 0, 1) := by decide +kernel
theorem dX8_counts_26 : decode cX8_counts 26 = .ok (.goto 32, 3) := by decide +kernel
theorem dX8_counts_29 : decode cX8_counts 29 = .ok (.aload_n 0, 1) := by decide +kernel
theorem dX8_counts_30 : decode cX8_counts 30 = .ok (.getfield 32, 3) := by decide +kernel
theorem dX8_counts_33 : decode cX8_counts 33 = .ok (.iload_n 1, 1) := by decide +kernel
theorem dX8_counts_34 : decode cX8_counts 34 = .ok (.iaload, 1) := by decide +kernel
theorem dX8_counts_35 : decode cX8_counts 35 = .ok (.aload_n 0, 1) := by decide +kernel
theorem dX8_counts_36 : decode cX8_counts 36 = .ok (.iload_n 1, 1) := by decide +kernel
theorem dX8_counts_37 : decode cX8_counts 37 = .ok (.bipush 10, 2) := by decide +kernel
theorem dX8_counts_39 : decode cX8_counts 39 = .ok (.invokevirtual 106, 3) := by decide +kernel
theorem dX8_counts_42 : decode cX8_counts 42 = .ok (.if_icmp .ne 15, 3) := by decide +kernel
theorem dX8_counts_45 : decode cX8_counts 45 = .ok (.aload_n 0, 1) := by decide +kernel
theorem dX8_counts_46 : decode cX8_counts 46 = .ok (.iload_n 1, 1) := by decide +kernel
theorem dX8_counts_47 : decode cX8_counts 47 = .ok (.bipush 9, 2) := by decide +kernel
theorem dX8_counts_49 : decode cX8_counts 49 = .ok (.invokevirtual 106, 3) := by decide +kernel
theorem dX8_counts_52 : decode cX8_counts 52 = .ok (.iconst 1, 1) := by decide +kernel
theorem dX8_counts_53 : decode cX8_counts 53 = .ok (.iadd, 1) := by decide +kernel
theorem dX8_counts_54 : decode cX8_counts 54 = .ok (.goto 4, 3) := by decide +kernel
theorem dX8_counts_57 : decode cX8_counts 57 = .ok (.iconst 1, 1) := by decide +kernel
theorem dX8_counts_58 : decode cX8_counts 58 = .ok (.invokevirtual 115, 3) := by decide +kernel
theorem dX8_counts_61 : decode cX8_counts 61 = .ok (.aload_n 0, 1) := by decide +kernel
theorem dX8_counts_62 : decode cX8_counts 62 = .ok (.iload_n 1, 1) := by decide +kernel
theorem dX8_counts_63 : decode cX8_counts 63 = .ok (.bipush 10, 2) := by decide +kernel
theorem dX8_counts_65 : decode cX8_counts 65 = .ok (.aload_n 0, 1) := by decide +kernel
theorem dX8_counts_66 : decode cX8_counts 66 = .ok (.getfield 32, 3) := by decide +kernel
theorem dX8_counts_69 : decode cX8_counts 69 = .ok (.iload_n 1, 1) := by decide +kernel
theorem dX8_counts_70 : decode cX8_counts 70 = .ok (.iaload, 1) := by decide +kernel
theorem dX8_counts_71 : decode cX8_counts 71 = .ok (.invokevirtual 115, 3) := by decide +kernel
theorem dX8_counts_74 : decode cX8_counts 74 = .ok (.aload_n 0, 1) := by decide +kernel
theorem dX8_counts_75 : decode cX8_counts 75 = .ok (.getfield 39, 3) := by decide +kernel
theorem dX8_counts_78 : decode cX8_counts 78 = .ok (.iload_n 1, 1) := by decide +kernel
theorem dX8_counts_79 : decode cX8_counts 79 = .ok (.aload_n 0, 1) := by decide +kernel
theorem dX8_counts_80 : decode cX8_counts 80 = .ok (.iload_n 1, 1) := by decide +kernel
theorem dX8_counts_81 : decode cX8_counts 81 = .ok (.bipush 9, 2) := by decide +kernel
theorem dX8_counts_83 : decode cX8_counts 83 = .ok (.invokevirtual 106, 3) := by decide +kernel
theorem dX8_counts_86 : decode cX8_counts 86 = .ok (.aload_n 0, 1) := by decide +kernel
theorem dX8_counts_87 : decode cX8_counts 87 = .ok (.iload_n 1, 1) := by decide +kernel
theorem dX8_counts_88 : decode cX8_counts 88 = .ok (.iconst 3, 1) := by decide +kernel
theorem dX8_counts_89 : decode cX8_counts 89 = .ok (.invokevirtual 106, 3) := by decide +kernel
theorem dX8_counts_92 : decode cX8_counts 92 = .ok (.if_icmp .lt 7, 3) := by decide +kernel
theorem dX8_counts_95 : decode cX8_counts 95 = .ok (.iconst 1, 1) := by decide +kernel
theorem dX8_counts_96 : decode cX8_counts 96 = .ok (.goto 4, 3) := by decide +kernel
theorem dX8_counts_99 : decode cX8_counts 99 = .ok (.iconst 0, 1) := by decide +kernel
theorem dX8_counts_100 : decode cX8_counts 100 = .ok (.bastore, 1) := by decide +kernel
theorem dX8_counts_101 : decode cX8_counts 101 = .ok (.iinc 1 1, 3) := by decide +kernel
theorem dX8_counts_104 : decode cX8_counts 104 = .ok (.goto (-102), 3) := by decide +kernel
theorem dX8_counts_107 : decode cX8_counts 107 = .ok (.return_, 1) := by decide +kernel
theorem dX8_passesOn_0 : decode cX8_passesOn 0 = .ok (.iconst 0, 1) := by decide +kernel
theorem dX8_passesOn_1 : decode cX8_passesOn 1 = .ok (.istore_n 1, 1) := by decide +kernel
theorem dX8_passesOn_2 : decode cX8_passesOn 2 = .ok (.iload_n 1, 1) := by decide +kernel
theorem dX8_passesOn_3 : decode cX8_passesOn 3 = .ok (.aload_n 0, 1) := by decide +kernel
theorem dX8_passesOn_4 : decode cX8_passesOn 4 = .ok (.getfield 13, 3) := by decide +kernel
theorem dX8_passesOn_7 : decode cX8_passesOn 7 = .ok (.iconst 0, 1) := by decide +kernel
theorem dX8_passesOn_8 : decode cX8_passesOn 8 = .ok (.iaload, 1) := by decide +kernel
theorem dX8_passesOn_9 : decode cX8_passesOn 9 = .ok (.if_icmp .ge 73, 3) := by decide +kernel
theorem dX8_passesOn_12 : decode cX8_passesOn 12 = .ok (.aload_n 0, 1) := by decide +kernel
theorem dX8_passesOn_13 : decode cX8_passesOn 13 = .ok (.getfield 39, 3) := by decide +kernel
theorem dX8_passesOn_16 : decode cX8_passesOn 16 = .ok (.iload_n 1, 1) := by decide +kernel
theorem dX8_passesOn_17 : decode cX8_passesOn 17 = .ok (.baload, 1) := by decide +kernel
theorem dX8_passesOn_18 : decode cX8_passesOn 18 = .ok (.ifCond .eq 58, 3) := by decide +kernel
theorem dX8_passesOn_21 : decode cX8_passesOn 21 = .ok (.aload_n 0, 1) := by decide +kernel
theorem dX8_passesOn_22 : decode cX8_passesOn 22 = .ok (.getfield 35, 3) := by decide +kernel
theorem dX8_passesOn_25 : decode cX8_passesOn 25 = .ok (.iload_n 1, 1) := by decide +kernel
theorem dX8_passesOn_26 : decode cX8_passesOn 26 = .ok (.baload, 1) := by decide +kernel
theorem dX8_passesOn_27 : decode cX8_passesOn 27 = .ok (.ifCond .ne 49, 3) := by decide +kernel
theorem dX8_passesOn_30 : decode cX8_passesOn 30 = .ok (.iload_n 1, 1) := by decide +kernel
theorem dX8_passesOn_31 : decode cX8_passesOn 31 = .ok (.iconst 1, 1) := by decide +kernel
theorem dX8_passesOn_32 : decode cX8_passesOn 32 = .ok (.iadd, 1) := by decide +kernel
theorem dX8_passesOn_33 : decode cX8_passesOn 33 = .ok (.istore_n 2, 1) := by decide +kernel
theorem dX8_passesOn_34 : decode cX8_passesOn 34 = .ok (.iload_n 2, 1) := by decide +kernel
theorem dX8_passesOn_35 : decode cX8_passesOn 35 = .ok (.aload_n 0, 1) := by decide +kernel
theorem dX8_passesOn_36 : decode cX8_passesOn 36 = .ok (.getfield 13, 3) := by decide +kernel
theorem dX8_passesOn_39 : decode cX8_passesOn 39 = .ok (.iconst 0, 1) := by decide +kernel
theorem dX8_passesOn_40 : decode cX8_passesOn 40 = .ok (.iaload, 1) := by decide +kernel
theorem dX8_passesOn_41 : decode cX8_passesOn 41 = .ok (.if_icmp .ge 18, 3) := by decide +kernel
theorem dX8_passesOn_44 : decode cX8_passesOn 44 = .ok (.aload_n 0, 1) := by decide +kernel
theorem dX8_passesOn_45 : decode cX8_passesOn 45 = .ok (.getfield 32, 3) := by decide +kernel
theorem dX8_passesOn_48 : decode cX8_passesOn 48 = .ok (.iload_n 2, 1) := by decide +kernel
theorem dX8_passesOn_49 : decode cX8_passesOn 49 = .ok (.iaload, 1) := by decide +kernel
theorem dX8_passesOn_50 : decode cX8_passesOn 50 = .ok (.ifCond .ne 9, 3) := by decide +kernel
theorem dX8_passesOn_53 : decode cX8_passesOn 53 = .ok (.iinc 2 1, 3) := by decide +kernel
theorem dX8_passesOn_56 : decode cX8_passesOn 56 = .ok (.goto (-22), 3) := by decide +kernel
theorem dX8_passesOn_59 : decode cX8_passesOn 59 = .ok (.iload_n 2, 1) := by decide +kernel
theorem dX8_passesOn_60 : decode cX8_passesOn 60 = .ok (.aload_n 0, 1) := by decide +kernel
theorem dX8_passesOn_61 : decode cX8_passesOn 61 = .ok (.getfield 13, 3) := by decide +kernel
theorem dX8_passesOn_64 : decode cX8_passesOn 64 = .ok (.iconst 0, 1) := by decide +kernel
theorem dX8_passesOn_65 : decode cX8_passesOn 65 = .ok (.iaload, 1) := by decide +kernel
theorem dX8_passesOn_66 : decode cX8_passesOn 66 = .ok (.if_icmp .ge 10, 3) := by decide +kernel
theorem dX8_passesOn_69 : decode cX8_passesOn 69 = .ok (.aload_n 0, 1) := by decide +kernel
theorem dX8_passesOn_70 : decode cX8_passesOn 70 = .ok (.getfield 39, 3) := by decide +kernel
theorem dX8_passesOn_73 : decode cX8_passesOn 73 = .ok (.iload_n 2, 1) := by decide +kernel
theorem dX8_passesOn_74 : decode cX8_passesOn 74 = .ok (.iconst 1, 1) := by decide +kernel
theorem dX8_passesOn_75 : decode cX8_passesOn 75 = .ok (.bastore, 1) := by decide +kernel
theorem dX8_passesOn_76 : decode cX8_passesOn 76 = .ok (.iinc 1 1, 3) := by decide +kernel
theorem dX8_passesOn_79 : decode cX8_passesOn 79 = .ok (.goto (-77), 3) := by decide +kernel
theorem dX8_passesOn_82 : decode cX8_passesOn 82 = .ok (.return_, 1) := by decide +kernel
set_option maxRecDepth 20000 in
theorem ggX8_notesStep_X8_of : GoodIn wsX8_notesStep wsX8_of := goodIn_r _ [7, 1, 12, 13, 14, 15, 16, 17, 18, 19, 20, 21, 22, 23, 24, 25, 26, 27, 28, 29, 30, 31, 32, 33, 34, 35] (by decide +kernel) (by decide +kernel)
set_option maxRecDepth 20000 in
theorem gX8_notesStep_X8_of : GoodIn wsX8_notesStep (wsV RX8 106 RX8 yX8_of wsX8_of) := goodIn_app (goodIn_of _ (by decide +kernel)) ggX8_notesStep_X8_of
set_option maxRecDepth 20000 in
theorem ggX8_notesStep_X8_puts : GoodIn wsX8_notesStep wsX8_puts := goodIn_r _ [11, 1, 12, 13, 14, 15, 16, 17, 18, 19, 20, 21, 22, 23, 24, 25, 26, 27, 28, 29, 30, 31, 32, 33, 34, 35] (by decide +kernel) (by decide +kernel)
set_option maxRecDepth 20000 in
theorem gX8_notesStep_X8_puts : GoodIn wsX8_notesStep (wsV RX8 115 RX8 yX8_puts wsX8_puts) := goodIn_app (goodIn_of _ (by decide +kernel)) ggX8_notesStep_X8_puts
theorem dX8_notesStep_0 : decode cX8_notesStep 0 = .ok (.aload_n 0, 1) := by decide +kernel
theorem dX8_notesStep_1 : decode cX8_notesStep 1 = .ok (.getfield 13, 3) := by decide +kernel
theorem dX8_notesStep_4 : decode cX8_notesStep 4 = .ok (.iconst 3, 1) := by decide +kernel
theorem dX8_notesStep_5 : decode cX8_notesStep 5 = .ok (.dup2, 1) := by decide +kernel
theorem dX8_notesStep_6 : decode cX8_notesStep 6 = .ok (.iaload, 1) := by decide +kernel
theorem dX8_notesStep_7 : decode cX8_notesStep 7 = .ok (.iconst 1, 1) := by decide +kernel
theorem dX8_notesStep_8 : decode cX8_notesStep 8 = .ok (.iadd, 1) := by decide +kernel
theorem dX8_notesStep_9 : decode cX8_notesStep 9 = .ok (.iastore, 1) := by decide +kernel
theorem dX8_notesStep_10 : decode cX8_notesStep 10 = .ok (.aload_n 0, 1) := by decide +kernel
theorem dX8_notesStep_11 : decode cX8_notesStep 11 = .ok (.getfield 13, 3) := by decide +kernel
theorem dX8_notesStep_14 : decode cX8_notesStep 14 = .ok (.iconst 4, 1) := by decide +kernel
theorem dX8_notesStep_15 : decode cX8_notesStep 15 = .ok (.dup2, 1) := by decide +kernel
theorem dX8_notesStep_16 : decode cX8_notesStep 16 = .ok (.iaload, 1) := by decide +kernel
theorem dX8_notesStep_17 : decode cX8_notesStep 17 = .ok (.aload_n 0, 1) := by decide +kernel
theorem dX8_notesStep_18 : decode cX8_notesStep 18 = .ok (.iload_n 1, 1) := by decide +kernel
theorem dX8_notesStep_19 : decode cX8_notesStep 19 = .ok (.bipush 11, 2) := by decide +kernel
theorem dX8_notesStep_21 : decode cX8_notesStep 21 = .ok (.invokevirtual 106, 3) := by decide +kernel
theorem dX8_notesStep_24 : decode cX8_notesStep 24 = .ok (.ifCond .le 23, 3) := by decide +kernel
theorem dX8_notesStep_27 : decode cX8_notesStep 27 = .ok (.aload_n 0, 1) := by decide +kernel
theorem dX8_notesStep_28 : decode cX8_notesStep 28 = .ok (.iload_n 1, 1) := by decide +kernel
theorem dX8_notesStep_29 : decode cX8_notesStep 29 = .ok (.bipush 11, 2) := by decide +kernel
theorem dX8_notesStep_31 : decode cX8_notesStep 31 = .ok (.invokevirtual 106, 3) := by decide +kernel
theorem dX8_notesStep_34 : decode cX8_notesStep 34 = .ok (.aload_n 0, 1) := by decide +kernel
theorem dX8_notesStep_35 : decode cX8_notesStep 35 = .ok (.getfield 32, 3) := by decide +kernel
theorem dX8_notesStep_38 : decode cX8_notesStep 38 = .ok (.iload_n 1, 1) := by decide +kernel
theorem dX8_notesStep_39 : decode cX8_notesStep 39 = .ok (.iaload, 1) := by decide +kernel
theorem dX8_notesStep_40 : decode cX8_notesStep 40 = .ok (.if_icmp .eq 7, 3) := by decide +kernel
theorem dX8_notesStep_43 : decode cX8_notesStep 43 = .ok (.iconst 1, 1) := by decide +kernel
theorem dX8_notesStep_44 : decode cX8_notesStep 44 = .ok (.goto 4, 3) := by decide +kernel
theorem dX8_notesStep_47 : decode cX8_notesStep 47 = .ok (.iconst 0, 1) := by decide +kernel
theorem dX8_notesStep_48 : decode cX8_notesStep 48 = .ok (.iadd, 1) := by decide +kernel
theorem dX8_notesStep_49 : decode cX8_notesStep 49 = .ok (.iastore, 1) := by decide +kernel
theorem dX8_notesStep_50 : decode cX8_notesStep 50 = .ok (.aload_n 0, 1) := by decide +kernel
theorem dX8_notesStep_51 : decode cX8_notesStep 51 = .ok (.iload_n 1, 1) := by decide +kernel
theorem dX8_notesStep_52 : decode cX8_notesStep 52 = .ok (.bipush 11, 2) := by decide +kernel
theorem dX8_notesStep_54 : decode cX8_notesStep 54 = .ok (.aload_n 0, 1) := by decide +kernel
theorem dX8_notesStep_55 : decode cX8_notesStep 55 = .ok (.getfield 32, 3) := by decide +kernel
theorem dX8_notesStep_58 : decode cX8_notesStep 58 = .ok (.iload_n 1, 1) := by decide +kernel
theorem dX8_notesStep_59 : decode cX8_notesStep 59 = .ok (.iaload, 1) := by decide +kernel
theorem dX8_notesStep_60 : decode cX8_notesStep 60 = .ok (.invokevirtual 115, 3) := by decide +kernel
theorem dX8_notesStep_63 : decode cX8_notesStep 63 = .ok (.aload_n 0, 1) := by decide +kernel
theorem dX8_notesStep_64 : decode cX8_notesStep 64 = .ok (.getfield 13, 3) := by decide +kernel
theorem dX8_notesStep_67 : decode cX8_notesStep 67 = .ok (.iconst 5, 1) := by decide +kernel
theorem dX8_notesStep_68 : decode cX8_notesStep 68 = .ok (.iaload, 1) := by decide +kernel
theorem dX8_notesStep_69 : decode cX8_notesStep 69 = .ok (.bipush 20, 2) := by decide +kernel
theorem dX8_notesStep_71 : decode cX8_notesStep 71 = .ok (.if_icmp .ne 42, 3) := by decide +kernel
theorem dX8_notesStep_74 : decode cX8_notesStep 74 = .ok (.bipush 54, 2) := by decide +kernel
theorem dX8_notesStep_76 : decode cX8_notesStep 76 = .ok (.istore_n 2, 1) := by decide +kernel
theorem dX8_notesStep_77 : decode cX8_notesStep 77 = .ok (.iload_n 2, 1) := by decide +kernel
theorem dX8_notesStep_78 : decode cX8_notesStep 78 = .ok (.bipush 111, 2) := by decide +kernel
theorem dX8_notesStep_80 : decode cX8_notesStep 80 = .ok (.if_icmp .ge 23, 3) := by decide +kernel
theorem dX8_notesStep_83 : decode cX8_notesStep 83 = .ok (.aload_n 0, 1) := by decide +kernel
theorem dX8_notesStep_84 : decode cX8_notesStep 84 = .ok (.getfield 13, 3) := by decide +kernel
theorem dX8_notesStep_87 : decode cX8_notesStep 87 = .ok (.iload_n 2, 1) := by decide +kernel
theorem dX8_notesStep_88 : decode cX8_notesStep 88 = .ok (.aload_n 0, 1) := by decide +kernel
theorem dX8_notesStep_89 : decode cX8_notesStep 89 = .ok (.getfield 13, 3) := by decide +kernel
theorem dX8_notesStep_92 : decode cX8_notesStep 92 = .ok (.iload_n 2, 1) := by decide +kernel
theorem dX8_notesStep_93 : decode cX8_notesStep 93 = .ok (.iconst 3, 1) := by decide +kernel
theorem dX8_notesStep_94 : decode cX8_notesStep 94 = .ok (.iadd, 1) := by decide +kernel
theorem dX8_notesStep_95 : decode cX8_notesStep 95 = .ok (.iaload, 1) := by decide +kernel
theorem dX8_notesStep_96 : decode cX8_notesStep 96 = .ok (.iastore, 1) := by decide +kernel
theorem dX8_notesStep_97 : decode cX8_notesStep 97 = .ok (.iinc 2 1, 3) := by decide +kernel
theorem dX8_notesStep_100 : decode cX8_notesStep 100 = .ok (.goto (-23), 3) := by decide +kernel
theorem dX8_notesStep_103 : decode cX8_notesStep 103 = .ok (.aload_n 0, 1) := by decide +kernel
theorem dX8_notesStep_104 : decode cX8_notesStep 104 = .ok (.getfield 13, 3) := by decide +kernel
theorem dX8_notesStep_107 : decode cX8_notesStep 107 = .ok (.iconst 5, 1) := by decide +kernel
theorem dX8_notesStep_108 : decode cX8_notesStep 108 = .ok (.dup2, 1) := by decide +kernel
theorem dX8_notesStep_109 : decode cX8_notesStep 109 = .ok (.iaload, 1) := by decide +kernel
theorem dX8_notesStep_110 : decode cX8_notesStep 110 = .ok (.iconst 1, 1) := by decide +kernel
theorem dX8_notesStep_111 : decode cX8_notesStep 111 = .ok (.isub, 1) := by decide +kernel
theorem dX8_notesStep_112 : decode cX8_notesStep 112 = .ok (.iastore, 1) := by decide +kernel
theorem dX8_notesStep_113 : decode cX8_notesStep 113 = .ok (.bipush 54, 2) := by decide +kernel
theorem dX8_notesStep_115 : decode cX8_notesStep 115 = .ok (.iconst 3, 1) := by decide +kernel
theorem dX8_notesStep_116 : decode cX8_notesStep 116 = .ok (.aload_n 0, 1) := by decide +kernel
theorem dX8_notesStep_117 : decode cX8_notesStep 117 = .ok (.getfield 13, 3) := by decide +kernel
theorem dX8_notesStep_120 : decode cX8_notesStep 120 = .ok (.iconst 5, 1) := by decide +kernel
theorem dX8_notesStep_121 : decode cX8_notesStep 121 = .ok (.iaload, 1) := by decide +kernel
theorem dX8_notesStep_122 : decode cX8_notesStep 122 = .ok (.imul, 1) := by decide +kernel
theorem dX8_notesStep_123 : decode cX8_notesStep 123 = .ok (.iadd, 1) := by decide +kernel
theorem dX8_notesStep_124 : decode cX8_notesStep 124 = .ok (.istore_n 2, 1) := by decide +kernel
theorem dX8_notesStep_125 : decode cX8_notesStep 125 = .ok (.aload_n 0, 1) := by decide +kernel
theorem dX8_notesStep_126 : decode cX8_notesStep 126 = .ok (.getfield 13, 3) := by decide +kernel
theorem dX8_notesStep_129 : decode cX8_notesStep 129 = .ok (.iload_n 2, 1) := by decide +kernel
theorem dX8_notesStep_130 : decode cX8_notesStep 130 = .ok (.aload_n 0, 1) := by decide +kernel
theorem dX8_notesStep_131 : decode cX8_notesStep 131 = .ok (.getfield 13, 3) := by decide +kernel
theorem dX8_notesStep_134 : decode cX8_notesStep 134 = .ok (.iconst 2, 1) := by decide +kernel
theorem dX8_notesStep_135 : decode cX8_notesStep 135 = .ok (.iaload, 1) := by decide +kernel
theorem dX8_notesStep_136 : decode cX8_notesStep 136 = .ok (.iastore, 1) := by decide +kernel
theorem dX8_notesStep_137 : decode cX8_notesStep 137 = .ok (.aload_n 0, 1) := by decide +kernel
theorem dX8_notesStep_138 : decode cX8_notesStep 138 = .ok (.getfield 13, 3) := by decide +kernel
theorem dX8_notesStep_141 : decode cX8_notesStep 141 = .ok (.iload_n 2, 1) := by decide +kernel
theorem dX8_notesStep_142 : decode cX8_notesStep 142 = .ok (.iconst 1, 1) := by decide +kernel
theorem dX8_notesStep_143 : decode cX8_notesStep 143 = .ok (.iadd, 1) := by decide +kernel
theorem dX8_notesStep_144 : decode cX8_notesStep 144 = .ok (.iload_n 1, 1) := by decide +kernel
theorem dX8_notesStep_145 : decode cX8_notesStep 145 = .ok (.iastore, 1) := by decide +kernel
theorem dX8_notesStep_146 : decode cX8_notesStep 146 = .ok (.aload_n 0, 1) := by decide +kernel
theorem dX8_notesStep_147 : decode cX8_notesStep 147 = .ok (.getfield 13, 3) := by decide +kernel
theorem dX8_notesStep_150 : decode cX8_notesStep 150 = .ok (.iload_n 2, 1) := by decide +kernel
theorem dX8_notesStep_151 : decode cX8_notesStep 151 = .ok (.iconst 2, 1) := by decide +kernel
theorem dX8_notesStep_152 : decode cX8_notesStep 152 = .ok (.iadd, 1) := by decide +kernel
theorem dX8_notesStep_153 : decode cX8_notesStep 153 = .ok (.aload_n 0, 1) := by decide +kernel
theorem dX8_notesStep_154 : decode cX8_notesStep 154 = .ok (.getfield 32, 3) := by decide +kernel
theorem dX8_notesStep_157 : decode cX8_notesStep 157 = .ok (.iload_n 1, 1) := by decide +kernel
theorem dX8_notesStep_158 : decode cX8_notesStep 158 = .ok (.iaload, 1) := by decide +kernel
theorem dX8_notesStep_159 : decode cX8_notesStep 159 = .ok (.iastore, 1) := by decide +kernel
theorem dX8_notesStep_160 : decode cX8_notesStep 160 = .ok (.aload_n 0, 1) := by decide +kernel
theorem dX8_notesStep_161 : decode cX8_notesStep 161 = .ok (.getfield 13, 3) := by decide +kernel
theorem dX8_notesStep_164 : decode cX8_notesStep 164 = .ok (.iconst 5, 1) := by decide +kernel
theorem dX8_notesStep_165 : decode cX8_notesStep 165 = .ok (.dup2, 1) := by decide +kernel
theorem dX8_notesStep_166 : decode cX8_notesStep 166 = .ok (.iaload, 1) := by decide +kernel
theorem dX8_notesStep_167 : decode cX8_notesStep 167 = .ok (.iconst 1, 1) := by decide +kernel
theorem dX8_notesStep_168 : decode cX8_notesStep 168 = .ok (.iadd, 1) := by decide +kernel
theorem dX8_notesStep_169 : decode cX8_notesStep 169 = .ok (.iastore, 1) := by decide +kernel
theorem dX8_notesStep_170 : decode cX8_notesStep 170 = .ok (.return_, 1) := by decide +kernel
set_option maxRecDepth 20000 in
theorem ggX8_ticks_X8_lays : GoodIn wsX8_ticks wsX8_lays := goodIn_r _ [9, 1, 10, 11, 12, 4, 3, 13, 14, 15, 8, 16, 17, 18, 19, 20, 21, 22, 23, 24, 25, 26, 43, 44, 45, 46, 47, 48, 49, 50, 51, 52, 53, 54, 55, 56, 57, 58, 59, 60, 61, 62, 63, 64, 65, 66] (by decide +kernel) (by decide +kernel)
set_option maxRecDepth 20000 in
theorem gX8_ticks_X8_lays : GoodIn wsX8_ticks (wsV RX8 119 RX8 yX8_lays wsX8_lays) := goodIn_app (goodIn_of _ (by decide +kernel)) ggX8_ticks_X8_lays
set_option maxRecDepth 20000 in
theorem ggX8_ticks_X8_counts : GoodIn wsX8_ticks wsX8_counts := goodIn_r _ [30, 1, 4, 2, 13, 14, 15, 8, 16, 31, 32, 33, 34, 43, 44, 45, 46, 47, 48, 49, 50, 51, 52, 53, 54, 55, 56, 57, 58, 59, 60, 61, 62, 63, 64, 65, 66] (by decide +kernel) (by decide +kernel)
set_option maxRecDepth 20000 in
theorem gX8_ticks_X8_counts : GoodIn wsX8_ticks (wsV RX8 122 RX8 yX8_counts wsX8_counts) := goodIn_app (goodIn_of _ (by decide +kernel)) ggX8_ticks_X8_counts
set_option maxRecDepth 20000 in
theorem ggX8_ticks_X8_passesOn : GoodIn wsX8_ticks wsX8_passesOn := goodIn_r _ [38, 1, 2, 3, 4, 43, 44, 45, 46, 47, 48, 49, 50, 51, 52, 53, 54, 55, 56, 57, 58, 59, 60, 61, 62, 63, 64, 65, 66] (by decide +kernel) (by decide +kernel)
set_option maxRecDepth 20000 in
theorem gX8_ticks_X8_passesOn : GoodIn wsX8_ticks (wsV RX8 125 RX8 yX8_passesOn wsX8_passesOn) := goodIn_app (goodIn_of _ (by decide +kernel)) ggX8_ticks_X8_passesOn
set_option maxRecDepth 20000 in
theorem ggX8_ticks_X8_of : GoodIn wsX8_ticks wsX8_of := goodIn_r _ [16, 1, 43, 44, 45, 46, 47, 48, 49, 50, 51, 52, 53, 54, 55, 56, 57, 58, 59, 60, 61, 62, 63, 64, 65, 66] (by decide +kernel) (by decide +kernel)
set_option maxRecDepth 20000 in
theorem gX8_ticks_X8_of : GoodIn wsX8_ticks (wsV RX8 106 RX8 yX8_of wsX8_of) := goodIn_app (goodIn_of _ (by decide +kernel)) ggX8_ticks_X8_of
set_option maxRecDepth 20000 in
theorem ggX8_ticks_X8_way : GoodIn wsX8_ticks wsX8_way := goodIn_r _ [23] (by decide +kernel) (by decide +kernel)
set_option maxRecDepth 20000 in
theorem gX8_ticks_X8_way : GoodIn wsX8_ticks (va_wsS RX8 112 yX8_way wsX8_way) := goodIn_app (goodIn_of _ (by decide +kernel)) ggX8_ticks_X8_way
set_option maxRecDepth 20000 in
theorem ggX8_ticks_X8_puts : GoodIn wsX8_ticks wsX8_puts := goodIn_r _ [34, 1, 43, 44, 45, 46, 47, 48, 49, 50, 51, 52, 53, 54, 55, 56, 57, 58, 59, 60, 61, 62, 63, 64, 65, 66] (by decide +kernel) (by decide +kernel)
set_option maxRecDepth 20000 in
theorem gX8_ticks_X8_puts : GoodIn wsX8_ticks (wsV RX8 115 RX8 yX8_puts wsX8_puts) := goodIn_app (goodIn_of _ (by decide +kernel)) ggX8_ticks_X8_puts
set_option maxRecDepth 20000 in
theorem ggX8_ticks_X8_notesStep : GoodIn wsX8_ticks wsX8_notesStep := goodIn_r _ [42, 1, 4, 13, 14, 15, 8, 16, 31, 32, 33, 34, 43, 44, 45, 46, 47, 48, 49, 50, 51, 52, 53, 54, 55, 56, 57, 58, 59, 60, 61, 62, 63, 64, 65, 66] (by decide +kernel) (by decide +kernel)
set_option maxRecDepth 20000 in
theorem gX8_ticks_X8_notesStep : GoodIn wsX8_ticks (wsV RX8 128 RX8 yX8_notesStep wsX8_notesStep) := goodIn_app (goodIn_of _ (by decide +kernel)) ggX8_ticks_X8_notesStep
theorem dX8_ticks_0 : decode cX8_ticks 0 = .ok (.aload_n 0, 1) := by decide +kernel
theorem dX8_ticks_1 : decode cX8_ticks 1 = .ok (.invokevirtual 119, 3) := by decide +kernel
theorem dX8_ticks_4 : decode cX8_ticks 4 = .ok (.aload_n 0, 1) := by decide +kernel
theorem dX8_ticks_5 : decode cX8_ticks 5 = .ok (.invokevirtual 122, 3) := by decide +kernel
theorem dX8_ticks_8 : decode cX8_ticks 8 = .ok (.aload_n 0, 1) := by decide +kernel
theorem dX8_ticks_9 : decode cX8_ticks 9 = .ok (.invokevirtual 125, 3) := by decide +kernel
theorem dX8_ticks_12 : decode cX8_ticks 12 = .ok (.iconst 0, 1) := by decide +kernel
theorem dX8_ticks_13 : decode cX8_ticks 13 = .ok (.istore_n 1, 1) := by decide +kernel
theorem dX8_ticks_14 : decode cX8_ticks 14 = .ok (.iload_n 1, 1) := by decide +kernel
theorem dX8_ticks_15 : decode cX8_ticks 15 = .ok (.aload_n 0, 1) := by decide +kernel
theorem dX8_ticks_16 : decode cX8_ticks 16 = .ok (.getfield 13, 3) := by decide +kernel
theorem dX8_ticks_19 : decode cX8_ticks 19 = .ok (.iconst 0, 1) := by decide +kernel
theorem dX8_ticks_20 : decode cX8_ticks 20 = .ok (.iaload, 1) := by decide +kernel
theorem dX8_ticks_21 : decode cX8_ticks 21 = .ok (.if_icmp .ge 72, 3) := by decide +kernel
theorem dX8_ticks_24 : decode cX8_ticks 24 = .ok (.aload_n 0, 1) := by decide +kernel
theorem dX8_ticks_25 : decode cX8_ticks 25 = .ok (.getfield 39, 3) := by decide +kernel
theorem dX8_ticks_28 : decode cX8_ticks 28 = .ok (.iload_n 1, 1) := by decide +kernel
theorem dX8_ticks_29 : decode cX8_ticks 29 = .ok (.baload, 1) := by decide +kernel
theorem dX8_ticks_30 : decode cX8_ticks 30 = .ok (.ifCond .eq 57, 3) := by decide +kernel
theorem dX8_ticks_33 : decode cX8_ticks 33 = .ok (.aload_n 0, 1) := by decide +kernel
theorem dX8_ticks_34 : decode cX8_ticks 34 = .ok (.getfield 35, 3) := by decide +kernel
theorem dX8_ticks_37 : decode cX8_ticks 37 = .ok (.iload_n 1, 1) := by decide +kernel
theorem dX8_ticks_38 : decode cX8_ticks 38 = .ok (.baload, 1) := by decide +kernel
theorem dX8_ticks_39 : decode cX8_ticks 39 = .ok (.ifCond .eq 32, 3) := by decide +kernel
theorem dX8_ticks_42 : decode cX8_ticks 42 = .ok (.aload_n 0, 1) := by decide +kernel
theorem dX8_ticks_43 : decode cX8_ticks 43 = .ok (.iload_n 1, 1) := by decide +kernel
theorem dX8_ticks_44 : decode cX8_ticks 44 = .ok (.bipush 7, 2) := by decide +kernel
theorem dX8_ticks_46 : decode cX8_ticks 46 = .ok (.aload_n 0, 1) := by decide +kernel
theorem dX8_ticks_47 : decode cX8_ticks 47 = .ok (.iload_n 1, 1) := by decide +kernel
theorem dX8_ticks_48 : decode cX8_ticks 48 = .ok (.bipush 7, 2) := by decide +kernel
theorem dX8_ticks_50 : decode cX8_ticks 50 = .ok (.invokevirtual 106, 3) := by decide +kernel
theorem dX8_ticks_53 : decode cX8_ticks 53 = .ok (.aload_n 0, 1) := by decide +kernel
theorem dX8_ticks_54 : decode cX8_ticks 54 = .ok (.getfield 32, 3) := by decide +kernel
theorem dX8_ticks_57 : decode cX8_ticks 57 = .ok (.iload_n 1, 1) := by decide +kernel
theorem dX8_ticks_58 : decode cX8_ticks 58 = .ok (.iaload, 1) := by decide +kernel
theorem dX8_ticks_59 : decode cX8_ticks 59 = .ok (.invokestatic 112, 3) := by decide +kernel
theorem dX8_ticks_62 : decode cX8_ticks 62 = .ok (.iadd, 1) := by decide +kernel
theorem dX8_ticks_63 : decode cX8_ticks 63 = .ok (.invokevirtual 115, 3) := by decide +kernel
theorem dX8_ticks_66 : decode cX8_ticks 66 = .ok (.aload_n 0, 1) := by decide +kernel
theorem dX8_ticks_67 : decode cX8_ticks 67 = .ok (.iload_n 1, 1) := by decide +kernel
theorem dX8_ticks_68 : decode cX8_ticks 68 = .ok (.invokevirtual 128, 3) := by decide +kernel
theorem dX8_ticks_71 : decode cX8_ticks 71 = .ok (.aload_n 0, 1) := by decide +kernel
theorem dX8_ticks_72 : decode cX8_ticks 72 = .ok (.iload_n 1, 1) := by decide +kernel
theorem dX8_ticks_73 : decode cX8_ticks 73 = .ok (.bipush 9, 2) := by decide +kernel
theorem dX8_ticks_75 : decode cX8_ticks 75 = .ok (.iconst 0, 1) := by decide +kernel
theorem dX8_ticks_76 : decode cX8_ticks 76 = .ok (.invokevirtual 115, 3) := by decide +kernel
theorem dX8_ticks_79 : decode cX8_ticks 79 = .ok (.aload_n 0, 1) := by decide +kernel
theorem dX8_ticks_80 : decode cX8_ticks 80 = .ok (.iload_n 1, 1) := by decide +kernel
theorem dX8_ticks_81 : decode cX8_ticks 81 = .ok (.bipush 10, 2) := by decide +kernel
theorem dX8_ticks_83 : decode cX8_ticks 83 = .ok (.iconst 0, 1) := by decide +kernel
theorem dX8_ticks_84 : decode cX8_ticks 84 = .ok (.invokevirtual 115, 3) := by decide +kernel
theorem dX8_ticks_87 : decode cX8_ticks 87 = .ok (.iinc 1 1, 3) := by decide +kernel
theorem dX8_ticks_90 : decode cX8_ticks 90 = .ok (.goto (-76), 3) := by decide +kernel
theorem dX8_ticks_93 : decode cX8_ticks 93 = .ok (.aload_n 0, 1) := by decide +kernel
theorem dX8_ticks_94 : decode cX8_ticks 94 = .ok (.getfield 13, 3) := by decide +kernel
theorem dX8_ticks_97 : decode cX8_ticks 97 = .ok (.iconst 2, 1) := by decide +kernel
theorem dX8_ticks_98 : decode cX8_ticks 98 = .ok (.dup2, 1) := by decide +kernel
theorem dX8_ticks_99 : decode cX8_ticks 99 = .ok (.iaload, 1) := by decide +kernel
theorem dX8_ticks_100 : decode cX8_ticks 100 = .ok (.iconst 1, 1) := by decide +kernel
theorem dX8_ticks_101 : decode cX8_ticks 101 = .ok (.iadd, 1) := by decide +kernel
theorem dX8_ticks_102 : decode cX8_ticks 102 = .ok (.iastore, 1) := by decide +kernel
theorem dX8_ticks_103 : decode cX8_ticks 103 = .ok (.return_, 1) := by decide +kernel
theorem dX8_notes_0 : decode cX8_notes 0 = .ok (.aload_n 0, 1) := by decide +kernel
theorem dX8_notes_1 : decode cX8_notes 1 = .ok (.getfield 103, 3) := by decide +kernel
theorem dX8_notes_4 : decode cX8_notes 4 = .ok (.bipush 6, 2) := by decide +kernel
end
section
theorem dX8_notes_6 : decode cX8_notes 6 = .ok (.if_icmp .ne 43, 3) := by decide +kernel
theorem dX8_notes_9 : decode cX8_notes 9 = .ok (.iconst 0, 1) := by decide +kernel
theorem dX8_notes_10 : decode cX8_notes 10 = .ok (.istore_n 1, 1) := by decide +kernel
theorem dX8_notes_11 : decode cX8_notes 11 = .ok (.iload_n 1, 1) := by decide +kernel
theorem dX8_notes_12 : decode cX8_notes 12 = .ok (.sipush 570, 3) := by decide +kernel
theorem dX8_notes_15 : decode cX8_notes 15 = .ok (.if_icmp .ge 24, 3) := by decide +kernel
theorem dX8_notes_18 : decode cX8_notes 18 = .ok (.aload_n 0, 1) := by decide +kernel
theorem dX8_notes_19 : decode cX8_notes 19 = .ok (.getfield 20, 3) := by decide +kernel
theorem dX8_notes_22 : decode cX8_notes 22 = .ok (.iload_n 1, 1) := by decide +kernel
theorem dX8_notes_23 : decode cX8_notes 23 = .ok (.aload_n 0, 1) := by decide +kernel
theorem dX8_notes_24 : decode cX8_notes 24 = .ok (.getfield 20, 3) := by decide +kernel
theorem dX8_notes_27 : decode cX8_notes 27 = .ok (.iload_n 1, 1) := by decide +kernel
theorem dX8_notes_28 : decode cX8_notes 28 = .ok (.bipush 114, 2) := by decide +kernel
theorem dX8_notes_30 : decode cX8_notes 30 = .ok (.iadd, 1) := by decide +kernel
theorem dX8_notes_31 : decode cX8_notes 31 = .ok (.iaload, 1) := by decide +kernel
theorem dX8_notes_32 : decode cX8_notes 32 = .ok (.iastore, 1) := by decide +kernel
theorem dX8_notes_33 : decode cX8_notes 33 = .ok (.iinc 1 1, 3) := by decide +kernel
theorem dX8_notes_36 : decode cX8_notes 36 = .ok (.goto (-25), 3) := by decide +kernel
theorem dX8_notes_39 : decode cX8_notes 39 = .ok (.aload_n 0, 1) := by decide +kernel
theorem dX8_notes_40 : decode cX8_notes 40 = .ok (.dup, 1) := by decide +kernel
theorem dX8_notes_41 : decode cX8_notes 41 = .ok (.getfield 103, 3) := by decide +kernel
theorem dX8_notes_44 : decode cX8_notes 44 = .ok (.iconst 1, 1) := by decide +kernel
theorem dX8_notes_45 : decode cX8_notes 45 = .ok (.isub, 1) := by decide +kernel
theorem dX8_notes_46 : decode cX8_notes 46 = .ok (.putfield 103, 3) := by decide +kernel
theorem dX8_notes_49 : decode cX8_notes 49 = .ok (.iconst 0, 1) := by decide +kernel
theorem dX8_notes_50 : decode cX8_notes 50 = .ok (.istore_n 1, 1) := by decide +kernel
theorem dX8_notes_51 : decode cX8_notes 51 = .ok (.iload_n 1, 1) := by decide +kernel
theorem dX8_notes_52 : decode cX8_notes 52 = .ok (.bipush 114, 2) := by decide +kernel
theorem dX8_notes_54 : decode cX8_notes 54 = .ok (.if_icmp .ge 29, 3) := by decide +kernel
theorem dX8_notes_57 : decode cX8_notes 57 = .ok (.aload_n 0, 1) := by decide +kernel
theorem dX8_notes_58 : decode cX8_notes 58 = .ok (.getfield 20, 3) := by decide +kernel
theorem dX8_notes_61 : decode cX8_notes 61 = .ok (.bipush 114, 2) := by decide +kernel
theorem dX8_notes_63 : decode cX8_notes 63 = .ok (.aload_n 0, 1) := by decide +kernel
theorem dX8_notes_64 : decode cX8_notes 64 = .ok (.getfield 103, 3) := by decide +kernel
theorem dX8_notes_67 : decode cX8_notes 67 = .ok (.imul, 1) := by decide +kernel
theorem dX8_notes_68 : decode cX8_notes 68 = .ok (.iload_n 1, 1) := by decide +kernel
theorem dX8_notes_69 : decode cX8_notes 69 = .ok (.iadd, 1) := by decide +kernel
theorem dX8_notes_70 : decode cX8_notes 70 = .ok (.aload_n 0, 1) := by decide +kernel
theorem dX8_notes_71 : decode cX8_notes 71 = .ok (.getfield 13, 3) := by decide +kernel
theorem dX8_notes_74 : decode cX8_notes 74 = .ok (.iload_n 1, 1) := by decide +kernel
theorem dX8_notes_75 : decode cX8_notes 75 = .ok (.iaload, 1) := by decide +kernel
theorem dX8_notes_76 : decode cX8_notes 76 = .ok (.iastore, 1) := by decide +kernel
theorem dX8_notes_77 : decode cX8_notes 77 = .ok (.iinc 1 1, 3) := by decide +kernel
theorem dX8_notes_80 : decode cX8_notes 80 = .ok (.goto (-29), 3) := by decide +kernel
theorem dX8_notes_83 : decode cX8_notes 83 = .ok (.aload_n 0, 1) := by decide +kernel
theorem dX8_notes_84 : decode cX8_notes 84 = .ok (.dup, 1) := by decide +kernel
theorem dX8_notes_85 : decode cX8_notes 85 = .ok (.getfield 103, 3) := by decide +kernel
theorem dX8_notes_88 : decode cX8_notes 88 = .ok (.iconst 1, 1) := by decide +kernel
theorem dX8_notes_89 : decode cX8_notes 89 = .ok (.iadd, 1) := by decide +kernel
theorem dX8_notes_90 : decode cX8_notes 90 = .ok (.putfield 103, 3) := by decide +kernel
theorem dX8_notes_93 : decode cX8_notes 93 = .ok (.return_, 1) := by decide +kernel
set_option maxRecDepth 20000 in
theorem ggX8_source_X8_in : GoodIn wsX8_source wsX8_in := goodIn_r _ [6] (by decide +kernel) (by decide +kernel)
set_option maxRecDepth 20000 in
theorem gX8_source_X8_in : GoodIn wsX8_source (va_wsS RX8 63 yX8_in wsX8_in) := goodIn_app (goodIn_of _ (by decide +kernel)) ggX8_source_X8_in
set_option maxRecDepth 20000 in
theorem ggX8_source_X8_notes : GoodIn wsX8_source wsX8_notes := goodIn_r _ [10, 11, 12, 2, 13, 14, 15, 16, 17, 18, 19, 20, 21, 22, 23, 24, 25, 26, 27, 28, 29, 30, 31, 32, 33, 34, 35, 36] (by decide +kernel) (by decide +kernel)
set_option maxRecDepth 20000 in
theorem gX8_source_X8_notes : GoodIn wsX8_source (wsV RX8 131 RX8 yX8_notes wsX8_notes) := goodIn_app (goodIn_of _ (by decide +kernel)) ggX8_source_X8_notes
theorem dX8_source_0 : decode cX8_source 0 = .ok (.aload_n 0, 1) := by decide +kernel
theorem dX8_source_1 : decode cX8_source 1 = .ok (.iconst 0, 1) := by decide +kernel
theorem dX8_source_2 : decode cX8_source 2 = .ok (.putfield 59, 3) := by decide +kernel
theorem dX8_source_5 : decode cX8_source 5 = .ok (.iload_n 1, 1) := by decide +kernel
theorem dX8_source_6 : decode cX8_source 6 = .ok (.sipush 800, 3) := by decide +kernel
theorem dX8_source_9 : decode cX8_source 9 = .ok (.sipush 1200, 3) := by decide +kernel
theorem dX8_source_12 : decode cX8_source 12 = .ok (.invokestatic 63, 3) := by decide +kernel
theorem dX8_source_15 : decode cX8_source 15 = .ok (.ifCond .ne 5, 3) := by decide +kernel
theorem dX8_source_18 : decode cX8_source 18 = .ok (.iconst (-1), 1) := by decide +kernel
theorem dX8_source_19 : decode cX8_source 19 = .ok (.ireturn, 1) := by decide +kernel
theorem dX8_source_20 : decode cX8_source 20 = .ok (.aload_n 0, 1) := by decide +kernel
theorem dX8_source_21 : decode cX8_source 21 = .ok (.getfield 13, 3) := by decide +kernel
theorem dX8_source_24 : decode cX8_source 24 = .ok (.iconst 1, 1) := by decide +kernel
theorem dX8_source_25 : decode cX8_source 25 = .ok (.iaload, 1) := by decide +kernel
theorem dX8_source_26 : decode cX8_source 26 = .ok (.istore_n 2, 1) := by decide +kernel
theorem dX8_source_27 : decode cX8_source 27 = .ok (.iload_n 2, 1) := by decide +kernel
theorem dX8_source_28 : decode cX8_source 28 = .ok (.iload_n 1, 1) := by decide +kernel
theorem dX8_source_29 : decode cX8_source 29 = .ok (.if_icmp .ne 6, 3) := by decide +kernel
theorem dX8_source_32 : decode cX8_source 32 = .ok (.bipush (-2), 2) := by decide +kernel
theorem dX8_source_34 : decode cX8_source 34 = .ok (.ireturn, 1) := by decide +kernel
theorem dX8_source_35 : decode cX8_source 35 = .ok (.aload_n 0, 1) := by decide +kernel
theorem dX8_source_36 : decode cX8_source 36 = .ok (.invokevirtual 131, 3) := by decide +kernel
theorem dX8_source_39 : decode cX8_source 39 = .ok (.aload_n 0, 1) := by decide +kernel
theorem dX8_source_40 : decode cX8_source 40 = .ok (.getfield 13, 3) := by decide +kernel
theorem dX8_source_43 : decode cX8_source 43 = .ok (.iconst 1, 1) := by decide +kernel
theorem dX8_source_44 : decode cX8_source 44 = .ok (.iload_n 1, 1) := by decide +kernel
theorem dX8_source_45 : decode cX8_source 45 = .ok (.iastore, 1) := by decide +kernel
theorem dX8_source_46 : decode cX8_source 46 = .ok (.iload_n 2, 1) := by decide +kernel
theorem dX8_source_47 : decode cX8_source 47 = .ok (.ireturn, 1) := by decide +kernel
set_option maxRecDepth 20000 in
theorem ggX8_tell_X8_isStage : GoodIn wsX8_tell wsX8_isStage := goodIn_r _ [6, 7, 8, 9, 5, 10, 25, 26, 27, 28, 29, 30, 31, 32, 33, 34, 35, 36, 37, 38, 39, 40, 41, 42, 43, 44, 45, 46, 47, 48] (by decide +kernel) (by decide +kernel)
set_option maxRecDepth 20000 in
theorem gX8_tell_X8_isStage : GoodIn wsX8_tell (wsV RX8 134 RX8 yX8_isStage wsX8_isStage) := goodIn_app (goodIn_of _ (by decide +kernel)) ggX8_tell_X8_isStage
set_option maxRecDepth 20000 in
theorem ggX8_tell_X8_in : GoodIn wsX8_tell wsX8_in := goodIn_r _ [10] (by decide +kernel) (by decide +kernel)
set_option maxRecDepth 20000 in
theorem gX8_tell_X8_in : GoodIn wsX8_tell (va_wsS RX8 63 yX8_in wsX8_in) := goodIn_app (goodIn_of _ (by decide +kernel)) ggX8_tell_X8_in
set_option maxRecDepth 20000 in
theorem ggX8_tell_X8_of : GoodIn wsX8_tell wsX8_of := goodIn_r _ [14, 7, 25, 26, 27, 28, 29, 30, 31, 32, 33, 34, 35, 36, 37, 38, 39, 40, 41, 42, 43, 44, 45, 46, 47, 48] (by decide +kernel) (by decide +kernel)
set_option maxRecDepth 20000 in
theorem gX8_tell_X8_of : GoodIn wsX8_tell (wsV RX8 106 RX8 yX8_of wsX8_of) := goodIn_app (goodIn_of _ (by decide +kernel)) ggX8_tell_X8_of
set_option maxRecDepth 20000 in
theorem ggX8_tell_X8_notes : GoodIn wsX8_tell wsX8_notes := goodIn_r _ [18, 19, 20, 7, 25, 26, 27, 28, 29, 30, 31, 32, 33, 34, 35, 36, 37, 38, 39, 40, 41, 42, 43, 44, 45, 46, 47, 48] (by decide +kernel) (by decide +kernel)
set_option maxRecDepth 20000 in
theorem gX8_tell_X8_notes : GoodIn wsX8_tell (wsV RX8 131 RX8 yX8_notes wsX8_notes) := goodIn_app (goodIn_of _ (by decide +kernel)) ggX8_tell_X8_notes
set_option maxRecDepth 20000 in
theorem ggX8_tell_X8_puts : GoodIn wsX8_tell wsX8_puts := goodIn_r _ [24, 7, 25, 26, 27, 28, 29, 30, 31, 32, 33, 34, 35, 36, 37, 38, 39, 40, 41, 42, 43, 44, 45, 46, 47, 48] (by decide +kernel) (by decide +kernel)
set_option maxRecDepth 20000 in
theorem gX8_tell_X8_puts : GoodIn wsX8_tell (wsV RX8 115 RX8 yX8_puts wsX8_puts) := goodIn_app (goodIn_of _ (by decide +kernel)) ggX8_tell_X8_puts
theorem dX8_tell_0 : decode cX8_tell 0 = .ok (.aload_n 0, 1) := by decide +kernel
theorem dX8_tell_1 : decode cX8_tell 1 = .ok (.iconst 0, 1) := by decide +kernel
theorem dX8_tell_2 : decode cX8_tell 2 = .ok (.putfield 59, 3) := by decide +kernel
theorem dX8_tell_5 : decode cX8_tell 5 = .ok (.aload_n 0, 1) := by decide +kernel
theorem dX8_tell_6 : decode cX8_tell 6 = .ok (.iload_n 1, 1) := by decide +kernel
theorem dX8_tell_7 : decode cX8_tell 7 = .ok (.invokevirtual 134, 3) := by decide +kernel
theorem dX8_tell_10 : decode cX8_tell 10 = .ok (.ifCond .eq 12, 3) := by decide +kernel
theorem dX8_tell_13 : decode cX8_tell 13 = .ok (.iload_n 2, 1) := by decide +kernel
theorem dX8_tell_14 : decode cX8_tell 14 = .ok (.iconst 0, 1) := by decide +kernel
theorem dX8_tell_15 : decode cX8_tell 15 = .ok (.iconst 2, 1) := by decide +kernel
theorem dX8_tell_16 : decode cX8_tell 16 = .ok (.invokestatic 63, 3) := by decide +kernel
theorem dX8_tell_19 : decode cX8_tell 19 = .ok (.ifCond .ne 5, 3) := by decide +kernel
theorem dX8_tell_22 : decode cX8_tell 22 = .ok (.iconst (-1), 1) := by decide +kernel
theorem dX8_tell_23 : decode cX8_tell 23 = .ok (.ireturn, 1) := by decide +kernel
theorem dX8_tell_24 : decode cX8_tell 24 = .ok (.iload_n 2, 1) := by decide +kernel
theorem dX8_tell_25 : decode cX8_tell 25 = .ok (.iconst 2, 1) := by decide +kernel
theorem dX8_tell_26 : decode cX8_tell 26 = .ok (.if_icmp .ge 9, 3) := by decide +kernel
theorem dX8_tell_29 : decode cX8_tell 29 = .ok (.sipush 1000, 3) := by decide +kernel
theorem dX8_tell_32 : decode cX8_tell 32 = .ok (.goto 4, 3) := by decide +kernel
theorem dX8_tell_35 : decode cX8_tell 35 = .ok (.iconst 0, 1) := by decide +kernel
theorem dX8_tell_36 : decode cX8_tell 36 = .ok (.istore 4, 2) := by decide +kernel
theorem dX8_tell_38 : decode cX8_tell 38 = .ok (.iload_n 2, 1) := by decide +kernel
theorem dX8_tell_39 : decode cX8_tell 39 = .ok (.ifCond .ne 7, 3) := by decide +kernel
theorem dX8_tell_42 : decode cX8_tell 42 = .ok (.iconst 5, 1) := by decide +kernel
theorem dX8_tell_43 : decode cX8_tell 43 = .ok (.goto 14, 3) := by decide +kernel
theorem dX8_tell_46 : decode cX8_tell 46 = .ok (.iload_n 2, 1) := by decide +kernel
theorem dX8_tell_47 : decode cX8_tell 47 = .ok (.iconst 1, 1) := by decide +kernel
theorem dX8_tell_48 : decode cX8_tell 48 = .ok (.if_icmp .ne 8, 3) := by decide +kernel
theorem dX8_tell_51 : decode cX8_tell 51 = .ok (.bipush 7, 2) := by decide +kernel
theorem dX8_tell_53 : decode cX8_tell 53 = .ok (.goto 4, 3) := by decide +kernel
theorem dX8_tell_56 : decode cX8_tell 56 = .ok (.iconst 3, 1) := by decide +kernel
theorem dX8_tell_57 : decode cX8_tell 57 = .ok (.istore 5, 2) := by decide +kernel
theorem dX8_tell_59 : decode cX8_tell 59 = .ok (.iload_n 2, 1) := by decide +kernel
theorem dX8_tell_60 : decode cX8_tell 60 = .ok (.ifCond .ne 16, 3) := by decide +kernel
theorem dX8_tell_63 : decode cX8_tell 63 = .ok (.iload_n 3, 1) := by decide +kernel
theorem dX8_tell_64 : decode cX8_tell 64 = .ok (.sipush 950, 3) := by decide +kernel
theorem dX8_tell_67 : decode cX8_tell 67 = .ok (.sipush 1050, 3) := by decide +kernel
theorem dX8_tell_70 : decode cX8_tell 70 = .ok (.invokestatic 63, 3) := by decide +kernel
theorem dX8_tell_73 : decode cX8_tell 73 = .ok (.goto 28, 3) := by decide +kernel
theorem dX8_tell_76 : decode cX8_tell 76 = .ok (.iload_n 2, 1) := by decide +kernel
theorem dX8_tell_77 : decode cX8_tell 77 = .ok (.iconst 1, 1) := by decide +kernel
theorem dX8_tell_78 : decode cX8_tell 78 = .ok (.if_icmp .ne 16, 3) := by decide +kernel
theorem dX8_tell_81 : decode cX8_tell 81 = .ok (.iload_n 3, 1) := by decide +kernel
theorem dX8_tell_82 : decode cX8_tell 82 = .ok (.sipush 995, 3) := by decide +kernel
theorem dX8_tell_85 : decode cX8_tell 85 = .ok (.sipush 1005, 3) := by decide +kernel
theorem dX8_tell_88 : decode cX8_tell 88 = .ok (.invokestatic 63, 3) := by decide +kernel
theorem dX8_tell_91 : decode cX8_tell 91 = .ok (.goto 10, 3) := by decide +kernel
theorem dX8_tell_94 : decode cX8_tell 94 = .ok (.iload_n 3, 1) := by decide +kernel
theorem dX8_tell_95 : decode cX8_tell 95 = .ok (.iconst 1, 1) := by decide +kernel
theorem dX8_tell_96 : decode cX8_tell 96 = .ok (.bipush 9, 2) := by decide +kernel
theorem dX8_tell_98 : decode cX8_tell 98 = .ok (.invokestatic 63, 3) := by decide +kernel
theorem dX8_tell_101 : decode cX8_tell 101 = .ok (.istore 6, 2) := by decide +kernel
theorem dX8_tell_103 : decode cX8_tell 103 = .ok (.iload 6, 2) := by decide +kernel
theorem dX8_tell_105 : decode cX8_tell 105 = .ok (.ifCond .ne 5, 3) := by decide +kernel
theorem dX8_tell_108 : decode cX8_tell 108 = .ok (.iconst (-1), 1) := by decide +kernel
theorem dX8_tell_109 : decode cX8_tell 109 = .ok (.ireturn, 1) := by decide +kernel
theorem dX8_tell_110 : decode cX8_tell 110 = .ok (.aload_n 0, 1) := by decide +kernel
theorem dX8_tell_111 : decode cX8_tell 111 = .ok (.iload_n 1, 1) := by decide +kernel
theorem dX8_tell_112 : decode cX8_tell 112 = .ok (.iload 5, 2) := by decide +kernel
theorem dX8_tell_114 : decode cX8_tell 114 = .ok (.invokevirtual 106, 3) := by decide +kernel
theorem dX8_tell_117 : decode cX8_tell 117 = .ok (.istore 7, 2) := by decide +kernel
theorem dX8_tell_119 : decode cX8_tell 119 = .ok (.iload 7, 2) := by decide +kernel
theorem dX8_tell_121 : decode cX8_tell 121 = .ok (.iload 4, 2) := by decide +kernel
theorem dX8_tell_123 : decode cX8_tell 123 = .ok (.iadd, 1) := by decide +kernel
theorem dX8_tell_124 : decode cX8_tell 124 = .ok (.iload_n 3, 1) := by decide +kernel
theorem dX8_tell_125 : decode cX8_tell 125 = .ok (.if_icmp .ne 6, 3) := by decide +kernel
theorem dX8_tell_128 : decode cX8_tell 128 = .ok (.bipush (-2), 2) := by decide +kernel
theorem dX8_tell_130 : decode cX8_tell 130 = .ok (.ireturn, 1) := by decide +kernel
theorem dX8_tell_131 : decode cX8_tell 131 = .ok (.aload_n 0, 1) := by decide +kernel
theorem dX8_tell_132 : decode cX8_tell 132 = .ok (.invokevirtual 131, 3) := by decide +kernel
theorem dX8_tell_135 : decode cX8_tell 135 = .ok (.aload_n 0, 1) := by decide +kernel
theorem dX8_tell_136 : decode cX8_tell 136 = .ok (.iload_n 1, 1) := by decide +kernel
theorem dX8_tell_137 : decode cX8_tell 137 = .ok (.iload 5, 2) := by decide +kernel
theorem dX8_tell_139 : decode cX8_tell 139 = .ok (.iload_n 3, 1) := by decide +kernel
theorem dX8_tell_140 : decode cX8_tell 140 = .ok (.iload 4, 2) := by decide +kernel
theorem dX8_tell_142 : decode cX8_tell 142 = .ok (.isub, 1) := by decide +kernel
theorem dX8_tell_143 : decode cX8_tell 143 = .ok (.invokevirtual 115, 3) := by decide +kernel
theorem dX8_tell_146 : decode cX8_tell 146 = .ok (.iload 7, 2) := by decide +kernel
theorem dX8_tell_148 : decode cX8_tell 148 = .ok (.iload 4, 2) := by decide +kernel
theorem dX8_tell_150 : decode cX8_tell 150 = .ok (.iadd, 1) := by decide +kernel
theorem dX8_tell_151 : decode cX8_tell 151 = .ok (.ireturn, 1) := by decide +kernel
set_option maxRecDepth 20000 in
theorem ggX8_stuck_X8_of : GoodIn wsX8_stuck wsX8_of := goodIn_r _ [6, 1, 7, 8, 9, 10, 11, 12, 13, 14, 15, 16, 17, 18, 19, 20, 21, 22, 23, 24, 25, 26, 27, 28, 29, 30] (by decide +kernel) (by decide +kernel)
set_option maxRecDepth 20000 in
theorem gX8_stuck_X8_of : GoodIn wsX8_stuck (wsV RX8 106 RX8 yX8_of wsX8_of) := goodIn_app (goodIn_of _ (by decide +kernel)) ggX8_stuck_X8_of
theorem dX8_stuck_0 : decode cX8_stuck 0 = .ok (.iconst 0, 1) := by decide +kernel
theorem dX8_stuck_1 : decode cX8_stuck 1 = .ok (.istore_n 1, 1) := by decide +kernel
theorem dX8_stuck_2 : decode cX8_stuck 2 = .ok (.iconst 0, 1) := by decide +kernel
theorem dX8_stuck_3 : decode cX8_stuck 3 = .ok (.istore_n 2, 1) := by decide +kernel
theorem dX8_stuck_4 : decode cX8_stuck 4 = .ok (.iload_n 2, 1) := by decide +kernel
theorem dX8_stuck_5 : decode cX8_stuck 5 = .ok (.aload_n 0, 1) := by decide +kernel
theorem dX8_stuck_6 : decode cX8_stuck 6 = .ok (.getfield 13, 3) := by decide +kernel
theorem dX8_stuck_9 : decode cX8_stuck 9 = .ok (.iconst 0, 1) := by decide +kernel
theorem dX8_stuck_10 : decode cX8_stuck 10 = .ok (.iaload, 1) := by decide +kernel
theorem dX8_stuck_11 : decode cX8_stuck 11 = .ok (.if_icmp .ge 19, 3) := by decide +kernel
theorem dX8_stuck_14 : decode cX8_stuck 14 = .ok (.iload_n 1, 1) := by decide +kernel
theorem dX8_stuck_15 : decode cX8_stuck 15 = .ok (.aload_n 0, 1) := by decide +kernel
theorem dX8_stuck_16 : decode cX8_stuck 16 = .ok (.iload_n 2, 1) := by decide +kernel
theorem dX8_stuck_17 : decode cX8_stuck 17 = .ok (.bipush 8, 2) := by decide +kernel
theorem dX8_stuck_19 : decode cX8_stuck 19 = .ok (.invokevirtual 106, 3) := by decide +kernel
theorem dX8_stuck_22 : decode cX8_stuck 22 = .ok (.iadd, 1) := by decide +kernel
theorem dX8_stuck_23 : decode cX8_stuck 23 = .ok (.istore_n 1, 1) := by decide +kernel
theorem dX8_stuck_24 : decode cX8_stuck 24 = .ok (.iinc 2 1, 3) := by decide +kernel
theorem dX8_stuck_27 : decode cX8_stuck 27 = .ok (.goto (-23), 3) := by decide +kernel
theorem dX8_stuck_30 : decode cX8_stuck 30 = .ok (.iload_n 1, 1) := by decide +kernel
theorem dX8_stuck_31 : decode cX8_stuck 31 = .ok (.ireturn, 1) := by decide +kernel
set_option maxRecDepth 20000 in
theorem ggX8_stick_X8_isStage : GoodIn wsX8_stick wsX8_isStage := goodIn_r _ [6, 7, 8, 9, 5, 10, 29, 30, 31, 32, 33, 34, 35, 36, 37, 38, 39, 40, 41, 42, 43, 44, 45, 46, 47, 48, 49, 50, 51, 52] (by decide +kernel) (by decide +kernel)
set_option maxRecDepth 20000 in
theorem gX8_stick_X8_isStage : GoodIn wsX8_stick (wsV RX8 134 RX8 yX8_isStage wsX8_isStage) := goodIn_app (goodIn_of _ (by decide +kernel)) ggX8_stick_X8_isStage
set_option maxRecDepth 20000 in
theorem ggX8_stick_X8_in : GoodIn wsX8_stick wsX8_in := goodIn_r _ [10] (by decide +kernel) (by decide +kernel)
set_option maxRecDepth 20000 in
theorem gX8_stick_X8_in : GoodIn wsX8_stick (va_wsS RX8 63 yX8_in wsX8_in) := goodIn_app (goodIn_of _ (by decide +kernel)) ggX8_stick_X8_in
set_option maxRecDepth 20000 in
theorem ggX8_stick_X8_of : GoodIn wsX8_stick wsX8_of := goodIn_r _ [14, 7, 29, 30, 31, 32, 33, 34, 35, 36, 37, 38, 39, 40, 41, 42, 43, 44, 45, 46, 47, 48, 49, 50, 51, 52] (by decide +kernel) (by decide +kernel)
set_option maxRecDepth 20000 in
theorem gX8_stick_X8_of : GoodIn wsX8_stick (wsV RX8 106 RX8 yX8_of wsX8_of) := goodIn_app (goodIn_of _ (by decide +kernel)) ggX8_stick_X8_of
set_option maxRecDepth 20000 in
theorem ggX8_stick_X8_notes : GoodIn wsX8_stick wsX8_notes := goodIn_r _ [18, 19, 20, 7, 29, 30, 31, 32, 33, 34, 35, 36, 37, 38, 39, 40, 41, 42, 43, 44, 45, 46, 47, 48, 49, 50, 51, 52] (by decide +kernel) (by decide +kernel)
set_option maxRecDepth 20000 in
theorem gX8_stick_X8_notes : GoodIn wsX8_stick (wsV RX8 131 RX8 yX8_notes wsX8_notes) := goodIn_app (goodIn_of _ (by decide +kernel)) ggX8_stick_X8_notes
set_option maxRecDepth 20000 in
theorem ggX8_stick_X8_puts : GoodIn wsX8_stick wsX8_puts := goodIn_r _ [24, 7, 29, 30, 31, 32, 33, 34, 35, 36, 37, 38, 39, 40, 41, 42, 43, 44, 45, 46, 47, 48, 49, 50, 51, 52] (by decide +kernel) (by decide +kernel)
set_option maxRecDepth 20000 in
theorem gX8_stick_X8_puts : GoodIn wsX8_stick (wsV RX8 115 RX8 yX8_puts wsX8_puts) := goodIn_app (goodIn_of _ (by decide +kernel)) ggX8_stick_X8_puts
set_option maxRecDepth 20000 in
theorem ggX8_stick_X8_stuck : GoodIn wsX8_stick wsX8_stuck := goodIn_r _ [28, 7, 11, 12, 13, 5, 14, 29, 30, 31, 32, 33, 34, 35, 36, 37, 38, 39, 40, 41, 42, 43, 44, 45, 46, 47, 48, 49, 50, 51, 52] (by decide +kernel) (by decide +kernel)
set_option maxRecDepth 20000 in
theorem gX8_stick_X8_stuck : GoodIn wsX8_stick (wsV RX8 137 RX8 yX8_stuck wsX8_stuck) := goodIn_app (goodIn_of _ (by decide +kernel)) ggX8_stick_X8_stuck
theorem dX8_stick_0 : decode cX8_stick 0 = .ok (.aload_n 0, 1) := by decide +kernel
theorem dX8_stick_1 : decode cX8_stick 1 = .ok (.iconst 0, 1) := by decide +kernel
theorem dX8_stick_2 : decode cX8_stick 2 = .ok (.putfield 59, 3) := by decide +kernel
theorem dX8_stick_5 : decode cX8_stick 5 = .ok (.aload_n 0, 1) := by decide +kernel
theorem dX8_stick_6 : decode cX8_stick 6 = .ok (.iload_n 1, 1) := by decide +kernel
theorem dX8_stick_7 : decode cX8_stick 7 = .ok (.invokevirtual 134, 3) := by decide +kernel
theorem dX8_stick_10 : decode cX8_stick 10 = .ok (.ifCond .eq 12, 3) := by decide +kernel
theorem dX8_stick_13 : decode cX8_stick 13 = .ok (.iload_n 2, 1) := by decide +kernel
theorem dX8_stick_14 : decode cX8_stick 14 = .ok (.iconst 0, 1) := by decide +kernel
theorem dX8_stick_15 : decode cX8_stick 15 = .ok (.iconst 1, 1) := by decide +kernel
theorem dX8_stick_16 : decode cX8_stick 16 = .ok (.invokestatic 63, 3) := by decide +kernel
theorem dX8_stick_19 : decode cX8_stick 19 = .ok (.ifCond .ne 5, 3) := by decide +kernel
theorem dX8_stick_22 : decode cX8_stick 22 = .ok (.iconst (-1), 1) := by decide +kernel
theorem dX8_stick_23 : decode cX8_stick 23 = .ok (.ireturn, 1) := by decide +kernel
theorem dX8_stick_24 : decode cX8_stick 24 = .ok (.aload_n 0, 1) := by decide +kernel
theorem dX8_stick_25 : decode cX8_stick 25 = .ok (.iload_n 1, 1) := by decide +kernel
theorem dX8_stick_26 : decode cX8_stick 26 = .ok (.bipush 8, 2) := by decide +kernel
theorem dX8_stick_28 : decode cX8_stick 28 = .ok (.invokevirtual 106, 3) := by decide +kernel
theorem dX8_stick_31 : decode cX8_stick 31 = .ok (.iload_n 2, 1) := by decide +kernel
theorem dX8_stick_32 : decode cX8_stick 32 = .ok (.if_icmp .ne 6, 3) := by decide +kernel
theorem dX8_stick_35 : decode cX8_stick 35 = .ok (.bipush (-2), 2) := by decide +kernel
theorem dX8_stick_37 : decode cX8_stick 37 = .ok (.ireturn, 1) := by decide +kernel
theorem dX8_stick_38 : decode cX8_stick 38 = .ok (.aload_n 0, 1) := by decide +kernel
theorem dX8_stick_39 : decode cX8_stick 39 = .ok (.invokevirtual 131, 3) := by decide +kernel
theorem dX8_stick_42 : decode cX8_stick 42 = .ok (.aload_n 0, 1) := by decide +kernel
theorem dX8_stick_43 : decode cX8_stick 43 = .ok (.iload_n 1, 1) := by decide +kernel
theorem dX8_stick_44 : decode cX8_stick 44 = .ok (.bipush 8, 2) := by decide +kernel
theorem dX8_stick_46 : decode cX8_stick 46 = .ok (.iload_n 2, 1) := by decide +kernel
theorem dX8_stick_47 : decode cX8_stick 47 = .ok (.invokevirtual 115, 3) := by decide +kernel
theorem dX8_stick_50 : decode cX8_stick 50 = .ok (.aload_n 0, 1) := by decide +kernel
theorem dX8_stick_51 : decode cX8_stick 51 = .ok (.invokevirtual 137, 3) := by decide +kernel
theorem dX8_stick_54 : decode cX8_stick 54 = .ok (.ireturn, 1) := by decide +kernel
set_option maxRecDepth 20000 in
theorem ggX8_tick_X8_in : GoodIn wsX8_tick wsX8_in := goodIn_r _ [6] (by decide +kernel) (by decide +kernel)
set_option maxRecDepth 20000 in
theorem gX8_tick_X8_in : GoodIn wsX8_tick (va_wsS RX8 63 yX8_in wsX8_in) := goodIn_app (goodIn_of _ (by decide +kernel)) ggX8_tick_X8_in
set_option maxRecDepth 20000 in
theorem ggX8_tick_X8_notes : GoodIn wsX8_tick wsX8_notes := goodIn_r _ [10, 11, 12, 2, 54, 55, 56, 57, 58, 59, 60, 61, 62, 63, 64, 65, 66, 67, 68, 69, 70, 71, 72, 73, 74, 75, 76, 77] (by decide +kernel) (by decide +kernel)
set_option maxRecDepth 20000 in
theorem gX8_tick_X8_notes : GoodIn wsX8_tick (wsV RX8 131 RX8 yX8_notes wsX8_notes) := goodIn_app (goodIn_of _ (by decide +kernel)) ggX8_tick_X8_notes
set_option maxRecDepth 20000 in
theorem ggX8_tick_X8_ticks : GoodIn wsX8_tick wsX8_ticks := goodIn_r _ [16, 2, 17, 18, 19, 20, 21, 22, 5, 23, 24, 25, 26, 27, 28, 29, 30, 31, 32, 33, 34, 35, 36, 37, 3, 4, 6, 38, 39, 40, 41, 42, 43, 44, 45, 46, 47, 48, 49, 50, 51, 52, 53, 54, 55, 56, 57, 58, 59, 60, 61, 62, 63, 64, 65, 66, 67, 68, 69, 70, 71, 72, 73, 74, 75, 76, 77] (by decide +kernel) (by decide +kernel)
set_option maxRecDepth 20000 in
theorem gX8_tick_X8_ticks : GoodIn wsX8_tick (wsV RX8 140 RX8 yX8_ticks wsX8_ticks) := goodIn_app (goodIn_of _ (by decide +kernel)) ggX8_tick_X8_ticks
theorem dX8_tick_0 : decode cX8_tick 0 = .ok (.aload_n 0, 1) := by decide +kernel
theorem dX8_tick_1 : decode cX8_tick 1 = .ok (.iconst 0, 1) := by decide +kernel
theorem dX8_tick_2 : decode cX8_tick 2 = .ok (.putfield 59, 3) := by decide +kernel
theorem dX8_tick_5 : decode cX8_tick 5 = .ok (.iload_n 1, 1) := by decide +kernel
theorem dX8_tick_6 : decode cX8_tick 6 = .ok (.iconst 1, 1) := by decide +kernel
theorem dX8_tick_7 : decode cX8_tick 7 = .ok (.bipush 50, 2) := by decide +kernel
theorem dX8_tick_9 : decode cX8_tick 9 = .ok (.invokestatic 63, 3) := by decide +kernel
theorem dX8_tick_12 : decode cX8_tick 12 = .ok (.ifCond .ne 5, 3) := by decide +kernel
theorem dX8_tick_15 : decode cX8_tick 15 = .ok (.iconst (-1), 1) := by decide +kernel
theorem dX8_tick_16 : decode cX8_tick 16 = .ok (.ireturn, 1) := by decide +kernel
theorem dX8_tick_17 : decode cX8_tick 17 = .ok (.aload_n 0, 1) := by decide +kernel
theorem dX8_tick_18 : decode cX8_tick 18 = .ok (.getfield 13, 3) := by decide +kernel
theorem dX8_tick_21 : decode cX8_tick 21 = .ok (.iconst 2, 1) := by decide +kernel
theorem dX8_tick_22 : decode cX8_tick 22 = .ok (.iaload, 1) := by decide +kernel
theorem dX8_tick_23 : decode cX8_tick 23 = .ok (.iload_n 1, 1) := by decide +kernel
theorem dX8_tick_24 : decode cX8_tick 24 = .ok (.iadd, 1) := by decide +kernel
theorem dX8_tick_25 : decode cX8_tick 25 = .ok (.sipush 9999, 3) := by decide +kernel
theorem dX8_tick_28 : decode cX8_tick 28 = .ok (.if_icmp .le 6, 3) := by decide +kernel
theorem dX8_tick_31 : decode cX8_tick 31 = .ok (.bipush (-2), 2) := by decide +kernel
theorem dX8_tick_33 : decode cX8_tick 33 = .ok (.ireturn, 1) := by decide +kernel
theorem dX8_tick_34 : decode cX8_tick 34 = .ok (.aload_n 0, 1) := by decide +kernel
theorem dX8_tick_35 : decode cX8_tick 35 = .ok (.invokevirtual 131, 3) := by decide +kernel
theorem dX8_tick_38 : decode cX8_tick 38 = .ok (.aload_n 0, 1) := by decide +kernel
theorem dX8_tick_39 : decode cX8_tick 39 = .ok (.getfield 13, 3) := by decide +kernel
theorem dX8_tick_42 : decode cX8_tick 42 = .ok (.iconst 3, 1) := by decide +kernel
theorem dX8_tick_43 : decode cX8_tick 43 = .ok (.iaload, 1) := by decide +kernel
theorem dX8_tick_44 : decode cX8_tick 44 = .ok (.istore_n 2, 1) := by decide +kernel
theorem dX8_tick_45 : decode cX8_tick 45 = .ok (.iconst 0, 1) := by decide +kernel
theorem dX8_tick_46 : decode cX8_tick 46 = .ok (.istore_n 3, 1) := by decide +kernel
theorem dX8_tick_47 : decode cX8_tick 47 = .ok (.iload_n 3, 1) := by decide +kernel
theorem dX8_tick_48 : decode cX8_tick 48 = .ok (.iload_n 1, 1) := by decide +kernel
theorem dX8_tick_49 : decode cX8_tick 49 = .ok (.if_icmp .ge 13, 3) := by decide +kernel
theorem dX8_tick_52 : decode cX8_tick 52 = .ok (.aload_n 0, 1) := by decide +kernel
theorem dX8_tick_53 : decode cX8_tick 53 = .ok (.invokevirtual 140, 3) := by decide +kernel
theorem dX8_tick_56 : decode cX8_tick 56 = .ok (.iinc 3 1, 3) := by decide +kernel
theorem dX8_tick_59 : decode cX8_tick 59 = .ok (.goto (-12), 3) := by decide +kernel
theorem dX8_tick_62 : decode cX8_tick 62 = .ok (.aload_n 0, 1) := by decide +kernel
theorem dX8_tick_63 : decode cX8_tick 63 = .ok (.getfield 13, 3) := by decide +kernel
theorem dX8_tick_66 : decode cX8_tick 66 = .ok (.iconst 3, 1) := by decide +kernel
theorem dX8_tick_67 : decode cX8_tick 67 = .ok (.iaload, 1) := by decide +kernel
theorem dX8_tick_68 : decode cX8_tick 68 = .ok (.iload_n 2, 1) := by decide +kernel
theorem dX8_tick_69 : decode cX8_tick 69 = .ok (.isub, 1) := by decide +kernel
theorem dX8_tick_70 : decode cX8_tick 70 = .ok (.ireturn, 1) := by decide +kernel
theorem dX8_undo_0 : decode cX8_undo 0 = .ok (.aload_n 0, 1) := by decide +kernel
theorem dX8_undo_1 : decode cX8_undo 1 = .ok (.iconst 0, 1) := by decide +kernel
theorem dX8_undo_2 : decode cX8_undo 2 = .ok (.putfield 59, 3) := by decide +kernel
theorem dX8_undo_5 : decode cX8_undo 5 = .ok (.aload_n 0, 1) := by decide +kernel
theorem dX8_undo_6 : decode cX8_undo 6 = .ok (.getfield 103, 3) := by decide +kernel
theorem dX8_undo_9 : decode cX8_undo 9 = .ok (.ifCond .ne 6, 3) := by decide +kernel
theorem dX8_undo_12 : decode cX8_undo 12 = .ok (.bipush (-2), 2) := by decide +kernel
theorem dX8_undo_14 : decode cX8_undo 14 = .ok (.ireturn, 1) := by decide +kernel
theorem dX8_undo_15 : decode cX8_undo 15 = .ok (.aload_n 0, 1) := by decide +kernel
theorem dX8_undo_16 : decode cX8_undo 16 = .ok (.dup, 1) := by decide +kernel
theorem dX8_undo_17 : decode cX8_undo 17 = .ok (.getfield 103, 3) := by decide +kernel
theorem dX8_undo_20 : decode cX8_undo 20 = .ok (.iconst 1, 1) := by decide +kernel
theorem dX8_undo_21 : decode cX8_undo 21 = .ok (.isub, 1) := by decide +kernel
theorem dX8_undo_22 : decode cX8_undo 22 = .ok (.putfield 103, 3) := by decide +kernel
theorem dX8_undo_25 : decode cX8_undo 25 = .ok (.iconst 0, 1) := by decide +kernel
theorem dX8_undo_26 : decode cX8_undo 26 = .ok (.istore_n 1, 1) := by decide +kernel
theorem dX8_undo_27 : decode cX8_undo 27 = .ok (.iload_n 1, 1) := by decide +kernel
theorem dX8_undo_28 : decode cX8_undo 28 = .ok (.bipush 114, 2) := by decide +kernel
theorem dX8_undo_30 : decode cX8_undo 30 = .ok (.if_icmp .ge 29, 3) := by decide +kernel
theorem dX8_undo_33 : decode cX8_undo 33 = .ok (.aload_n 0, 1) := by decide +kernel
theorem dX8_undo_34 : decode cX8_undo 34 = .ok (.getfield 13, 3) := by decide +kernel
theorem dX8_undo_37 : decode cX8_undo 37 = .ok (.iload_n 1, 1) := by decide +kernel
theorem dX8_undo_38 : decode cX8_undo 38 = .ok (.aload_n 0, 1) := by decide +kernel
theorem dX8_undo_39 : decode cX8_undo 39 = .ok (.getfield 20, 3) := by decide +kernel
theorem dX8_undo_42 : decode cX8_undo 42 = .ok (.bipush 114, 2) := by decide +kernel
theorem dX8_undo_44 : decode cX8_undo 44 = .ok (.aload_n 0, 1) := by decide +kernel
theorem dX8_undo_45 : decode cX8_undo 45 = .ok (.getfield 103, 3) := by decide +kernel
theorem dX8_undo_48 : decode cX8_undo 48 = .ok (.imul, 1) := by decide +kernel
theorem dX8_undo_49 : decode cX8_undo 49 = .ok (.iload_n 1, 1) := by decide +kernel
theorem dX8_undo_50 : decode cX8_undo 50 = .ok (.iadd, 1) := by decide +kernel
theorem dX8_undo_51 : decode cX8_undo 51 = .ok (.iaload, 1) := by decide +kernel
theorem dX8_undo_52 : decode cX8_undo 52 = .ok (.iastore, 1) := by decide +kernel
theorem dX8_undo_53 : decode cX8_undo 53 = .ok (.iinc 1 1, 3) := by decide +kernel
theorem dX8_undo_56 : decode cX8_undo 56 = .ok (.goto (-29), 3) := by decide +kernel
theorem dX8_undo_59 : decode cX8_undo 59 = .ok (.aload_n 0, 1) := by decide +kernel
theorem dX8_undo_60 : decode cX8_undo 60 = .ok (.getfield 103, 3) := by decide +kernel
theorem dX8_undo_63 : decode cX8_undo 63 = .ok (.ireturn, 1) := by decide +kernel
set_option maxRecDepth 20000 in
theorem ggX8_stage_X8_isStage : GoodIn wsX8_stage wsX8_isStage := goodIn_r _ [11, 12, 13, 14, 10, 15, 31, 32, 33, 34, 35, 36, 37, 38, 39, 40, 41, 42, 43, 44, 45, 46, 47, 48, 49, 50, 51, 52, 53, 54] (by decide +kernel) (by decide +kernel)
set_option maxRecDepth 20000 in
theorem gX8_stage_X8_isStage : GoodIn wsX8_stage (wsV RX8 134 RX8 yX8_isStage wsX8_isStage) := goodIn_app (goodIn_of _ (by decide +kernel)) ggX8_stage_X8_isStage
set_option maxRecDepth 20000 in
theorem ggX8_stage_X8_in : GoodIn wsX8_stage wsX8_in := goodIn_r _ [15] (by decide +kernel) (by decide +kernel)
set_option maxRecDepth 20000 in
theorem gX8_stage_X8_in : GoodIn wsX8_stage (va_wsS RX8 63 yX8_in wsX8_in) := goodIn_app (goodIn_of _ (by decide +kernel)) ggX8_stage_X8_in
set_option maxRecDepth 20000 in
theorem ggX8_stage_X8_lays : GoodIn wsX8_stage wsX8_lays := goodIn_r _ [19, 12, 2, 3, 4, 5, 6, 20, 21, 22, 10, 23, 24, 25, 26, 27, 28, 29, 30, 13, 14, 15, 31, 32, 33, 34, 35, 36, 37, 38, 39, 40, 41, 42, 43, 44, 45, 46, 47, 48, 49, 50, 51, 52, 53, 54] (by decide +kernel) (by decide +kernel)
set_option maxRecDepth 20000 in
theorem gX8_stage_X8_lays : GoodIn wsX8_stage (wsV RX8 119 RX8 yX8_lays wsX8_lays) := goodIn_app (goodIn_of _ (by decide +kernel)) ggX8_stage_X8_lays
set_option maxRecDepth 20000 in
theorem ggX8_stage_X8_of : GoodIn wsX8_stage wsX8_of := goodIn_r _ [23, 12, 31, 32, 33, 34, 35, 36, 37, 38, 39, 40, 41, 42, 43, 44, 45, 46, 47, 48, 49, 50, 51, 52, 53, 54] (by decide +kernel) (by decide +kernel)
set_option maxRecDepth 20000 in
theorem gX8_stage_X8_of : GoodIn wsX8_stage (wsV RX8 106 RX8 yX8_of wsX8_of) := goodIn_app (goodIn_of _ (by decide +kernel)) ggX8_stage_X8_of
set_option maxRecDepth 20000 in
theorem ggX8_stage_X8_goodOf : GoodIn wsX8_stage wsX8_goodOf := goodIn_r _ [27, 4, 20, 21, 22, 10, 23, 12, 31, 32, 33, 34, 35, 36, 37, 38, 39, 40, 41, 42, 43, 44, 45, 46, 47, 48, 49, 50, 51, 52, 53, 54] (by decide +kernel) (by decide +kernel)
set_option maxRecDepth 20000 in
theorem gX8_stage_X8_goodOf : GoodIn wsX8_stage (wsV RX8 109 RX8 yX8_goodOf wsX8_goodOf) := goodIn_app (goodIn_of _ (by decide +kernel)) ggX8_stage_X8_goodOf
theorem dX8_stage_0 : decode cX8_stage 0 = .ok (.aload_n 0, 1) := by decide +kernel
theorem dX8_stage_1 : decode cX8_stage 1 = .ok (.iconst 0, 1) := by decide +kernel
theorem dX8_stage_2 : decode cX8_stage 2 = .ok (.putfield 59, 3) := by decide +kernel
theorem dX8_stage_5 : decode cX8_stage 5 = .ok (.aload_n 0, 1) := by decide +kernel
theorem dX8_stage_6 : decode cX8_stage 6 = .ok (.iload_n 1, 1) := by decide +kernel
theorem dX8_stage_7 : decode cX8_stage 7 = .ok (.invokevirtual 134, 3) := by decide +kernel
theorem dX8_stage_10 : decode cX8_stage 10 = .ok (.ifCond .eq 13, 3) := by decide +kernel
theorem dX8_stage_13 : decode cX8_stage 13 = .ok (.iload_n 2, 1) := by decide +kernel
theorem dX8_stage_14 : decode cX8_stage 14 = .ok (.iconst 0, 1) := by decide +kernel
theorem dX8_stage_15 : decode cX8_stage 15 = .ok (.bipush 15, 2) := by decide +kernel
theorem dX8_stage_17 : decode cX8_stage 17 = .ok (.invokestatic 63, 3) := by decide +kernel
theorem dX8_stage_20 : decode cX8_stage 20 = .ok (.ifCond .ne 5, 3) := by decide +kernel
theorem dX8_stage_23 : decode cX8_stage 23 = .ok (.iconst (-1), 1) := by decide +kernel
theorem dX8_stage_24 : decode cX8_stage 24 = .ok (.ireturn, 1) := by decide +kernel
theorem dX8_stage_25 : decode cX8_stage 25 = .ok (.aload_n 0, 1) := by decide +kernel
theorem dX8_stage_26 : decode cX8_stage 26 = .ok (.invokevirtual 119, 3) := by decide +kernel
theorem dX8_stage_29 : decode cX8_stage 29 = .ok (.iload_n 2, 1) := by decide +kernel
theorem dX8_stage_30 : decode cX8_stage 30 = .ok (.tableswitch 138 5 15 #[58, 138, 58, 138, 69, 80, 91, 102, 108, 115, 123], 58) := by decide +kernel
theorem dX8_stage_88 : decode cX8_stage 88 = .ok (.aload_n 0, 1) := by decide +kernel
theorem dX8_stage_89 : decode cX8_stage 89 = .ok (.iload_n 1, 1) := by decide +kernel
theorem dX8_stage_90 : decode cX8_stage 90 = .ok (.iload_n 2, 1) := by decide +kernel
theorem dX8_stage_91 : decode cX8_stage 91 = .ok (.invokevirtual 106, 3) := by decide +kernel
theorem dX8_stage_94 : decode cX8_stage 94 = .ok (.sipush 1000, 3) := by decide +kernel
theorem dX8_stage_97 : decode cX8_stage 97 = .ok (.iadd, 1) := by decide +kernel
theorem dX8_stage_98 : decode cX8_stage 98 = .ok (.ireturn, 1) := by decide +kernel
theorem dX8_stage_99 : decode cX8_stage 99 = .ok (.aload_n 0, 1) := by decide +kernel
theorem dX8_stage_100 : decode cX8_stage 100 = .ok (.getfield 23, 3) := by decide +kernel
theorem dX8_stage_103 : decode cX8_stage 103 = .ok (.iload_n 1, 1) := by decide +kernel
theorem dX8_stage_104 : decode cX8_stage 104 = .ok (.iaload, 1) := by decide +kernel
theorem dX8_stage_105 : decode cX8_stage 105 = .ok (.sipush 1000, 3) := by decide +kernel
theorem dX8_stage_108 : decode cX8_stage 108 = .ok (.iadd, 1) := by decide +kernel
theorem dX8_stage_109 : decode cX8_stage 109 = .ok (.ireturn, 1) := by decide +kernel
theorem dX8_stage_110 : decode cX8_stage 110 = .ok (.aload_n 0, 1) := by decide +kernel
theorem dX8_stage_111 : decode cX8_stage 111 = .ok (.getfield 26, 3) := by decide +kernel
theorem dX8_stage_114 : decode cX8_stage 114 = .ok (.iload_n 1, 1) := by decide +kernel
theorem dX8_stage_115 : decode cX8_stage 115 = .ok (.iaload, 1) := by decide +kernel
theorem dX8_stage_116 : decode cX8_stage 116 = .ok (.sipush 1000, 3) := by decide +kernel
theorem dX8_stage_119 : decode cX8_stage 119 = .ok (.iadd, 1) := by decide +kernel
theorem dX8_stage_120 : decode cX8_stage 120 = .ok (.ireturn, 1) := by decide +kernel
theorem dX8_stage_121 : decode cX8_stage 121 = .ok (.aload_n 0, 1) := by decide +kernel
theorem dX8_stage_122 : decode cX8_stage 122 = .ok (.getfield 29, 3) := by decide +kernel
theorem dX8_stage_125 : decode cX8_stage 125 = .ok (.iload_n 1, 1) := by decide +kernel
theorem dX8_stage_126 : decode cX8_stage 126 = .ok (.iaload, 1) := by decide +kernel
theorem dX8_stage_127 : decode cX8_stage 127 = .ok (.sipush 1000, 3) := by decide +kernel
theorem dX8_stage_130 : decode cX8_stage 130 = .ok (.iadd, 1) := by decide +kernel
theorem dX8_stage_131 : decode cX8_stage 131 = .ok (.ireturn, 1) := by decide +kernel
theorem dX8_stage_132 : decode cX8_stage 132 = .ok (.aload_n 0, 1) := by decide +kernel
theorem dX8_stage_133 : decode cX8_stage 133 = .ok (.iload_n 1, 1) := by decide +kernel
theorem dX8_stage_134 : decode cX8_stage 134 = .ok (.invokevirtual 109, 3) := by decide +kernel
theorem dX8_stage_137 : decode cX8_stage 137 = .ok (.ireturn, 1) := by decide +kernel
theorem dX8_stage_138 : decode cX8_stage 138 = .ok (.aload_n 0, 1) := by decide +kernel
theorem dX8_stage_139 : decode cX8_stage 139 = .ok (.getfield 32, 3) := by decide +kernel
theorem dX8_stage_142 : decode cX8_stage 142 = .ok (.iload_n 1, 1) := by decide +kernel
theorem dX8_stage_143 : decode cX8_stage 143 = .ok (.iaload, 1) := by decide +kernel
theorem dX8_stage_144 : decode cX8_stage 144 = .ok (.ireturn, 1) := by decide +kernel
theorem dX8_stage_145 : decode cX8_stage 145 = .ok (.aload_n 0, 1) := by decide +kernel
theorem dX8_stage_146 : decode cX8_stage 146 = .ok (.iload_n 1, 1) := by decide +kernel
theorem dX8_stage_147 : decode cX8_stage 147 = .ok (.bipush 9, 2) := by decide +kernel
theorem dX8_stage_149 : decode cX8_stage 149 = .ok (.invokevirtual 106, 3) := by decide +kernel
theorem dX8_stage_152 : decode cX8_stage 152 = .ok (.ireturn, 1) := by decide +kernel
theorem dX8_stage_153 : decode cX8_stage 153 = .ok (.aload_n 0, 1) := by decide +kernel
theorem dX8_stage_154 : decode cX8_stage 154 = .ok (.getfield 35, 3) := by decide +kernel
theorem dX8_stage_157 : decode cX8_stage 157 = .ok (.iload_n 1, 1) := by decide +kernel
theorem dX8_stage_158 : decode cX8_stage 158 = .ok (.baload, 1) := by decide +kernel
theorem dX8_stage_159 : decode cX8_stage 159 = .ok (.ifCond .eq 7, 3) := by decide +kernel
theorem dX8_stage_162 : decode cX8_stage 162 = .ok (.iconst 1, 1) := by decide +kernel
theorem dX8_stage_163 : decode cX8_stage 163 = .ok (.goto 4, 3) := by decide +kernel
theorem dX8_stage_166 : decode cX8_stage 166 = .ok (.iconst 0, 1) := by decide +kernel
theorem dX8_stage_167 : decode cX8_stage 167 = .ok (.ireturn, 1) := by decide +kernel
theorem dX8_stage_168 : decode cX8_stage 168 = .ok (.aload_n 0, 1) := by decide +kernel
theorem dX8_stage_169 : decode cX8_stage 169 = .ok (.iload_n 1, 1) := by decide +kernel
theorem dX8_stage_170 : decode cX8_stage 170 = .ok (.iload_n 2, 1) := by decide +kernel
theorem dX8_stage_171 : decode cX8_stage 171 = .ok (.invokevirtual 106, 3) := by decide +kernel
theorem dX8_stage_174 : decode cX8_stage 174 = .ok (.ireturn, 1) := by decide +kernel
set_option maxRecDepth 20000 in
theorem ggX8_done_X8_in : GoodIn wsX8_done wsX8_in := goodIn_r _ [6] (by decide +kernel) (by decide +kernel)
set_option maxRecDepth 20000 in
theorem gX8_done_X8_in : GoodIn wsX8_done (va_wsS RX8 63 yX8_in wsX8_in) := goodIn_app (goodIn_of _ (by decide +kernel)) ggX8_done_X8_in
theorem dX8_done_0 : decode cX8_done 0 = .ok (.aload_n 0, 1) := by decide +kernel
theorem dX8_done_1 : decode cX8_done 1 = .ok (.iconst 0, 1) := by decide +kernel
theorem dX8_done_2 : decode cX8_done 2 = .ok (.putfield 59, 3) := by decide +kernel
theorem dX8_done_5 : decode cX8_done 5 = .ok (.iload_n 1, 1) := by decide +kernel
theorem dX8_done_6 : decode cX8_done 6 = .ok (.ifCond .lt 12, 3) := by decide +kernel
theorem dX8_done_9 : decode cX8_done 9 = .ok (.iload_n 2, 1) := by decide +kernel
theorem dX8_done_10 : decode cX8_done 10 = .ok (.iconst 0, 1) := by decide +kernel
theorem dX8_done_11 : decode cX8_done 11 = .ok (.iconst 2, 1) := by decide +kernel
theorem dX8_done_12 : decode cX8_done 12 = .ok (.invokestatic 63, 3) := by decide +kernel
theorem dX8_done_15 : decode cX8_done 15 = .ok (.ifCond .ne 5, 3) := by decide +kernel
theorem dX8_done_18 : decode cX8_done 18 = .ok (.iconst (-1), 1) := by decide +kernel
theorem dX8_done_19 : decode cX8_done 19 = .ok (.ireturn, 1) := by decide +kernel
theorem dX8_done_20 : decode cX8_done 20 = .ok (.iload_n 1, 1) := by decide +kernel
theorem dX8_done_21 : decode cX8_done 21 = .ok (.aload_n 0, 1) := by decide +kernel
theorem dX8_done_22 : decode cX8_done 22 = .ok (.getfield 13, 3) := by decide +kernel
theorem dX8_done_25 : decode cX8_done 25 = .ok (.iconst 5, 1) := by decide +kernel
theorem dX8_done_26 : decode cX8_done 26 = .ok (.iaload, 1) := by decide +kernel
theorem dX8_done_27 : decode cX8_done 27 = .ok (.if_icmp .ge 28, 3) := by decide +kernel
theorem dX8_done_30 : decode cX8_done 30 = .ok (.aload_n 0, 1) := by decide +kernel
theorem dX8_done_31 : decode cX8_done 31 = .ok (.getfield 13, 3) := by decide +kernel
theorem dX8_done_34 : decode cX8_done 34 = .ok (.bipush 54, 2) := by decide +kernel
theorem dX8_done_36 : decode cX8_done 36 = .ok (.iconst 3, 1) := by decide +kernel
theorem dX8_done_37 : decode cX8_done 37 = .ok (.aload_n 0, 1) := by decide +kernel
theorem dX8_done_38 : decode cX8_done 38 = .ok (.getfield 13, 3) := by decide +kernel
theorem dX8_done_41 : decode cX8_done 41 = .ok (.iconst 5, 1) := by decide +kernel
theorem dX8_done_42 : decode cX8_done 42 = .ok (.iaload, 1) := by decide +kernel
theorem dX8_done_43 : decode cX8_done 43 = .ok (.iconst 1, 1) := by decide +kernel
theorem dX8_done_44 : decode cX8_done 44 = .ok (.isub, 1) := by decide +kernel
theorem dX8_done_45 : decode cX8_done 45 = .ok (.iload_n 1, 1) := by decide +kernel
theorem dX8_done_46 : decode cX8_done 46 = .ok (.isub, 1) := by decide +kernel
theorem dX8_done_47 : decode cX8_done 47 = .ok (.imul, 1) := by decide +kernel
theorem dX8_done_48 : decode cX8_done 48 = .ok (.iadd, 1) := by decide +kernel
theorem dX8_done_49 : decode cX8_done 49 = .ok (.iload_n 2, 1) := by decide +kernel
theorem dX8_done_50 : decode cX8_done 50 = .ok (.iadd, 1) := by decide +kernel
theorem dX8_done_51 : decode cX8_done 51 = .ok (.iaload, 1) := by decide +kernel
theorem dX8_done_52 : decode cX8_done 52 = .ok (.goto 5, 3) := by decide +kernel
theorem dX8_done_55 : decode cX8_done 55 = .ok (.bipush (-4), 2) := by decide +kernel
theorem dX8_done_57 : decode cX8_done 57 = .ok (.ireturn, 1) := by decide +kernel
set_option maxRecDepth 20000 in
theorem ggX8_codeOf_X8_of : GoodIn wsX8_codeOf wsX8_of := goodIn_r _ [7, 1, 8, 9, 10, 11, 12, 13, 14, 15, 16, 17, 18, 19, 20, 21, 22, 23, 24, 25, 26, 27, 28, 29, 30, 31] (by decide +kernel) (by decide +kernel)
set_option maxRecDepth 20000 in
theorem gX8_codeOf_X8_of : GoodIn wsX8_codeOf (wsV RX8 106 RX8 yX8_of wsX8_of) := goodIn_app (goodIn_of _ (by decide +kernel)) ggX8_codeOf_X8_of
theorem dX8_codeOf_0 : decode cX8_codeOf 0 = .ok (.lconst 0, 1) := by decide +kernel
theorem dX8_codeOf_1 : decode cX8_codeOf 1 = .ok (.lstore_n 1, 1) := by decide +kernel
theorem dX8_codeOf_2 : decode cX8_codeOf 2 = .ok (.iconst 0, 1) := by decide +kernel
theorem dX8_codeOf_3 : decode cX8_codeOf 3 = .ok (.istore_n 3, 1) := by decide +kernel
theorem dX8_codeOf_4 : decode cX8_codeOf 4 = .ok (.iload_n 3, 1) := by decide +kernel
theorem dX8_codeOf_5 : decode cX8_codeOf 5 = .ok (.aload_n 0, 1) := by decide +kernel
theorem dX8_codeOf_6 : decode cX8_codeOf 6 = .ok (.getfield 13, 3) := by decide +kernel
theorem dX8_codeOf_9 : decode cX8_codeOf 9 = .ok (.iconst 0, 1) := by decide +kernel
theorem dX8_codeOf_10 : decode cX8_codeOf 10 = .ok (.iaload, 1) := by decide +kernel
theorem dX8_codeOf_11 : decode cX8_codeOf 11 = .ok (.if_icmp .ge 49, 3) := by decide +kernel
theorem dX8_codeOf_14 : decode cX8_codeOf 14 = .ok (.lload_n 1, 1) := by decide +kernel
theorem dX8_codeOf_15 : decode cX8_codeOf 15 = .ok (.ldc2_w 143, 3) := by decide +kernel
theorem dX8_codeOf_18 : decode cX8_codeOf 18 = .ok (.lmul, 1) := by decide +kernel
theorem dX8_codeOf_19 : decode cX8_codeOf 19 = .ok (.aload_n 0, 1) := by decide +kernel
theorem dX8_codeOf_20 : decode cX8_codeOf 20 = .ok (.iload_n 3, 1) := by decide +kernel
theorem dX8_codeOf_21 : decode cX8_codeOf 21 = .ok (.bipush 7, 2) := by decide +kernel
theorem dX8_codeOf_23 : decode cX8_codeOf 23 = .ok (.invokevirtual 106, 3) := by decide +kernel
theorem dX8_codeOf_26 : decode cX8_codeOf 26 = .ok (.iconst 5, 1) := by decide +kernel
theorem dX8_codeOf_27 : decode cX8_codeOf 27 = .ok (.iadd, 1) := by decide +kernel
theorem dX8_codeOf_28 : decode cX8_codeOf 28 = .ok (.bipush 64, 2) := by decide +kernel
theorem dX8_codeOf_30 : decode cX8_codeOf 30 = .ok (.imul, 1) := by decide +kernel
theorem dX8_codeOf_31 : decode cX8_codeOf 31 = .ok (.i2l, 1) := by decide +kernel
theorem dX8_codeOf_32 : decode cX8_codeOf 32 = .ok (.ladd, 1) := by decide +kernel
theorem dX8_codeOf_33 : decode cX8_codeOf 33 = .ok (.aload_n 0, 1) := by decide +kernel
theorem dX8_codeOf_34 : decode cX8_codeOf 34 = .ok (.iload_n 3, 1) := by decide +kernel
theorem dX8_codeOf_35 : decode cX8_codeOf 35 = .ok (.bipush 9, 2) := by decide +kernel
theorem dX8_codeOf_37 : decode cX8_codeOf 37 = .ok (.invokevirtual 106, 3) := by decide +kernel
theorem dX8_codeOf_40 : decode cX8_codeOf 40 = .ok (.iconst 4, 1) := by decide +kernel
theorem dX8_codeOf_41 : decode cX8_codeOf 41 = .ok (.imul, 1) := by decide +kernel
theorem dX8_codeOf_42 : decode cX8_codeOf 42 = .ok (.i2l, 1) := by decide +kernel
theorem dX8_codeOf_43 : decode cX8_codeOf 43 = .ok (.ladd, 1) := by decide +kernel
theorem dX8_codeOf_44 : decode cX8_codeOf 44 = .ok (.aload_n 0, 1) := by decide +kernel
theorem dX8_codeOf_45 : decode cX8_codeOf 45 = .ok (.iload_n 3, 1) := by decide +kernel
theorem dX8_codeOf_46 : decode cX8_codeOf 46 = .ok (.bipush 10, 2) := by decide +kernel
theorem dX8_codeOf_48 : decode cX8_codeOf 48 = .ok (.invokevirtual 106, 3) := by decide +kernel
theorem dX8_codeOf_51 : decode cX8_codeOf 51 = .ok (.i2l, 1) := by decide +kernel
theorem dX8_codeOf_52 : decode cX8_codeOf 52 = .ok (.ladd, 1) := by decide +kernel
theorem dX8_codeOf_53 : decode cX8_codeOf 53 = .ok (.lstore_n 1, 1) := by decide +kernel
theorem dX8_codeOf_54 : decode cX8_codeOf 54 = .ok (.iinc 3 1, 3) := by decide +kernel
theorem dX8_codeOf_57 : decode cX8_codeOf 57 = .ok (.goto (-53), 3) := by decide +kernel
theorem dX8_codeOf_60 : decode cX8_codeOf 60 = .ok (.lload_n 1, 1) := by decide +kernel
theorem dX8_codeOf_61 : decode cX8_codeOf 61 = .ok (.lreturn, 1) := by decide +kernel
set_option maxRecDepth 20000 in
theorem ggX8_settles_X8_lays : GoodIn wsX8_settles wsX8_lays := goodIn_r _ [13, 6, 14, 15, 16, 17, 18, 19, 20, 21, 12, 22, 23, 24, 25, 26, 27, 28, 29, 30, 31, 32, 63, 64, 65, 66, 67, 68, 69, 70, 71, 72, 73, 74, 75, 76, 77, 78, 79, 80, 81, 82, 83, 84, 85, 86] (by decide +kernel) (by decide +kernel)
set_option maxRecDepth 20000 in
theorem gX8_settles_X8_lays : GoodIn wsX8_settles (wsV RX8 119 RX8 yX8_lays wsX8_lays) := goodIn_app (goodIn_of _ (by decide +kernel)) ggX8_settles_X8_lays
set_option maxRecDepth 20000 in
theorem ggX8_settles_X8_isQuiet : GoodIn wsX8_settles wsX8_isQuiet := goodIn_r _ [36, 6, 18, 63, 64, 65, 66, 67, 68, 69, 70, 71, 72, 73, 74, 75, 76, 77, 78, 79, 80, 81, 82, 83, 84, 85, 86] (by decide +kernel) (by decide +kernel)
set_option maxRecDepth 20000 in
theorem gX8_settles_X8_isQuiet : GoodIn wsX8_settles (wsV RX8 157 RX8 yX8_isQuiet wsX8_isQuiet) := goodIn_app (goodIn_of _ (by decide +kernel)) ggX8_settles_X8_isQuiet
set_option maxRecDepth 20000 in
theorem ggX8_settles_X8_codeOf : GoodIn wsX8_settles wsX8_codeOf := goodIn_r _ [40, 6, 41, 19, 20, 21, 12, 22, 63, 64, 65, 66, 67, 68, 69, 70, 71, 72, 73, 74, 75, 76, 77, 78, 79, 80, 81, 82, 83, 84, 85, 86] (by decide +kernel) (by decide +kernel)
set_option maxRecDepth 20000 in
theorem gX8_settles_X8_codeOf : GoodIn wsX8_settles (wsV RX8 161 RX8 yX8_codeOf wsX8_codeOf) := goodIn_app (goodIn_of _ (by decide +kernel)) ggX8_settles_X8_codeOf
set_option maxRecDepth 20000 in
theorem ggX8_settles_X8_ticks : GoodIn wsX8_settles wsX8_ticks := goodIn_r _ [45, 6, 46, 18, 17, 9, 10, 11, 12, 13, 14, 15, 16, 19, 20, 21, 22, 23, 24, 25, 26, 27, 28, 29, 30, 31, 32, 47, 48, 49, 50, 51, 52, 53, 54, 55, 56, 57, 58, 59, 60, 61, 62, 63, 64, 65, 66, 67, 68, 69, 70, 71, 72, 73, 74, 75, 76, 77, 78, 79, 80, 81, 82, 83, 84, 85, 86] (by decide +kernel) (by decide +kernel)
set_option maxRecDepth 20000 in
theorem gX8_settles_X8_ticks : GoodIn wsX8_settles (wsV RX8 140 RX8 yX8_ticks wsX8_ticks) := goodIn_app (goodIn_of _ (by decide +kernel)) ggX8_settles_X8_ticks
theorem dX8_settles_0 : decode cX8_settles 0 = .ok (.aload_n 0, 1) := by decide +kernel
theorem dX8_settles_1 : decode cX8_settles 1 = .ok (.bipush (-4), 2) := by decide +kernel
theorem dX8_settles_3 : decode cX8_settles 3 = .ok (.putfield 145, 3) := by decide +kernel
theorem dX8_settles_6 : decode cX8_settles 6 = .ok (.aload_n 0, 1) := by decide +kernel
theorem dX8_settles_7 : decode cX8_settles 7 = .ok (.bipush (-4), 2) := by decide +kernel
theorem dX8_settles_9 : decode cX8_settles 9 = .ok (.putfield 148, 3) := by decide +kernel
theorem dX8_settles_12 : decode cX8_settles 12 = .ok (.aload_n 0, 1) := by decide +kernel
theorem dX8_settles_13 : decode cX8_settles 13 = .ok (.bipush (-4), 2) := by decide +kernel
theorem dX8_settles_15 : decode cX8_settles 15 = .ok (.putfield 151, 3) := by decide +kernel
theorem dX8_settles_18 : decode cX8_settles 18 = .ok (.aload_n 0, 1) := by decide +kernel
theorem dX8_settles_19 : decode cX8_settles 19 = .ok (.bipush (-4), 2) := by decide +kernel
theorem dX8_settles_21 : decode cX8_settles 21 = .ok (.putfield 154, 3) := by decide +kernel
theorem dX8_settles_24 : decode cX8_settles 24 = .ok (.iconst 0, 1) := by decide +kernel
theorem dX8_settles_25 : decode cX8_settles 25 = .ok (.istore_n 1, 1) := by decide +kernel
theorem dX8_settles_26 : decode cX8_settles 26 = .ok (.iload_n 1, 1) := by decide +kernel
theorem dX8_settles_27 : decode cX8_settles 27 = .ok (.bipush 114, 2) := by decide +kernel
theorem dX8_settles_29 : decode cX8_settles 29 = .ok (.if_icmp .ge 21, 3) := by decide +kernel
theorem dX8_settles_32 : decode cX8_settles 32 = .ok (.aload_n 0, 1) := by decide +kernel
theorem dX8_settles_33 : decode cX8_settles 33 = .ok (.getfield 49, 3) := by decide +kernel
theorem dX8_settles_36 : decode cX8_settles 36 = .ok (.iload_n 1, 1) := by decide +kernel
theorem dX8_settles_37 : decode cX8_settles 37 = .ok (.aload_n 0, 1) := by decide +kernel
theorem dX8_settles_38 : decode cX8_settles 38 = .ok (.getfield 13, 3) := by decide +kernel
theorem dX8_settles_41 : decode cX8_settles 41 = .ok (.iload_n 1, 1) := by decide +kernel
theorem dX8_settles_42 : decode cX8_settles 42 = .ok (.iaload, 1) := by decide +kernel
theorem dX8_settles_43 : decode cX8_settles 43 = .ok (.iastore, 1) := by decide +kernel
theorem dX8_settles_44 : decode cX8_settles 44 = .ok (.iinc 1 1, 3) := by decide +kernel
theorem dX8_settles_47 : decode cX8_settles 47 = .ok (.goto (-21), 3) := by decide +kernel
theorem dX8_settles_50 : decode cX8_settles 50 = .ok (.iconst 0, 1) := by decide +kernel
theorem dX8_settles_51 : decode cX8_settles 51 = .ok (.istore_n 1, 1) := by decide +kernel
theorem dX8_settles_52 : decode cX8_settles 52 = .ok (.iload_n 1, 1) := by decide +kernel
theorem dX8_settles_53 : decode cX8_settles 53 = .ok (.sipush 300, 3) := by decide +kernel
theorem dX8_settles_56 : decode cX8_settles 56 = .ok (.if_icmp .gt 145, 3) := by decide +kernel
theorem dX8_settles_59 : decode cX8_settles 59 = .ok (.aload_n 0, 1) := by decide +kernel
theorem dX8_settles_60 : decode cX8_settles 60 = .ok (.getfield 145, 3) := by decide +kernel
theorem dX8_settles_63 : decode cX8_settles 63 = .ok (.bipush (-4), 2) := by decide +kernel
theorem dX8_settles_65 : decode cX8_settles 65 = .ok (.if_icmp .ne 136, 3) := by decide +kernel
theorem dX8_settles_68 : decode cX8_settles 68 = .ok (.aload_n 0, 1) := by decide +kernel
theorem dX8_settles_69 : decode cX8_settles 69 = .ok (.getfield 148, 3) := by decide +kernel
theorem dX8_settles_72 : decode cX8_settles 72 = .ok (.bipush (-4), 2) := by decide +kernel
theorem dX8_settles_74 : decode cX8_settles 74 = .ok (.if_icmp .ne 127, 3) := by decide +kernel
theorem dX8_settles_77 : decode cX8_settles 77 = .ok (.aload_n 0, 1) := by decide +kernel
theorem dX8_settles_78 : decode cX8_settles 78 = .ok (.invokevirtual 119, 3) := by decide +kernel
theorem dX8_settles_81 : decode cX8_settles 81 = .ok (.aload_n 0, 1) := by decide +kernel
theorem dX8_settles_82 : decode cX8_settles 82 = .ok (.invokevirtual 157, 3) := by decide +kernel
theorem dX8_settles_85 : decode cX8_settles 85 = .ok (.ifCond .eq 8, 3) := by decide +kernel
theorem dX8_settles_88 : decode cX8_settles 88 = .ok (.aload_n 0, 1) := by decide +kernel
theorem dX8_settles_89 : decode cX8_settles 89 = .ok (.iload_n 1, 1) := by decide +kernel
theorem dX8_settles_90 : decode cX8_settles 90 = .ok (.putfield 145, 3) := by decide +kernel
theorem dX8_settles_93 : decode cX8_settles 93 = .ok (.aload_n 0, 1) := by decide +kernel
theorem dX8_settles_94 : decode cX8_settles 94 = .ok (.getfield 42, 3) := by decide +kernel
theorem dX8_settles_97 : decode cX8_settles 97 = .ok (.iload_n 1, 1) := by decide +kernel
theorem dX8_settles_98 : decode cX8_settles 98 = .ok (.aload_n 0, 1) := by decide +kernel
theorem dX8_settles_99 : decode cX8_settles 99 = .ok (.invokevirtual 161, 3) := by decide +kernel
theorem dX8_settles_102 : decode cX8_settles 102 = .ok (.lastore, 1) := by decide +kernel
theorem dX8_settles_103 : decode cX8_settles 103 = .ok (.aload_n 0, 1) := by decide +kernel
theorem dX8_settles_104 : decode cX8_settles 104 = .ok (.getfield 46, 3) := by decide +kernel
theorem dX8_settles_107 : decode cX8_settles 107 = .ok (.iload_n 1, 1) := by decide +kernel
theorem dX8_settles_108 : decode cX8_settles 108 = .ok (.aload_n 0, 1) := by decide +kernel
theorem dX8_settles_109 : decode cX8_settles 109 = .ok (.getfield 13, 3) := by decide +kernel
theorem dX8_settles_112 : decode cX8_settles 112 = .ok (.iconst 3, 1) := by decide +kernel
theorem dX8_settles_113 : decode cX8_settles 113 = .ok (.iaload, 1) := by decide +kernel
theorem dX8_settles_114 : decode cX8_settles 114 = .ok (.iastore, 1) := by decide +kernel
theorem dX8_settles_115 : decode cX8_settles 115 = .ok (.iconst 0, 1) := by decide +kernel
theorem dX8_settles_116 : decode cX8_settles 116 = .ok (.istore_n 2, 1) := by decide +kernel
theorem dX8_settles_117 : decode cX8_settles 117 = .ok (.iload_n 2, 1) := by decide +kernel
theorem dX8_settles_118 : decode cX8_settles 118 = .ok (.iload_n 1, 1) := by decide +kernel
theorem dX8_settles_119 : decode cX8_settles 119 = .ok (.if_icmp .ge 72, 3) := by decide +kernel
theorem dX8_settles_122 : decode cX8_settles 122 = .ok (.aload_n 0, 1) := by decide +kernel
theorem dX8_settles_123 : decode cX8_settles 123 = .ok (.getfield 145, 3) := by decide +kernel
theorem dX8_settles_126 : decode cX8_settles 126 = .ok (.bipush (-4), 2) := by decide +kernel
theorem dX8_settles_128 : decode cX8_settles 128 = .ok (.if_icmp .ne 63, 3) := by decide +kernel
theorem dX8_settles_131 : decode cX8_settles 131 = .ok (.aload_n 0, 1) := by decide +kernel
theorem dX8_settles_132 : decode cX8_settles 132 = .ok (.getfield 148, 3) := by decide +kernel
theorem dX8_settles_135 : decode cX8_settles 135 = .ok (.bipush (-4), 2) := by decide +kernel
theorem dX8_settles_137 : decode cX8_settles 137 = .ok (.if_icmp .ne 54, 3) := by decide +kernel
theorem dX8_settles_140 : decode cX8_settles 140 = .ok (.aload_n 0, 1) := by decide +kernel
theorem dX8_settles_141 : decode cX8_settles 141 = .ok (.getfield 42, 3) := by decide +kernel
theorem dX8_settles_144 : decode cX8_settles 144 = .ok (.iload_n 2, 1) := by decide +kernel
theorem dX8_settles_145 : decode cX8_settles 145 = .ok (.laload, 1) := by decide +kernel
theorem dX8_settles_146 : decode cX8_settles 146 = .ok (.aload_n 0, 1) := by decide +kernel
theorem dX8_settles_147 : decode cX8_settles 147 = .ok (.getfield 42, 3) := by decide +kernel
theorem dX8_settles_150 : decode cX8_settles 150 = .ok (.iload_n 1, 1) := by decide +kernel
theorem dX8_settles_151 : decode cX8_settles 151 = .ok (.laload, 1) := by decide +kernel
theorem dX8_settles_152 : decode cX8_settles 152 = .ok (.lcmp, 1) := by decide +kernel
theorem dX8_settles_153 : decode cX8_settles 153 = .ok (.ifCond .ne 32, 3) := by decide +kernel
theorem dX8_settles_156 : decode cX8_settles 156 = .ok (.aload_n 0, 1) := by decide +kernel
theorem dX8_settles_157 : decode cX8_settles 157 = .ok (.iload_n 2, 1) := by decide +kernel
theorem dX8_settles_158 : decode cX8_settles 158 = .ok (.putfield 148, 3) := by decide +kernel
theorem dX8_settles_161 : decode cX8_settles 161 = .ok (.aload_n 0, 1) := by decide +kernel
theorem dX8_settles_162 : decode cX8_settles 162 = .ok (.iload_n 1, 1) := by decide +kernel
theorem dX8_settles_163 : decode cX8_settles 163 = .ok (.iload_n 2, 1) := by decide +kernel
theorem dX8_settles_164 : decode cX8_settles 164 = .ok (.isub, 1) := by decide +kernel
theorem dX8_settles_165 : decode cX8_settles 165 = .ok (.putfield 151, 3) := by decide +kernel
theorem dX8_settles_168 : decode cX8_settles 168 = .ok (.aload_n 0, 1) := by decide +kernel
theorem dX8_settles_169 : decode cX8_settles 169 = .ok (.aload_n 0, 1) := by decide +kernel
theorem dX8_settles_170 : decode cX8_settles 170 = .ok (.getfield 46, 3) := by decide +kernel
theorem dX8_settles_173 : decode cX8_settles 173 = .ok (.iload_n 1, 1) := by decide +kernel
theorem dX8_settles_174 : decode cX8_settles 174 = .ok (.iaload, 1) := by decide +kernel
theorem dX8_settles_175 : decode cX8_settles 175 = .ok (.aload_n 0, 1) := by decide +kernel
theorem dX8_settles_176 : decode cX8_settles 176 = .ok (.getfield 46, 3) := by decide +kernel
theorem dX8_settles_179 : decode cX8_settles 179 = .ok (.iload_n 2, 1) := by decide +kernel
theorem dX8_settles_180 : decode cX8_settles 180 = .ok (.iaload, 1) := by decide +kernel
theorem dX8_settles_181 : decode cX8_settles 181 = .ok (.isub, 1) := by decide +kernel
theorem dX8_settles_182 : decode cX8_settles 182 = .ok (.putfield 154, 3) := by decide +kernel
theorem dX8_settles_185 : decode cX8_settles 185 = .ok (.iinc 2 1, 3) := by decide +kernel
theorem dX8_settles_188 : decode cX8_settles 188 = .ok (.goto (-71), 3) := by decide +kernel
theorem dX8_settles_191 : decode cX8_settles 191 = .ok (.aload_n 0, 1) := by decide +kernel
theorem dX8_settles_192 : decode cX8_settles 192 = .ok (.invokevirtual 140, 3) := by decide +kernel
theorem dX8_settles_195 : decode cX8_settles 195 = .ok (.iinc 1 1, 3) := by decide +kernel
theorem dX8_settles_198 : decode cX8_settles 198 = .ok (.goto (-146), 3) := by decide +kernel
theorem dX8_settles_201 : decode cX8_settles 201 = .ok (.iconst 0, 1) := by decide +kernel
theorem dX8_settles_202 : decode cX8_settles 202 = .ok (.istore_n 1, 1) := by decide +kernel
theorem dX8_settles_203 : decode cX8_settles 203 = .ok (.iload_n 1, 1) := by decide +kernel
theorem dX8_settles_204 : decode cX8_settles 204 = .ok (.bipush 114, 2) := by decide +kernel
theorem dX8_settles_206 : decode cX8_settles 206 = .ok (.if_icmp .ge 21, 3) := by decide +kernel
theorem dX8_settles_209 : decode cX8_settles 209 = .ok (.aload_n 0, 1) := by decide +kernel
theorem dX8_settles_210 : decode cX8_settles 210 = .ok (.getfield 13, 3) := by decide +kernel
theorem dX8_settles_213 : decode cX8_settles 213 = .ok (.iload_n 1, 1) := by decide +kernel
theorem dX8_settles_214 : decode cX8_settles 214 = .ok (.aload_n 0, 1) := by decide +kernel
theorem dX8_settles_215 : decode cX8_settles 215 = .ok (.getfield 49, 3) := by decide +kernel
theorem dX8_settles_218 : decode cX8_settles 218 = .ok (.iload_n 1, 1) := by decide +kernel
theorem dX8_settles_219 : decode cX8_settles 219 = .ok (.iaload, 1) := by decide +kernel
theorem dX8_settles_220 : decode cX8_settles 220 = .ok (.iastore, 1) := by decide +kernel
theorem dX8_settles_221 : decode cX8_settles 221 = .ok (.iinc 1 1, 3) := by decide +kernel
theorem dX8_settles_224 : decode cX8_settles 224 = .ok (.goto (-21), 3) := by decide +kernel
theorem dX8_settles_227 : decode cX8_settles 227 = .ok (.return_, 1) := by decide +kernel
set_option maxRecDepth 20000 in
theorem ggX8_settle_X8_in : GoodIn wsX8_settle wsX8_in := goodIn_r _ [9] (by decide +kernel) (by decide +kernel)
set_option maxRecDepth 20000 in
theorem gX8_settle_X8_in : GoodIn wsX8_settle (va_wsS RX8 63 yX8_in wsX8_in) := goodIn_app (goodIn_of _ (by decide +kernel)) ggX8_settle_X8_in
set_option maxRecDepth 20000 in
theorem ggX8_settle_X8_settles : GoodIn wsX8_settle wsX8_settles := goodIn_r _ [13, 2, 3, 4, 5, 14, 15, 16, 17, 18, 19, 20, 8, 21, 22, 23, 24, 25, 26, 27, 28, 29, 30, 31, 32, 33, 34, 35, 36, 37, 6, 7, 9, 38, 39, 40, 41, 42, 43, 44, 45, 46, 47, 48, 49, 50, 51, 52, 53, 54, 55, 56, 57, 58, 59, 60, 61, 62, 63, 64, 65, 66, 67, 68, 69, 70, 71, 72, 73, 74, 75, 76, 77, 78, 79, 80, 81, 82, 83, 84, 85, 86, 87, 88, 89, 90, 91] (by decide +kernel) (by decide +kernel)
set_option maxRecDepth 20000 in
theorem gX8_settle_X8_settles : GoodIn wsX8_settle (wsV RX8 165 RX8 yX8_settles wsX8_settles) := goodIn_app (goodIn_of _ (by decide +kernel)) ggX8_settle_X8_settles
theorem dX8_settle_0 : decode cX8_settle 0 = .ok (.aload_n 0, 1) := by decide +kernel
theorem dX8_settle_1 : decode cX8_settle 1 = .ok (.iconst 0, 1) := by decide +kernel
theorem dX8_settle_2 : decode cX8_settle 2 = .ok (.putfield 59, 3) := by decide +kernel
theorem dX8_settle_5 : decode cX8_settle 5 = .ok (.iload_n 1, 1) := by decide +kernel
theorem dX8_settle_6 : decode cX8_settle 6 = .ok (.iconst 0, 1) := by decide +kernel
theorem dX8_settle_7 : decode cX8_settle 7 = .ok (.iconst 3, 1) := by decide +kernel
theorem dX8_settle_8 : decode cX8_settle 8 = .ok (.invokestatic 63, 3) := by decide +kernel
theorem dX8_settle_11 : decode cX8_settle 11 = .ok (.ifCond .ne 5, 3) := by decide +kernel
theorem dX8_settle_14 : decode cX8_settle 14 = .ok (.iconst (-1), 1) := by decide +kernel
theorem dX8_settle_15 : decode cX8_settle 15 = .ok (.ireturn, 1) := by decide +kernel
theorem dX8_settle_16 : decode cX8_settle 16 = .ok (.aload_n 0, 1) := by decide +kernel
theorem dX8_settle_17 : decode cX8_settle 17 = .ok (.invokevirtual 165, 3) := by decide +kernel
theorem dX8_settle_20 : decode cX8_settle 20 = .ok (.iload_n 1, 1) := by decide +kernel
theorem dX8_settle_21 : decode cX8_settle 21 = .ok (.ifCond .ne 10, 3) := by decide +kernel
theorem dX8_settle_24 : decode cX8_settle 24 = .ok (.aload_n 0, 1) := by decide +kernel
theorem dX8_settle_25 : decode cX8_settle 25 = .ok (.getfield 145, 3) := by decide +kernel
theorem dX8_settle_28 : decode cX8_settle 28 = .ok (.goto 31, 3) := by decide +kernel
theorem dX8_settle_31 : decode cX8_settle 31 = .ok (.iload_n 1, 1) := by decide +kernel
theorem dX8_settle_32 : decode cX8_settle 32 = .ok (.iconst 1, 1) := by decide +kernel
theorem dX8_settle_33 : decode cX8_settle 33 = .ok (.if_icmp .ne 10, 3) := by decide +kernel
theorem dX8_settle_36 : decode cX8_settle 36 = .ok (.aload_n 0, 1) := by decide +kernel
theorem dX8_settle_37 : decode cX8_settle 37 = .ok (.getfield 148, 3) := by decide +kernel
theorem dX8_settle_40 : decode cX8_settle 40 = .ok (.goto 19, 3) := by decide +kernel
theorem dX8_settle_43 : decode cX8_settle 43 = .ok (.iload_n 1, 1) := by decide +kernel
theorem dX8_settle_44 : decode cX8_settle 44 = .ok (.iconst 2, 1) := by decide +kernel
theorem dX8_settle_45 : decode cX8_settle 45 = .ok (.if_icmp .ne 10, 3) := by decide +kernel
theorem dX8_settle_48 : decode cX8_settle 48 = .ok (.aload_n 0, 1) := by decide +kernel
theorem dX8_settle_49 : decode cX8_settle 49 = .ok (.getfield 151, 3) := by decide +kernel
theorem dX8_settle_52 : decode cX8_settle 52 = .ok (.goto 7, 3) := by decide +kernel
theorem dX8_settle_55 : decode cX8_settle 55 = .ok (.aload_n 0, 1) := by decide +kernel
theorem dX8_settle_56 : decode cX8_settle 56 = .ok (.getfield 154, 3) := by decide +kernel
theorem dX8_settle_59 : decode cX8_settle 59 = .ok (.ireturn, 1) := by decide +kernel
set_option maxRecDepth 20000 in
theorem ggX8_nextTaps_X8_of : GoodIn wsX8_nextTaps wsX8_of := goodIn_r _ [6, 1, 11, 12, 13, 14, 15, 16, 17, 18, 19, 20, 21, 22, 23, 24, 25, 26, 27, 28, 29, 30, 31, 32, 33, 34] (by decide +kernel) (by decide +kernel)
set_option maxRecDepth 20000 in
theorem gX8_nextTaps_X8_of : GoodIn wsX8_nextTaps (wsV RX8 106 RX8 yX8_of wsX8_of) := goodIn_app (goodIn_of _ (by decide +kernel)) ggX8_nextTaps_X8_of
set_option maxRecDepth 20000 in
theorem ggX8_nextTaps_X8_puts : GoodIn wsX8_nextTaps wsX8_puts := goodIn_r _ [10, 1, 11, 12, 13, 14, 15, 16, 17, 18, 19, 20, 21, 22, 23, 24, 25, 26, 27, 28, 29, 30, 31, 32, 33, 34] (by decide +kernel) (by decide +kernel)
set_option maxRecDepth 20000 in
theorem gX8_nextTaps_X8_puts : GoodIn wsX8_nextTaps (wsV RX8 115 RX8 yX8_puts wsX8_puts) := goodIn_app (goodIn_of _ (by decide +kernel)) ggX8_nextTaps_X8_puts
theorem dX8_nextTaps_0 : decode cX8_nextTaps 0 = .ok (.aload_n 0, 1) := by decide +kernel
theorem dX8_nextTaps_1 : decode cX8_nextTaps 1 = .ok (.getfield 13, 3) := by decide +kernel
theorem dX8_nextTaps_4 : decode cX8_nextTaps 4 = .ok (.iconst 0, 1) := by decide +kernel
theorem dX8_nextTaps_5 : decode cX8_nextTaps 5 = .ok (.iaload, 1) := by decide +kernel
theorem dX8_nextTaps_6 : decode cX8_nextTaps 6 = .ok (.iconst 1, 1) := by decide +kernel
theorem dX8_nextTaps_7 : decode cX8_nextTaps 7 = .ok (.isub, 1) := by decide +kernel
theorem dX8_nextTaps_8 : decode cX8_nextTaps 8 = .ok (.istore_n 1, 1) := by decide +kernel
theorem dX8_nextTaps_9 : decode cX8_nextTaps 9 = .ok (.iload_n 1, 1) := by decide +kernel
theorem dX8_nextTaps_10 : decode cX8_nextTaps 10 = .ok (.ifCond .lt 57, 3) := by decide +kernel
theorem dX8_nextTaps_13 : decode cX8_nextTaps 13 = .ok (.aload_n 0, 1) := by decide +kernel
theorem dX8_nextTaps_14 : decode cX8_nextTaps 14 = .ok (.iload_n 1, 1) := by decide +kernel
theorem dX8_nextTaps_15 : decode cX8_nextTaps 15 = .ok (.bipush 8, 2) := by decide +kernel
theorem dX8_nextTaps_17 : decode cX8_nextTaps 17 = .ok (.invokevirtual 106, 3) := by decide +kernel
theorem dX8_nextTaps_20 : decode cX8_nextTaps 20 = .ok (.ifCond .ne 41, 3) := by decide +kernel
theorem dX8_nextTaps_23 : decode cX8_nextTaps 23 = .ok (.aload_n 0, 1) := by decide +kernel
theorem dX8_nextTaps_24 : decode cX8_nextTaps 24 = .ok (.iload_n 1, 1) := by decide +kernel
theorem dX8_nextTaps_25 : decode cX8_nextTaps 25 = .ok (.bipush 7, 2) := by decide +kernel
theorem dX8_nextTaps_27 : decode cX8_nextTaps 27 = .ok (.invokevirtual 106, 3) := by decide +kernel
theorem dX8_nextTaps_30 : decode cX8_nextTaps 30 = .ok (.iconst 5, 1) := by decide +kernel
theorem dX8_nextTaps_31 : decode cX8_nextTaps 31 = .ok (.if_icmp .ge 21, 3) := by decide +kernel
theorem dX8_nextTaps_34 : decode cX8_nextTaps 34 = .ok (.aload_n 0, 1) := by decide +kernel
theorem dX8_nextTaps_35 : decode cX8_nextTaps 35 = .ok (.iload_n 1, 1) := by decide +kernel
theorem dX8_nextTaps_36 : decode cX8_nextTaps 36 = .ok (.bipush 7, 2) := by decide +kernel
theorem dX8_nextTaps_38 : decode cX8_nextTaps 38 = .ok (.aload_n 0, 1) := by decide +kernel
theorem dX8_nextTaps_39 : decode cX8_nextTaps 39 = .ok (.iload_n 1, 1) := by decide +kernel
theorem dX8_nextTaps_40 : decode cX8_nextTaps 40 = .ok (.bipush 7, 2) := by decide +kernel
theorem dX8_nextTaps_42 : decode cX8_nextTaps 42 = .ok (.invokevirtual 106, 3) := by decide +kernel
theorem dX8_nextTaps_45 : decode cX8_nextTaps 45 = .ok (.iconst 1, 1) := by decide +kernel
theorem dX8_nextTaps_46 : decode cX8_nextTaps 46 = .ok (.iadd, 1) := by decide +kernel
theorem dX8_nextTaps_47 : decode cX8_nextTaps 47 = .ok (.invokevirtual 115, 3) := by decide +kernel
theorem dX8_nextTaps_50 : decode cX8_nextTaps 50 = .ok (.iconst 1, 1) := by decide +kernel
theorem dX8_nextTaps_51 : decode cX8_nextTaps 51 = .ok (.ireturn, 1) := by decide +kernel
theorem dX8_nextTaps_52 : decode cX8_nextTaps 52 = .ok (.aload_n 0, 1) := by decide +kernel
theorem dX8_nextTaps_53 : decode cX8_nextTaps 53 = .ok (.iload_n 1, 1) := by decide +kernel
theorem dX8_nextTaps_54 : decode cX8_nextTaps 54 = .ok (.bipush 7, 2) := by decide +kernel
theorem dX8_nextTaps_56 : decode cX8_nextTaps 56 = .ok (.bipush (-5), 2) := by decide +kernel
theorem dX8_nextTaps_58 : decode cX8_nextTaps 58 = .ok (.invokevirtual 115, 3) := by decide +kernel
theorem dX8_nextTaps_61 : decode cX8_nextTaps 61 = .ok (.iinc 1 (-1), 3) := by decide +kernel
theorem dX8_nextTaps_64 : decode cX8_nextTaps 64 = .ok (.goto (-55), 3) := by decide +kernel
theorem dX8_nextTaps_67 : decode cX8_nextTaps 67 = .ok (.iconst 0, 1) := by decide +kernel
theorem dX8_nextTaps_68 : decode cX8_nextTaps 68 = .ok (.ireturn, 1) := by decide +kernel
set_option maxRecDepth 20000 in
theorem ggX8_findsBest_X8_of : GoodIn wsX8_findsBest wsX8_of := goodIn_r _ [9, 2, 41, 42, 43, 44, 45, 46, 47, 48, 49, 50, 51, 52, 53, 54, 55, 56, 57, 58, 59, 60, 61, 62, 63, 64] (by decide +kernel) (by decide +kernel)
set_option maxRecDepth 20000 in
theorem gX8_findsBest_X8_of : GoodIn wsX8_findsBest (wsV RX8 106 RX8 yX8_of wsX8_of) := goodIn_app (goodIn_of _ (by decide +kernel)) ggX8_findsBest_X8_of
set_option maxRecDepth 20000 in
theorem ggX8_findsBest_X8_puts : GoodIn wsX8_findsBest wsX8_puts := goodIn_r _ [13, 2, 41, 42, 43, 44, 45, 46, 47, 48, 49, 50, 51, 52, 53, 54, 55, 56, 57, 58, 59, 60, 61, 62, 63, 64] (by decide +kernel) (by decide +kernel)
set_option maxRecDepth 20000 in
theorem gX8_findsBest_X8_puts : GoodIn wsX8_findsBest (wsV RX8 115 RX8 yX8_puts wsX8_puts) := goodIn_app (goodIn_of _ (by decide +kernel)) ggX8_findsBest_X8_puts
set_option maxRecDepth 20000 in
theorem ggX8_findsBest_X8_lays : GoodIn wsX8_findsBest wsX8_lays := goodIn_r _ [17, 2, 18, 19, 20, 21, 22, 5, 6, 7, 8, 9, 23, 24, 25, 26, 27, 28, 29, 30, 31, 32, 41, 42, 43, 44, 45, 46, 47, 48, 49, 50, 51, 52, 53, 54, 55, 56, 57, 58, 59, 60, 61, 62, 63, 64] (by decide +kernel) (by decide +kernel)
set_option maxRecDepth 20000 in
theorem gX8_findsBest_X8_lays : GoodIn wsX8_findsBest (wsV RX8 119 RX8 yX8_lays wsX8_lays) := goodIn_app (goodIn_of _ (by decide +kernel)) ggX8_findsBest_X8_lays
set_option maxRecDepth 20000 in
theorem ggX8_findsBest_X8_offOf : GoodIn wsX8_findsBest wsX8_offOf := goodIn_r _ [36, 2, 20, 5, 6, 7, 8, 9, 41, 42, 43, 44, 45, 46, 47, 48, 49, 50, 51, 52, 53, 54, 55, 56, 57, 58, 59, 60, 61, 62, 63, 64] (by decide +kernel) (by decide +kernel)
set_option maxRecDepth 20000 in
theorem gX8_findsBest_X8_offOf : GoodIn wsX8_findsBest (wsV RX8 171 RX8 yX8_offOf wsX8_offOf) := goodIn_app (goodIn_of _ (by decide +kernel)) ggX8_findsBest_X8_offOf
set_option maxRecDepth 20000 in
theorem ggX8_findsBest_X8_nextTaps : GoodIn wsX8_findsBest wsX8_nextTaps := goodIn_r _ [40, 2, 5, 6, 7, 8, 9, 10, 11, 12, 13, 41, 42, 43, 44, 45, 46, 47, 48, 49, 50, 51, 52, 53, 54, 55, 56, 57, 58, 59, 60, 61, 62, 63, 64] (by decide +kernel) (by decide +kernel)
set_option maxRecDepth 20000 in
theorem gX8_findsBest_X8_nextTaps : GoodIn wsX8_findsBest (wsV RX8 174 RX8 yX8_nextTaps wsX8_nextTaps) := goodIn_app (goodIn_of _ (by decide +kernel)) ggX8_findsBest_X8_nextTaps
theorem dX8_findsBest_0 : decode cX8_findsBest 0 = .ok (.iconst 0, 1) := by decide +kernel
theorem dX8_findsBest_1 : decode cX8_findsBest 1 = .ok (.istore_n 1, 1) := by decide +kernel
theorem dX8_findsBest_2 : decode cX8_findsBest 2 = .ok (.iload_n 1, 1) := by decide +kernel
theorem dX8_findsBest_3 : decode cX8_findsBest 3 = .ok (.bipush 114, 2) := by decide +kernel
theorem dX8_findsBest_5 : decode cX8_findsBest 5 = .ok (.if_icmp .ge 21, 3) := by decide +kernel
theorem dX8_findsBest_8 : decode cX8_findsBest 8 = .ok (.aload_n 0, 1) := by decide +kernel
theorem dX8_findsBest_9 : decode cX8_findsBest 9 = .ok (.getfield 49, 3) := by decide +kernel
theorem dX8_findsBest_12 : decode cX8_findsBest 12 = .ok (.iload_n 1, 1) := by decide +kernel
theorem dX8_findsBest_13 : decode cX8_findsBest 13 = .ok (.aload_n 0, 1) := by decide +kernel
theorem dX8_findsBest_14 : decode cX8_findsBest 14 = .ok (.getfield 13, 3) := by decide +kernel
theorem dX8_findsBest_17 : decode cX8_findsBest 17 = .ok (.iload_n 1, 1) := by decide +kernel
theorem dX8_findsBest_18 : decode cX8_findsBest 18 = .ok (.iaload, 1) := by decide +kernel
theorem dX8_findsBest_19 : decode cX8_findsBest 19 = .ok (.iastore, 1) := by decide +kernel
theorem dX8_findsBest_20 : decode cX8_findsBest 20 = .ok (.iinc 1 1, 3) := by decide +kernel
theorem dX8_findsBest_23 : decode cX8_findsBest 23 = .ok (.goto (-21), 3) := by decide +kernel
theorem dX8_findsBest_26 : decode cX8_findsBest 26 = .ok (.iconst 0, 1) := by decide +kernel
theorem dX8_findsBest_27 : decode cX8_findsBest 27 = .ok (.istore_n 1, 1) := by decide +kernel
theorem dX8_findsBest_28 : decode cX8_findsBest 28 = .ok (.iload_n 1, 1) := by decide +kernel
theorem dX8_findsBest_29 : decode cX8_findsBest 29 = .ok (.aload_n 0, 1) := by decide +kernel
theorem dX8_findsBest_30 : decode cX8_findsBest 30 = .ok (.getfield 13, 3) := by decide +kernel
theorem dX8_findsBest_33 : decode cX8_findsBest 33 = .ok (.iconst 0, 1) := by decide +kernel
theorem dX8_findsBest_34 : decode cX8_findsBest 34 = .ok (.iaload, 1) := by decide +kernel
theorem dX8_findsBest_35 : decode cX8_findsBest 35 = .ok (.if_icmp .ge 28, 3) := by decide +kernel
theorem dX8_findsBest_38 : decode cX8_findsBest 38 = .ok (.aload_n 0, 1) := by decide +kernel
theorem dX8_findsBest_39 : decode cX8_findsBest 39 = .ok (.iload_n 1, 1) := by decide +kernel
theorem dX8_findsBest_40 : decode cX8_findsBest 40 = .ok (.bipush 8, 2) := by decide +kernel
theorem dX8_findsBest_42 : decode cX8_findsBest 42 = .ok (.invokevirtual 106, 3) := by decide +kernel
theorem dX8_findsBest_45 : decode cX8_findsBest 45 = .ok (.ifCond .ne 12, 3) := by decide +kernel
theorem dX8_findsBest_48 : decode cX8_findsBest 48 = .ok (.aload_n 0, 1) := by decide +kernel
theorem dX8_findsBest_49 : decode cX8_findsBest 49 = .ok (.iload_n 1, 1) := by decide +kernel
theorem dX8_findsBest_50 : decode cX8_findsBest 50 = .ok (.bipush 7, 2) := by decide +kernel
theorem dX8_findsBest_52 : decode cX8_findsBest 52 = .ok (.bipush (-5), 2) := by decide +kernel
theorem dX8_findsBest_54 : decode cX8_findsBest 54 = .ok (.invokevirtual 115, 3) := by decide +kernel
theorem dX8_findsBest_57 : decode cX8_findsBest 57 = .ok (.iinc 1 1, 3) := by decide +kernel
theorem dX8_findsBest_60 : decode cX8_findsBest 60 = .ok (.goto (-32), 3) := by decide +kernel
theorem dX8_findsBest_63 : decode cX8_findsBest 63 = .ok (.aload_n 0, 1) := by decide +kernel
theorem dX8_findsBest_64 : decode cX8_findsBest 64 = .ok (.bipush (-4), 2) := by decide +kernel
theorem dX8_findsBest_66 : decode cX8_findsBest 66 = .ok (.putfield 168, 3) := by decide +kernel
theorem dX8_findsBest_69 : decode cX8_findsBest 69 = .ok (.iconst 1, 1) := by decide +kernel
theorem dX8_findsBest_70 : decode cX8_findsBest 70 = .ok (.istore_n 1, 1) := by decide +kernel
theorem dX8_findsBest_71 : decode cX8_findsBest 71 = .ok (.iload_n 1, 1) := by decide +kernel
theorem dX8_findsBest_72 : decode cX8_findsBest 72 = .ok (.ifCond .eq 74, 3) := by decide +kernel
theorem dX8_findsBest_75 : decode cX8_findsBest 75 = .ok (.aload_n 0, 1) := by decide +kernel
theorem dX8_findsBest_76 : decode cX8_findsBest 76 = .ok (.invokevirtual 119, 3) := by decide +kernel
theorem dX8_findsBest_79 : decode cX8_findsBest 79 = .ok (.aload_n 0, 1) := by decide +kernel
theorem dX8_findsBest_80 : decode cX8_findsBest 80 = .ok (.getfield 168, 3) := by decide +kernel
theorem dX8_findsBest_83 : decode cX8_findsBest 83 = .ok (.bipush (-4), 2) := by decide +kernel
theorem dX8_findsBest_85 : decode cX8_findsBest 85 = .ok (.if_icmp .eq 14, 3) := by decide +kernel
theorem dX8_findsBest_88 : decode cX8_findsBest 88 = .ok (.aload_n 0, 1) := by decide +kernel
theorem dX8_findsBest_89 : decode cX8_findsBest 89 = .ok (.invokevirtual 171, 3) := by decide +kernel
theorem dX8_findsBest_92 : decode cX8_findsBest 92 = .ok (.aload_n 0, 1) := by decide +kernel
theorem dX8_findsBest_93 : decode cX8_findsBest 93 = .ok (.getfield 168, 3) := by decide +kernel
theorem dX8_findsBest_96 : decode cX8_findsBest 96 = .ok (.if_icmp .ge 42, 3) := by decide +kernel
theorem dX8_findsBest_99 : decode cX8_findsBest 99 = .ok (.aload_n 0, 1) := by decide +kernel
theorem dX8_findsBest_100 : decode cX8_findsBest 100 = .ok (.aload_n 0, 1) := by decide +kernel
theorem dX8_findsBest_101 : decode cX8_findsBest 101 = .ok (.invokevirtual 171, 3) := by decide +kernel
theorem dX8_findsBest_104 : decode cX8_findsBest 104 = .ok (.putfield 168, 3) := by decide +kernel
theorem dX8_findsBest_107 : decode cX8_findsBest 107 = .ok (.iconst 0, 1) := by decide +kernel
theorem dX8_findsBest_108 : decode cX8_findsBest 108 = .ok (.istore_n 2, 1) := by decide +kernel
theorem dX8_findsBest_109 : decode cX8_findsBest 109 = .ok (.iload_n 2, 1) := by decide +kernel
theorem dX8_findsBest_110 : decode cX8_findsBest 110 = .ok (.aload_n 0, 1) := by decide +kernel
theorem dX8_findsBest_111 : decode cX8_findsBest 111 = .ok (.getfield 13, 3) := by decide +kernel
theorem dX8_findsBest_114 : decode cX8_findsBest 114 = .ok (.iconst 0, 1) := by decide +kernel
theorem dX8_findsBest_115 : decode cX8_findsBest 115 = .ok (.iaload, 1) := by decide +kernel
theorem dX8_findsBest_116 : decode cX8_findsBest 116 = .ok (.if_icmp .ge 22, 3) := by decide +kernel
theorem dX8_findsBest_119 : decode cX8_findsBest 119 = .ok (.aload_n 0, 1) := by decide +kernel
theorem dX8_findsBest_120 : decode cX8_findsBest 120 = .ok (.getfield 52, 3) := by decide +kernel
theorem dX8_findsBest_123 : decode cX8_findsBest 123 = .ok (.iload_n 2, 1) := by decide +kernel
theorem dX8_findsBest_124 : decode cX8_findsBest 124 = .ok (.aload_n 0, 1) := by decide +kernel
theorem dX8_findsBest_125 : decode cX8_findsBest 125 = .ok (.iload_n 2, 1) := by decide +kernel
theorem dX8_findsBest_126 : decode cX8_findsBest 126 = .ok (.bipush 7, 2) := by decide +kernel
theorem dX8_findsBest_128 : decode cX8_findsBest 128 = .ok (.invokevirtual 106, 3) := by decide +kernel
theorem dX8_findsBest_131 : decode cX8_findsBest 131 = .ok (.iastore, 1) := by decide +kernel
theorem dX8_findsBest_132 : decode cX8_findsBest 132 = .ok (.iinc 2 1, 3) := by decide +kernel
theorem dX8_findsBest_135 : decode cX8_findsBest 135 = .ok (.goto (-26), 3) := by decide +kernel
theorem dX8_findsBest_138 : decode cX8_findsBest 138 = .ok (.aload_n 0, 1) := by decide +kernel
theorem dX8_findsBest_139 : decode cX8_findsBest 139 = .ok (.invokevirtual 174, 3) := by decide +kernel
theorem dX8_findsBest_142 : decode cX8_findsBest 142 = .ok (.istore_n 1, 1) := by decide +kernel
theorem dX8_findsBest_143 : decode cX8_findsBest 143 = .ok (.goto (-72), 3) := by decide +kernel
theorem dX8_findsBest_146 : decode cX8_findsBest 146 = .ok (.iconst 0, 1) := by decide +kernel
theorem dX8_findsBest_147 : decode cX8_findsBest 147 = .ok (.istore_n 2, 1) := by decide +kernel
theorem dX8_findsBest_148 : decode cX8_findsBest 148 = .ok (.iload_n 2, 1) := by decide +kernel
theorem dX8_findsBest_149 : decode cX8_findsBest 149 = .ok (.bipush 114, 2) := by decide +kernel
theorem dX8_findsBest_151 : decode cX8_findsBest 151 = .ok (.if_icmp .ge 21, 3) := by decide +kernel
theorem dX8_findsBest_154 : decode cX8_findsBest 154 = .ok (.aload_n 0, 1) := by decide +kernel
theorem dX8_findsBest_155 : decode cX8_findsBest 155 = .ok (.getfield 13, 3) := by decide +kernel
theorem dX8_findsBest_158 : decode cX8_findsBest 158 = .ok (.iload_n 2, 1) := by decide +kernel
theorem dX8_findsBest_159 : decode cX8_findsBest 159 = .ok (.aload_n 0, 1) := by decide +kernel
theorem dX8_findsBest_160 : decode cX8_findsBest 160 = .ok (.getfield 49, 3) := by decide +kernel
theorem dX8_findsBest_163 : decode cX8_findsBest 163 = .ok (.iload_n 2, 1) := by decide +kernel
theorem dX8_findsBest_164 : decode cX8_findsBest 164 = .ok (.iaload, 1) := by decide +kernel
theorem dX8_findsBest_165 : decode cX8_findsBest 165 = .ok (.iastore, 1) := by decide +kernel
theorem dX8_findsBest_166 : decode cX8_findsBest 166 = .ok (.iinc 2 1, 3) := by decide +kernel
theorem dX8_findsBest_169 : decode cX8_findsBest 169 = .ok (.goto (-21), 3) := by decide +kernel
theorem dX8_findsBest_172 : decode cX8_findsBest 172 = .ok (.return_, 1) := by decide +kernel
set_option maxRecDepth 20000 in
theorem ggX8_best_X8_isStage : GoodIn wsX8_best wsX8_isStage := goodIn_r _ [8, 9, 10, 11, 7, 12, 50, 51, 52, 53, 54, 55, 56, 57, 58, 59, 60, 61, 62, 63, 64, 65, 66, 67, 68, 69, 70, 71, 72, 73] (by decide +kernel) (by decide +kernel)
set_option maxRecDepth 20000 in
theorem gX8_best_X8_isStage : GoodIn wsX8_best (wsV RX8 134 RX8 yX8_isStage wsX8_isStage) := goodIn_app (goodIn_of _ (by decide +kernel)) ggX8_best_X8_isStage
set_option maxRecDepth 20000 in
theorem ggX8_best_X8_findsBest : GoodIn wsX8_best wsX8_findsBest := goodIn_r _ [16, 17, 9, 2, 3, 18, 19, 20, 7, 21, 22, 23, 24, 25, 26, 27, 28, 29, 30, 31, 32, 33, 34, 35, 36, 37, 38, 39, 40, 41, 10, 11, 12, 42, 43, 44, 45, 46, 47, 48, 49, 50, 51, 52, 53, 54, 55, 56, 57, 58, 59, 60, 61, 62, 63, 64, 65, 66, 67, 68, 69, 70, 71, 72, 73] (by decide +kernel) (by decide +kernel)
set_option maxRecDepth 20000 in
theorem gX8_best_X8_findsBest : GoodIn wsX8_best (wsV RX8 177 RX8 yX8_findsBest wsX8_findsBest) := goodIn_app (goodIn_of _ (by decide +kernel)) ggX8_best_X8_findsBest
theorem dX8_best_0 : decode cX8_best 0 = .ok (.aload_n 0, 1) := by decide +kernel
theorem dX8_best_1 : decode cX8_best 1 = .ok (.iconst 0, 1) := by decide +kernel
theorem dX8_best_2 : decode cX8_best 2 = .ok (.putfield 59, 3) := by decide +kernel
theorem dX8_best_5 : decode cX8_best 5 = .ok (.iload_n 1, 1) := by decide +kernel
theorem dX8_best_6 : decode cX8_best 6 = .ok (.iconst (-1), 1) := by decide +kernel
theorem dX8_best_7 : decode cX8_best 7 = .ok (.if_icmp .eq 13, 3) := by decide +kernel
theorem dX8_best_10 : decode cX8_best 10 = .ok (.aload_n 0, 1) := by decide +kernel
theorem dX8_best_11 : decode cX8_best 11 = .ok (.iload_n 1, 1) := by decide +kernel
theorem dX8_best_12 : decode cX8_best 12 = .ok (.invokevirtual 134, 3) := by decide +kernel
theorem dX8_best_15 : decode cX8_best 15 = .ok (.ifCond .ne 5, 3) := by decide +kernel
theorem dX8_best_18 : decode cX8_best 18 = .ok (.iconst (-1), 1) := by decide +kernel
theorem dX8_best_19 : decode cX8_best 19 = .ok (.ireturn, 1) := by decide +kernel
theorem dX8_best_20 : decode cX8_best 20 = .ok (.aload_n 0, 1) := by decide +kernel
theorem dX8_best_21 : decode cX8_best 21 = .ok (.invokevirtual 177, 3) := by decide +kernel
theorem dX8_best_24 : decode cX8_best 24 = .ok (.iload_n 1, 1) := by decide +kernel
theorem dX8_best_25 : decode cX8_best 25 = .ok (.ifCond .ge 10, 3) := by decide +kernel
theorem dX8_best_28 : decode cX8_best 28 = .ok (.aload_n 0, 1) := by decide +kernel
theorem dX8_best_29 : decode cX8_best 29 = .ok (.getfield 168, 3) := by decide +kernel
theorem dX8_best_32 : decode cX8_best 32 = .ok (.goto 13, 3) := by decide +kernel
theorem dX8_best_35 : decode cX8_best 35 = .ok (.aload_n 0, 1) := by decide +kernel
theorem dX8_best_36 : decode cX8_best 36 = .ok (.getfield 52, 3) := by decide +kernel
theorem dX8_best_39 : decode cX8_best 39 = .ok (.iload_n 1, 1) := by decide +kernel
theorem dX8_best_40 : decode cX8_best 40 = .ok (.iaload, 1) := by decide +kernel
theorem dX8_best_41 : decode cX8_best 41 = .ok (.sipush 1000, 3) := by decide +kernel
theorem dX8_best_44 : decode cX8_best 44 = .ok (.iadd, 1) := by decide +kernel
theorem dX8_best_45 : decode cX8_best 45 = .ok (.ireturn, 1) := by decide +kernel
set_option maxRecDepth 20000 in
theorem ggX8_ratio_X8_isStage : GoodIn wsX8_ratio wsX8_isStage := goodIn_r _ [8, 9, 10, 11, 7, 12, 17, 18, 19, 20, 21, 22, 23, 24, 25, 26, 27, 28, 29, 30, 31, 32, 33, 34, 35, 36, 37, 38, 39, 40] (by decide +kernel) (by decide +kernel)
set_option maxRecDepth 20000 in
theorem gX8_ratio_X8_isStage : GoodIn wsX8_ratio (wsV RX8 134 RX8 yX8_isStage wsX8_isStage) := goodIn_app (goodIn_of _ (by decide +kernel)) ggX8_ratio_X8_isStage
set_option maxRecDepth 20000 in
theorem ggX8_ratio_X8_in : GoodIn wsX8_ratio wsX8_in := goodIn_r _ [12] (by decide +kernel) (by decide +kernel)
set_option maxRecDepth 20000 in
theorem gX8_ratio_X8_in : GoodIn wsX8_ratio (va_wsS RX8 63 yX8_in wsX8_in) := goodIn_app (goodIn_of _ (by decide +kernel)) ggX8_ratio_X8_in
set_option maxRecDepth 20000 in
theorem ggX8_ratio_X8_of : GoodIn wsX8_ratio wsX8_of := goodIn_r _ [16, 9, 17, 18, 19, 20, 21, 22, 23, 24, 25, 26, 27, 28, 29, 30, 31, 32, 33, 34, 35, 36, 37, 38, 39, 40] (by decide +kernel) (by decide +kernel)
set_option maxRecDepth 20000 in
theorem gX8_ratio_X8_of : GoodIn wsX8_ratio (wsV RX8 106 RX8 yX8_of wsX8_of) := goodIn_app (goodIn_of _ (by decide +kernel)) ggX8_ratio_X8_of
theorem dX8_ratio_0 : decode cX8_ratio 0 = .ok (.aload_n 0, 1) := by decide +kernel
theorem dX8_ratio_1 : decode cX8_ratio 1 = .ok (.iconst 0, 1) := by decide +kernel
theorem dX8_ratio_2 : decode cX8_ratio 2 = .ok (.putfield 59, 3) := by decide +kernel
theorem dX8_ratio_5 : decode cX8_ratio 5 = .ok (.aload_n 0, 1) := by decide +kernel
theorem dX8_ratio_6 : decode cX8_ratio 6 = .ok (.iload_n 1, 1) := by decide +kernel
theorem dX8_ratio_7 : decode cX8_ratio 7 = .ok (.invokevirtual 134, 3) := by decide +kernel
theorem dX8_ratio_10 : decode cX8_ratio 10 = .ok (.ifCond .eq 12, 3) := by decide +kernel
theorem dX8_ratio_13 : decode cX8_ratio 13 = .ok (.iload_n 2, 1) := by decide +kernel
theorem dX8_ratio_14 : decode cX8_ratio 14 = .ok (.iconst 0, 1) := by decide +kernel
theorem dX8_ratio_15 : decode cX8_ratio 15 = .ok (.iconst 1, 1) := by decide +kernel
theorem dX8_ratio_16 : decode cX8_ratio 16 = .ok (.invokestatic 63, 3) := by decide +kernel
theorem dX8_ratio_19 : decode cX8_ratio 19 = .ok (.ifCond .ne 7, 3) := by decide +kernel
theorem dX8_ratio_22 : decode cX8_ratio 22 = .ok (.ldc2_w 180, 3) := by decide +kernel
theorem dX8_ratio_25 : decode cX8_ratio 25 = .ok (.lreturn, 1) := by decide +kernel
theorem dX8_ratio_26 : decode cX8_ratio 26 = .ok (.lconst 1, 1) := by decide +kernel
theorem dX8_ratio_27 : decode cX8_ratio 27 = .ok (.lstore_n 3, 1) := by decide +kernel
theorem dX8_ratio_28 : decode cX8_ratio 28 = .ok (.lconst 1, 1) := by decide +kernel
theorem dX8_ratio_29 : decode cX8_ratio 29 = .ok (.lstore 5, 2) := by decide +kernel
theorem dX8_ratio_31 : decode cX8_ratio 31 = .ok (.iconst 0, 1) := by decide +kernel
theorem dX8_ratio_32 : decode cX8_ratio 32 = .ok (.istore 7, 2) := by decide +kernel
theorem dX8_ratio_34 : decode cX8_ratio 34 = .ok (.iload 7, 2) := by decide +kernel
theorem dX8_ratio_36 : decode cX8_ratio 36 = .ok (.iload_n 1, 1) := by decide +kernel
theorem dX8_ratio_37 : decode cX8_ratio 37 = .ok (.if_icmp .gt 41, 3) := by decide +kernel
theorem dX8_ratio_40 : decode cX8_ratio 40 = .ok (.lload_n 3, 1) := by decide +kernel
theorem dX8_ratio_41 : decode cX8_ratio 41 = .ok (.sipush 1000, 3) := by decide +kernel
theorem dX8_ratio_44 : decode cX8_ratio 44 = .ok (.aload_n 0, 1) := by decide +kernel
theorem dX8_ratio_45 : decode cX8_ratio 45 = .ok (.iload 7, 2) := by decide +kernel
theorem dX8_ratio_47 : decode cX8_ratio 47 = .ok (.bipush 7, 2) := by decide +kernel
theorem dX8_ratio_49 : decode cX8_ratio 49 = .ok (.invokevirtual 106, 3) := by decide +kernel
theorem dX8_ratio_52 : decode cX8_ratio 52 = .ok (.aload_n 0, 1) := by decide +kernel
theorem dX8_ratio_53 : decode cX8_ratio 53 = .ok (.iload 7, 2) := by decide +kernel
theorem dX8_ratio_55 : decode cX8_ratio 55 = .ok (.iconst 0, 1) := by decide +kernel
theorem dX8_ratio_56 : decode cX8_ratio 56 = .ok (.invokevirtual 106, 3) := by decide +kernel
theorem dX8_ratio_59 : decode cX8_ratio 59 = .ok (.imul, 1) := by decide +kernel
theorem dX8_ratio_60 : decode cX8_ratio 60 = .ok (.iadd, 1) := by decide +kernel
theorem dX8_ratio_61 : decode cX8_ratio 61 = .ok (.i2l, 1) := by decide +kernel
theorem dX8_ratio_62 : decode cX8_ratio 62 = .ok (.lmul, 1) := by decide +kernel
theorem dX8_ratio_63 : decode cX8_ratio 63 = .ok (.lstore_n 3, 1) := by decide +kernel
theorem dX8_ratio_64 : decode cX8_ratio 64 = .ok (.lload 5, 2) := by decide +kernel
theorem dX8_ratio_66 : decode cX8_ratio 66 = .ok (.ldc2_w 182, 3) := by decide +kernel
theorem dX8_ratio_69 : decode cX8_ratio 69 = .ok (.lmul, 1) := by decide +kernel
theorem dX8_ratio_70 : decode cX8_ratio 70 = .ok (.lstore 5, 2) := by decide +kernel
theorem dX8_ratio_72 : decode cX8_ratio 72 = .ok (.iinc 7 1, 3) := by decide +kernel
theorem dX8_ratio_75 : decode cX8_ratio 75 = .ok (.goto (-41), 3) := by decide +kernel
theorem dX8_ratio_78 : decode cX8_ratio 78 = .ok (.lload_n 3, 1) := by decide +kernel
theorem dX8_ratio_79 : decode cX8_ratio 79 = .ok (.lstore 7, 2) := by decide +kernel
theorem dX8_ratio_81 : decode cX8_ratio 81 = .ok (.lload 5, 2) := by decide +kernel
theorem dX8_ratio_83 : decode cX8_ratio 83 = .ok (.lstore 9, 2) := by decide +kernel
theorem dX8_ratio_85 : decode cX8_ratio 85 = .ok (.lload 9, 2) := by decide +kernel
theorem dX8_ratio_87 : decode cX8_ratio 87 = .ok (.lconst 0, 1) := by decide +kernel
theorem dX8_ratio_88 : decode cX8_ratio 88 = .ok (.lcmp, 1) := by decide +kernel
theorem dX8_ratio_89 : decode cX8_ratio 89 = .ok (.ifCond .eq 21, 3) := by decide +kernel
theorem dX8_ratio_92 : decode cX8_ratio 92 = .ok (.lload 7, 2) := by decide +kernel
theorem dX8_ratio_94 : decode cX8_ratio 94 = .ok (.lload 9, 2) := by decide +kernel
theorem dX8_ratio_96 : decode cX8_ratio 96 = .ok (.lrem, 1) := by decide +kernel
theorem dX8_ratio_97 : decode cX8_ratio 97 = .ok (.lstore 11, 2) := by decide +kernel
theorem dX8_ratio_99 : decode cX8_ratio 99 = .ok (.lload 9, 2) := by decide +kernel
theorem dX8_ratio_101 : decode cX8_ratio 101 = .ok (.lstore 7, 2) := by decide +kernel
theorem dX8_ratio_103 : decode cX8_ratio 103 = .ok (.lload 11, 2) := by decide +kernel
theorem dX8_ratio_105 : decode cX8_ratio 105 = .ok (.lstore 9, 2) := by decide +kernel
theorem dX8_ratio_107 : decode cX8_ratio 107 = .ok (.goto (-22), 3) := by decide +kernel
theorem dX8_ratio_110 : decode cX8_ratio 110 = .ok (.iload_n 2, 1) := by decide +kernel
theorem dX8_ratio_111 : decode cX8_ratio 111 = .ok (.ifCond .ne 10, 3) := by decide +kernel
theorem dX8_ratio_114 : decode cX8_ratio 114 = .ok (.lload_n 3, 1) := by decide +kernel
theorem dX8_ratio_115 : decode cX8_ratio 115 = .ok (.lload 7, 2) := by decide +kernel
theorem dX8_ratio_117 : decode cX8_ratio 117 = .ok (.ldiv, 1) := by decide +kernel
theorem dX8_ratio_118 : decode cX8_ratio 118 = .ok (.goto 8, 3) := by decide +kernel
theorem dX8_ratio_121 : decode cX8_ratio 121 = .ok (.lload 5, 2) := by decide +kernel
theorem dX8_ratio_123 : decode cX8_ratio 123 = .ok (.lload 7, 2) := by decide +kernel
theorem dX8_ratio_125 : decode cX8_ratio 125 = .ok (.ldiv, 1) := by decide +kernel
theorem dX8_ratio_126 : decode cX8_ratio 126 = .ok (.lreturn, 1) := by decide +kernel
set_option maxRecDepth 20000 in
theorem ggX8_waitOf_X8_of : GoodIn wsX8_waitOf wsX8_of := goodIn_r _ [5, 6, 7, 8, 9, 10, 11, 12, 13, 14, 15, 16, 17, 18, 19, 20, 21, 22, 23, 24, 25, 26, 27, 28, 29, 30] (by decide +kernel) (by decide +kernel)
set_option maxRecDepth 20000 in
theorem gX8_waitOf_X8_of : GoodIn wsX8_waitOf (wsV RX8 106 RX8 yX8_of wsX8_of) := goodIn_app (goodIn_of _ (by decide +kernel)) ggX8_waitOf_X8_of
theorem dX8_waitOf_0 : decode cX8_waitOf 0 = .ok (.aload_n 0, 1) := by decide +kernel
theorem dX8_waitOf_1 : decode cX8_waitOf 1 = .ok (.iconst 0, 1) := by decide +kernel
theorem dX8_waitOf_2 : decode cX8_waitOf 2 = .ok (.iconst 3, 1) := by decide +kernel
theorem dX8_waitOf_3 : decode cX8_waitOf 3 = .ok (.invokevirtual 106, 3) := by decide +kernel
theorem dX8_waitOf_6 : decode cX8_waitOf 6 = .ok (.istore_n 3, 1) := by decide +kernel
theorem dX8_waitOf_7 : decode cX8_waitOf 7 = .ok (.iconst 1, 1) := by decide +kernel
theorem dX8_waitOf_8 : decode cX8_waitOf 8 = .ok (.istore 4, 2) := by decide +kernel
theorem dX8_waitOf_10 : decode cX8_waitOf 10 = .ok (.iload 4, 2) := by decide +kernel
theorem dX8_waitOf_12 : decode cX8_waitOf 12 = .ok (.iload_n 1, 1) := by decide +kernel
theorem dX8_waitOf_13 : decode cX8_waitOf 13 = .ok (.if_icmp .gt 36, 3) := by decide +kernel
theorem dX8_waitOf_16 : decode cX8_waitOf 16 = .ok (.aload_n 0, 1) := by decide +kernel
theorem dX8_waitOf_17 : decode cX8_waitOf 17 = .ok (.iload 4, 2) := by decide +kernel
theorem dX8_waitOf_19 : decode cX8_waitOf 19 = .ok (.iconst 3, 1) := by decide +kernel
theorem dX8_waitOf_20 : decode cX8_waitOf 20 = .ok (.invokevirtual 106, 3) := by decide +kernel
theorem dX8_waitOf_23 : decode cX8_waitOf 23 = .ok (.iload_n 3, 1) := by decide +kernel
theorem dX8_waitOf_24 : decode cX8_waitOf 24 = .ok (.iload_n 2, 1) := by decide +kernel
theorem dX8_waitOf_25 : decode cX8_waitOf 25 = .ok (.iadd, 1) := by decide +kernel
theorem dX8_waitOf_26 : decode cX8_waitOf 26 = .ok (.if_icmp .le 13, 3) := by decide +kernel
theorem dX8_waitOf_29 : decode cX8_waitOf 29 = .ok (.aload_n 0, 1) := by decide +kernel
theorem dX8_waitOf_30 : decode cX8_waitOf 30 = .ok (.iload 4, 2) := by decide +kernel
theorem dX8_waitOf_32 : decode cX8_waitOf 32 = .ok (.iconst 3, 1) := by decide +kernel
theorem dX8_waitOf_33 : decode cX8_waitOf 33 = .ok (.invokevirtual 106, 3) := by decide +kernel
theorem dX8_waitOf_36 : decode cX8_waitOf 36 = .ok (.goto 6, 3) := by decide +kernel
theorem dX8_waitOf_39 : decode cX8_waitOf 39 = .ok (.iload_n 3, 1) := by decide +kernel
theorem dX8_waitOf_40 : decode cX8_waitOf 40 = .ok (.iload_n 2, 1) := by decide +kernel
theorem dX8_waitOf_41 : decode cX8_waitOf 41 = .ok (.iadd, 1) := by decide +kernel
theorem dX8_waitOf_42 : decode cX8_waitOf 42 = .ok (.istore_n 3, 1) := by decide +kernel
theorem dX8_waitOf_43 : decode cX8_waitOf 43 = .ok (.iinc 4 1, 3) := by decide +kernel
theorem dX8_waitOf_46 : decode cX8_waitOf 46 = .ok (.goto (-36), 3) := by decide +kernel
theorem dX8_waitOf_49 : decode cX8_waitOf 49 = .ok (.iload_n 3, 1) := by decide +kernel
theorem dX8_waitOf_50 : decode cX8_waitOf 50 = .ok (.ireturn, 1) := by decide +kernel
set_option maxRecDepth 20000 in
theorem ggX8_graded_X8_in : GoodIn wsX8_graded wsX8_in := goodIn_r _ [6] (by decide +kernel) (by decide +kernel)
set_option maxRecDepth 20000 in
theorem gX8_graded_X8_in : GoodIn wsX8_graded (va_wsS RX8 63 yX8_in wsX8_in) := goodIn_app (goodIn_of _ (by decide +kernel)) ggX8_graded_X8_in
set_option maxRecDepth 20000 in
theorem ggX8_graded_X8_of : GoodIn wsX8_graded wsX8_of := goodIn_r _ [10, 2, 11, 12, 13, 14, 15, 16, 17, 18, 19, 20, 21, 22, 23, 24, 25, 26, 27, 28, 29, 30, 31, 32, 33, 34] (by decide +kernel) (by decide +kernel)
set_option maxRecDepth 20000 in
theorem gX8_graded_X8_of : GoodIn wsX8_graded (wsV RX8 106 RX8 yX8_of wsX8_of) := goodIn_app (goodIn_of _ (by decide +kernel)) ggX8_graded_X8_of
theorem dX8_graded_0 : decode cX8_graded 0 = .ok (.aload_n 0, 1) := by decide +kernel
theorem dX8_graded_1 : decode cX8_graded 1 = .ok (.iconst 0, 1) := by decide +kernel
theorem dX8_graded_2 : decode cX8_graded 2 = .ok (.putfield 59, 3) := by decide +kernel
theorem dX8_graded_5 : decode cX8_graded 5 = .ok (.iload_n 1, 1) := by decide +kernel
theorem dX8_graded_6 : decode cX8_graded 6 = .ok (.iconst 0, 1) := by decide +kernel
theorem dX8_graded_7 : decode cX8_graded 7 = .ok (.bipush 9, 2) := by decide +kernel
theorem dX8_graded_9 : decode cX8_graded 9 = .ok (.invokestatic 63, 3) := by decide +kernel
theorem dX8_graded_12 : decode cX8_graded 12 = .ok (.ifCond .ne 5, 3) := by decide +kernel
theorem dX8_graded_15 : decode cX8_graded 15 = .ok (.iconst (-1), 1) := by decide +kernel
theorem dX8_graded_16 : decode cX8_graded 16 = .ok (.ireturn, 1) := by decide +kernel
theorem dX8_graded_17 : decode cX8_graded 17 = .ok (.iconst 1, 1) := by decide +kernel
theorem dX8_graded_18 : decode cX8_graded 18 = .ok (.istore_n 2, 1) := by decide +kernel
theorem dX8_graded_19 : decode cX8_graded 19 = .ok (.iconst 1, 1) := by decide +kernel
theorem dX8_graded_20 : decode cX8_graded 20 = .ok (.istore_n 3, 1) := by decide +kernel
theorem dX8_graded_21 : decode cX8_graded 21 = .ok (.iload_n 3, 1) := by decide +kernel
theorem dX8_graded_22 : decode cX8_graded 22 = .ok (.aload_n 0, 1) := by decide +kernel
theorem dX8_graded_23 : decode cX8_graded 23 = .ok (.getfield 13, 3) := by decide +kernel
theorem dX8_graded_26 : decode cX8_graded 26 = .ok (.iconst 0, 1) := by decide +kernel
theorem dX8_graded_27 : decode cX8_graded 27 = .ok (.iaload, 1) := by decide +kernel
theorem dX8_graded_28 : decode cX8_graded 28 = .ok (.if_icmp .ge 38, 3) := by decide +kernel
theorem dX8_graded_31 : decode cX8_graded 31 = .ok (.iload_n 2, 1) := by decide +kernel
theorem dX8_graded_32 : decode cX8_graded 32 = .ok (.ifCond .eq 26, 3) := by decide +kernel
theorem dX8_graded_35 : decode cX8_graded 35 = .ok (.aload_n 0, 1) := by decide +kernel
theorem dX8_graded_36 : decode cX8_graded 36 = .ok (.iload_n 3, 1) := by decide +kernel
theorem dX8_graded_37 : decode cX8_graded 37 = .ok (.iconst 3, 1) := by decide +kernel
theorem dX8_graded_38 : decode cX8_graded 38 = .ok (.invokevirtual 106, 3) := by decide +kernel
theorem dX8_graded_41 : decode cX8_graded 41 = .ok (.aload_n 0, 1) := by decide +kernel
theorem dX8_graded_42 : decode cX8_graded 42 = .ok (.iload_n 3, 1) := by decide +kernel
theorem dX8_graded_43 : decode cX8_graded 43 = .ok (.iconst 1, 1) := by decide +kernel
theorem dX8_graded_44 : decode cX8_graded 44 = .ok (.isub, 1) := by decide +kernel
theorem dX8_graded_45 : decode cX8_graded 45 = .ok (.iconst 3, 1) := by decide +kernel
theorem dX8_graded_46 : decode cX8_graded 46 = .ok (.invokevirtual 106, 3) := by decide +kernel
theorem dX8_graded_49 : decode cX8_graded 49 = .ok (.isub, 1) := by decide +kernel
theorem dX8_graded_50 : decode cX8_graded 50 = .ok (.iload_n 1, 1) := by decide +kernel
theorem dX8_graded_51 : decode cX8_graded 51 = .ok (.if_icmp .lt 7, 3) := by decide +kernel
theorem dX8_graded_54 : decode cX8_graded 54 = .ok (.iconst 1, 1) := by decide +kernel
theorem dX8_graded_55 : decode cX8_graded 55 = .ok (.goto 4, 3) := by decide +kernel
theorem dX8_graded_58 : decode cX8_graded 58 = .ok (.iconst 0, 1) := by decide +kernel
theorem dX8_graded_59 : decode cX8_graded 59 = .ok (.istore_n 2, 1) := by decide +kernel
theorem dX8_graded_60 : decode cX8_graded 60 = .ok (.iinc 3 1, 3) := by decide +kernel
theorem dX8_graded_63 : decode cX8_graded 63 = .ok (.goto (-42), 3) := by decide +kernel
theorem dX8_graded_66 : decode cX8_graded 66 = .ok (.iload_n 2, 1) := by decide +kernel
theorem dX8_graded_67 : decode cX8_graded 67 = .ok (.ifCond .eq 7, 3) := by decide +kernel
theorem dX8_graded_70 : decode cX8_graded 70 = .ok (.iconst 1, 1) := by decide +kernel
theorem dX8_graded_71 : decode cX8_graded 71 = .ok (.goto 4, 3) := by decide +kernel
theorem dX8_graded_74 : decode cX8_graded 74 = .ok (.iconst 0, 1) := by decide +kernel
theorem dX8_graded_75 : decode cX8_graded 75 = .ok (.ireturn, 1) := by decide +kernel
set_option maxRecDepth 20000 in
theorem ggX8_waits_X8_isStage : GoodIn wsX8_waits wsX8_isStage := goodIn_r _ [6, 7, 8, 9, 5, 10, 19, 20, 21, 22, 23, 24, 25, 26, 27, 28, 29, 30, 31, 32, 33, 34, 35, 36, 37, 38, 39, 40, 41, 42] (by decide +kernel) (by decide +kernel)
set_option maxRecDepth 20000 in
theorem gX8_waits_X8_isStage : GoodIn wsX8_waits (wsV RX8 134 RX8 yX8_isStage wsX8_isStage) := goodIn_app (goodIn_of _ (by decide +kernel)) ggX8_waits_X8_isStage
set_option maxRecDepth 20000 in
theorem ggX8_waits_X8_in : GoodIn wsX8_waits wsX8_in := goodIn_r _ [10] (by decide +kernel) (by decide +kernel)
set_option maxRecDepth 20000 in
theorem gX8_waits_X8_in : GoodIn wsX8_waits (va_wsS RX8 63 yX8_in wsX8_in) := goodIn_app (goodIn_of _ (by decide +kernel)) ggX8_waits_X8_in
set_option maxRecDepth 20000 in
theorem ggX8_waits_X8_waitOf : GoodIn wsX8_waits wsX8_waitOf := goodIn_r _ [14, 15, 16, 17, 5, 18, 7, 19, 20, 21, 22, 23, 24, 25, 26, 27, 28, 29, 30, 31, 32, 33, 34, 35, 36, 37, 38, 39, 40, 41, 42] (by decide +kernel) (by decide +kernel)
set_option maxRecDepth 20000 in
theorem gX8_waits_X8_waitOf : GoodIn wsX8_waits (wsV RX8 184 RX8 yX8_waitOf wsX8_waitOf) := goodIn_app (goodIn_of _ (by decide +kernel)) ggX8_waits_X8_waitOf
theorem dX8_waits_0 : decode cX8_waits 0 = .ok (.aload_n 0, 1) := by decide +kernel
theorem dX8_waits_1 : decode cX8_waits 1 = .ok (.iconst 0, 1) := by decide +kernel
theorem dX8_waits_2 : decode cX8_waits 2 = .ok (.putfield 59, 3) := by decide +kernel
theorem dX8_waits_5 : decode cX8_waits 5 = .ok (.aload_n 0, 1) := by decide +kernel
theorem dX8_waits_6 : decode cX8_waits 6 = .ok (.iload_n 1, 1) := by decide +kernel
theorem dX8_waits_7 : decode cX8_waits 7 = .ok (.invokevirtual 134, 3) := by decide +kernel
theorem dX8_waits_10 : decode cX8_waits 10 = .ok (.ifCond .eq 22, 3) := by decide +kernel
theorem dX8_waits_13 : decode cX8_waits 13 = .ok (.iload_n 2, 1) := by decide +kernel
theorem dX8_waits_14 : decode cX8_waits 14 = .ok (.iconst 0, 1) := by decide +kernel
theorem dX8_waits_15 : decode cX8_waits 15 = .ok (.bipush 9, 2) := by decide +kernel
theorem dX8_waits_17 : decode cX8_waits 17 = .ok (.invokestatic 63, 3) := by decide +kernel
theorem dX8_waits_20 : decode cX8_waits 20 = .ok (.ifCond .eq 12, 3) := by decide +kernel
theorem dX8_waits_23 : decode cX8_waits 23 = .ok (.aload_n 0, 1) := by decide +kernel
theorem dX8_waits_24 : decode cX8_waits 24 = .ok (.iload_n 1, 1) := by decide +kernel
theorem dX8_waits_25 : decode cX8_waits 25 = .ok (.iload_n 2, 1) := by decide +kernel
theorem dX8_waits_26 : decode cX8_waits 26 = .ok (.invokevirtual 184, 3) := by decide +kernel
theorem dX8_waits_29 : decode cX8_waits 29 = .ok (.goto 4, 3) := by decide +kernel
theorem dX8_waits_32 : decode cX8_waits 32 = .ok (.iconst (-1), 1) := by decide +kernel
theorem dX8_waits_33 : decode cX8_waits 33 = .ok (.ireturn, 1) := by decide +kernel
set_option maxRecDepth 20000 in
theorem ggX8_good_X8_goodOf : GoodIn wsX8_good wsX8_goodOf := goodIn_r _ [6, 7, 8, 9, 10, 5, 11, 1, 12, 13, 14, 15, 16, 17, 18, 19, 20, 21, 22, 23, 24, 25, 26, 27, 28, 29, 30, 31, 32, 33, 34, 35] (by decide +kernel) (by decide +kernel)
set_option maxRecDepth 20000 in
theorem gX8_good_X8_goodOf : GoodIn wsX8_good (wsV RX8 109 RX8 yX8_goodOf wsX8_goodOf) := goodIn_app (goodIn_of _ (by decide +kernel)) ggX8_good_X8_goodOf
theorem dX8_good_0 : decode cX8_good 0 = .ok (.iconst 0, 1) := by decide +kernel
theorem dX8_good_1 : decode cX8_good 1 = .ok (.istore_n 1, 1) := by decide +kernel
theorem dX8_good_2 : decode cX8_good 2 = .ok (.iconst 0, 1) := by decide +kernel
theorem dX8_good_3 : decode cX8_good 3 = .ok (.istore_n 2, 1) := by decide +kernel
theorem dX8_good_4 : decode cX8_good 4 = .ok (.iload_n 2, 1) := by decide +kernel
theorem dX8_good_5 : decode cX8_good 5 = .ok (.aload_n 0, 1) := by decide +kernel
theorem dX8_good_6 : decode cX8_good 6 = .ok (.getfield 13, 3) := by decide +kernel
theorem dX8_good_9 : decode cX8_good 9 = .ok (.iconst 0, 1) := by decide +kernel
theorem dX8_good_10 : decode cX8_good 10 = .ok (.iaload, 1) := by decide +kernel
theorem dX8_good_11 : decode cX8_good 11 = .ok (.if_icmp .ge 25, 3) := by decide +kernel
theorem dX8_good_14 : decode cX8_good 14 = .ok (.iload_n 1, 1) := by decide +kernel
theorem dX8_good_15 : decode cX8_good 15 = .ok (.aload_n 0, 1) := by decide +kernel
theorem dX8_good_16 : decode cX8_good 16 = .ok (.iload_n 2, 1) := by decide +kernel
theorem dX8_good_17 : decode cX8_good 17 = .ok (.invokevirtual 109, 3) := by decide +kernel
theorem dX8_good_20 : decode cX8_good 20 = .ok (.ifCond .ne 7, 3) := by decide +kernel
theorem dX8_good_23 : decode cX8_good 23 = .ok (.iconst 1, 1) := by decide +kernel
theorem dX8_good_24 : decode cX8_good 24 = .ok (.goto 4, 3) := by decide +kernel
theorem dX8_good_27 : decode cX8_good 27 = .ok (.iconst 0, 1) := by decide +kernel
theorem dX8_good_28 : decode cX8_good 28 = .ok (.iadd, 1) := by decide +kernel
theorem dX8_good_29 : decode cX8_good 29 = .ok (.istore_n 1, 1) := by decide +kernel
theorem dX8_good_30 : decode cX8_good 30 = .ok (.iinc 2 1, 3) := by decide +kernel
theorem dX8_good_33 : decode cX8_good 33 = .ok (.goto (-29), 3) := by decide +kernel
theorem dX8_good_36 : decode cX8_good 36 = .ok (.iload_n 1, 1) := by decide +kernel
theorem dX8_good_37 : decode cX8_good 37 = .ok (.ireturn, 1) := by decide +kernel
theorem dX8_unlike_0 : decode cX8_unlike 0 = .ok (.iconst 0, 1) := by decide +kernel
theorem dX8_unlike_1 : decode cX8_unlike 1 = .ok (.istore_n 1, 1) := by decide +kernel
theorem dX8_unlike_2 : decode cX8_unlike 2 = .ok (.iconst 0, 1) := by decide +kernel
theorem dX8_unlike_3 : decode cX8_unlike 3 = .ok (.istore_n 2, 1) := by decide +kernel
theorem dX8_unlike_4 : decode cX8_unlike 4 = .ok (.iload_n 2, 1) := by decide +kernel
theorem dX8_unlike_5 : decode cX8_unlike 5 = .ok (.aload_n 0, 1) := by decide +kernel
theorem dX8_unlike_6 : decode cX8_unlike 6 = .ok (.getfield 13, 3) := by decide +kernel
theorem dX8_unlike_9 : decode cX8_unlike 9 = .ok (.iconst 5, 1) := by decide +kernel
theorem dX8_unlike_10 : decode cX8_unlike 10 = .ok (.iaload, 1) := by decide +kernel
theorem dX8_unlike_11 : decode cX8_unlike 11 = .ok (.if_icmp .ge 108, 3) := by decide +kernel
theorem dX8_unlike_14 : decode cX8_unlike 14 = .ok (.iconst 0, 1) := by decide +kernel
theorem dX8_unlike_15 : decode cX8_unlike 15 = .ok (.istore_n 3, 1) := by decide +kernel
theorem dX8_unlike_16 : decode cX8_unlike 16 = .ok (.iconst 0, 1) := by decide +kernel
theorem dX8_unlike_17 : decode cX8_unlike 17 = .ok (.istore 4, 2) := by decide +kernel
theorem dX8_unlike_19 : decode cX8_unlike 19 = .ok (.iload 4, 2) := by decide +kernel
theorem dX8_unlike_21 : decode cX8_unlike 21 = .ok (.iload_n 2, 1) := by decide +kernel
theorem dX8_unlike_22 : decode cX8_unlike 22 = .ok (.if_icmp .ge 79, 3) := by decide +kernel
theorem dX8_unlike_25 : decode cX8_unlike 25 = .ok (.iload_n 3, 1) := by decide +kernel
theorem dX8_unlike_26 : decode cX8_unlike 26 = .ok (.ifCond .ne 63, 3) := by decide +kernel
theorem dX8_unlike_29 : decode cX8_unlike 29 = .ok (.aload_n 0, 1) := by decide +kernel
theorem dX8_unlike_30 : decode cX8_unlike 30 = .ok (.getfield 13, 3) := by decide +kernel
theorem dX8_unlike_33 : decode cX8_unlike 33 = .ok (.bipush 54, 2) := by decide +kernel
theorem dX8_unlike_35 : decode cX8_unlike 35 = .ok (.iconst 3, 1) := by decide +kernel
theorem dX8_unlike_36 : decode cX8_unlike 36 = .ok (.iload 4, 2) := by decide +kernel
theorem dX8_unlike_38 : decode cX8_unlike 38 = .ok (.imul, 1) := by decide +kernel
theorem dX8_unlike_39 : decode cX8_unlike 39 = .ok (.iadd, 1) := by decide +kernel
theorem dX8_unlike_40 : decode cX8_unlike 40 = .ok (.iconst 1, 1) := by decide +kernel
theorem dX8_unlike_41 : decode cX8_unlike 41 = .ok (.iadd, 1) := by decide +kernel
theorem dX8_unlike_42 : decode cX8_unlike 42 = .ok (.iaload, 1) := by decide +kernel
theorem dX8_unlike_43 : decode cX8_unlike 43 = .ok (.aload_n 0, 1) := by decide +kernel
theorem dX8_unlike_44 : decode cX8_unlike 44 = .ok (.getfield 13, 3) := by decide +kernel
theorem dX8_unlike_47 : decode cX8_unlike 47 = .ok (.bipush 54, 2) := by decide +kernel
theorem dX8_unlike_49 : decode cX8_unlike 49 = .ok (.iconst 3, 1) := by decide +kernel
theorem dX8_unlike_50 : decode cX8_unlike 50 = .ok (.iload_n 2, 1) := by decide +kernel
theorem dX8_unlike_51 : decode cX8_unlike 51 = .ok (.imul, 1) := by decide +kernel
theorem dX8_unlike_52 : decode cX8_unlike 52 = .ok (.iadd, 1) := by decide +kernel
theorem dX8_unlike_53 : decode cX8_unlike 53 = .ok (.iconst 1, 1) := by decide +kernel
theorem dX8_unlike_54 : decode cX8_unlike 54 = .ok (.iadd, 1) := by decide +kernel
theorem dX8_unlike_55 : decode cX8_unlike 55 = .ok (.iaload, 1) := by decide +kernel
theorem dX8_unlike_56 : decode cX8_unlike 56 = .ok (.if_icmp .ne 37, 3) := by decide +kernel
theorem dX8_unlike_59 : decode cX8_unlike 59 = .ok (.aload_n 0, 1) := by decide +kernel
theorem dX8_unlike_60 : decode cX8_unlike 60 = .ok (.getfield 13, 3) := by decide +kernel
theorem dX8_unlike_63 : decode cX8_unlike 63 = .ok (.bipush 54, 2) := by decide +kernel
theorem dX8_unlike_65 : decode cX8_unlike 65 = .ok (.iconst 3, 1) := by decide +kernel
theorem dX8_unlike_66 : decode cX8_unlike 66 = .ok (.iload 4, 2) := by decide +kernel
theorem dX8_unlike_68 : decode cX8_unlike 68 = .ok (.imul, 1) := by decide +kernel
theorem dX8_unlike_69 : decode cX8_unlike 69 = .ok (.iadd, 1) := by decide +kernel
theorem dX8_unlike_70 : decode cX8_unlike 70 = .ok (.iconst 2, 1) := by decide +kernel
theorem dX8_unlike_71 : decode cX8_unlike 71 = .ok (.iadd, 1) := by decide +kernel
theorem dX8_unlike_72 : decode cX8_unlike 72 = .ok (.iaload, 1) := by decide +kernel
theorem dX8_unlike_73 : decode cX8_unlike 73 = .ok (.aload_n 0, 1) := by decide +kernel
theorem dX8_unlike_74 : decode cX8_unlike 74 = .ok (.getfield 13, 3) := by decide +kernel
theorem dX8_unlike_77 : decode cX8_unlike 77 = .ok (.bipush 54, 2) := by decide +kernel
theorem dX8_unlike_79 : decode cX8_unlike 79 = .ok (.iconst 3, 1) := by decide +kernel
theorem dX8_unlike_80 : decode cX8_unlike 80 = .ok (.iload_n 2, 1) := by decide +kernel
theorem dX8_unlike_81 : decode cX8_unlike 81 = .ok (.imul, 1) := by decide +kernel
theorem dX8_unlike_82 : decode cX8_unlike 82 = .ok (.iadd, 1) := by decide +kernel
theorem dX8_unlike_83 : decode cX8_unlike 83 = .ok (.iconst 2, 1) := by decide +kernel
theorem dX8_unlike_84 : decode cX8_unlike 84 = .ok (.iadd, 1) := by decide +kernel
theorem dX8_unlike_85 : decode cX8_unlike 85 = .ok (.iaload, 1) := by decide +kernel
theorem dX8_unlike_86 : decode cX8_unlike 86 = .ok (.if_icmp .ne 7, 3) := by decide +kernel
theorem dX8_unlike_89 : decode cX8_unlike 89 = .ok (.iconst 1, 1) := by decide +kernel
theorem dX8_unlike_90 : decode cX8_unlike 90 = .ok (.goto 4, 3) := by decide +kernel
theorem dX8_unlike_93 : decode cX8_unlike 93 = .ok (.iconst 0, 1) := by decide +kernel
theorem dX8_unlike_94 : decode cX8_unlike 94 = .ok (.istore_n 3, 1) := by decide +kernel
theorem dX8_unlike_95 : decode cX8_unlike 95 = .ok (.iinc 4 1, 3) := by decide +kernel
theorem dX8_unlike_98 : decode cX8_unlike 98 = .ok (.goto (-79), 3) := by decide +kernel
theorem dX8_unlike_101 : decode cX8_unlike 101 = .ok (.iload_n 1, 1) := by decide +kernel
theorem dX8_unlike_102 : decode cX8_unlike 102 = .ok (.iload_n 3, 1) := by decide +kernel
theorem dX8_unlike_103 : decode cX8_unlike 103 = .ok (.ifCond .eq 7, 3) := by decide +kernel
theorem dX8_unlike_106 : decode cX8_unlike 106 = .ok (.iconst 0, 1) := by decide +kernel
theorem dX8_unlike_107 : decode cX8_unlike 107 = .ok (.goto 4, 3) := by decide +kernel
theorem dX8_unlike_110 : decode cX8_unlike 110 = .ok (.iconst 1, 1) := by decide +kernel
theorem dX8_unlike_111 : decode cX8_unlike 111 = .ok (.iadd, 1) := by decide +kernel
theorem dX8_unlike_112 : decode cX8_unlike 112 = .ok (.istore_n 1, 1) := by decide +kernel
theorem dX8_unlike_113 : decode cX8_unlike 113 = .ok (.iinc 2 1, 3) := by decide +kernel
theorem dX8_unlike_116 : decode cX8_unlike 116 = .ok (.goto (-112), 3) := by decide +kernel
theorem dX8_unlike_119 : decode cX8_unlike 119 = .ok (.iload_n 1, 1) := by decide +kernel
theorem dX8_unlike_120 : decode cX8_unlike 120 = .ok (.ireturn, 1) := by decide +kernel
set_option maxRecDepth 20000 in
theorem ggX8_count_X8_lays : GoodIn wsX8_count wsX8_lays := goodIn_r _ [9, 2, 10, 11, 12, 13, 14, 15, 16, 17, 8, 18, 19, 20, 21, 22, 23, 24, 25, 26, 27, 28, 49, 50, 51, 52, 53, 54, 55, 56, 57, 58, 59, 60, 61, 62, 63, 64, 65, 66, 67, 68, 69, 70, 71, 72] (by decide +kernel) (by decide +kernel)
set_option maxRecDepth 20000 in
theorem gX8_count_X8_lays : GoodIn wsX8_count (wsV RX8 119 RX8 yX8_lays wsX8_lays) := goodIn_app (goodIn_of _ (by decide +kernel)) ggX8_count_X8_lays
set_option maxRecDepth 20000 in
theorem ggX8_count_X8_good : GoodIn wsX8_count wsX8_good := goodIn_r _ [32, 2, 19, 20, 21, 8, 22, 12, 15, 16, 17, 18, 49, 50, 51, 52, 53, 54, 55, 56, 57, 58, 59, 60, 61, 62, 63, 64, 65, 66, 67, 68, 69, 70, 71, 72] (by decide +kernel) (by decide +kernel)
set_option maxRecDepth 20000 in
theorem gX8_count_X8_good : GoodIn wsX8_count (wsV RX8 187 RX8 yX8_good wsX8_good) := goodIn_app (goodIn_of _ (by decide +kernel)) ggX8_count_X8_good
set_option maxRecDepth 20000 in
theorem ggX8_count_X8_stuck : GoodIn wsX8_count wsX8_stuck := goodIn_r _ [36, 2, 15, 16, 17, 8, 18, 49, 50, 51, 52, 53, 54, 55, 56, 57, 58, 59, 60, 61, 62, 63, 64, 65, 66, 67, 68, 69, 70, 71, 72] (by decide +kernel) (by decide +kernel)
set_option maxRecDepth 20000 in
theorem gX8_count_X8_stuck : GoodIn wsX8_count (wsV RX8 137 RX8 yX8_stuck wsX8_stuck) := goodIn_app (goodIn_of _ (by decide +kernel)) ggX8_count_X8_stuck
set_option maxRecDepth 20000 in
theorem ggX8_count_X8_offOf : GoodIn wsX8_count wsX8_offOf := goodIn_r _ [40, 2, 12, 15, 16, 17, 8, 18, 49, 50, 51, 52, 53, 54, 55, 56, 57, 58, 59, 60, 61, 62, 63, 64, 65, 66, 67, 68, 69, 70, 71, 72] (by decide +kernel) (by decide +kernel)
set_option maxRecDepth 20000 in
theorem gX8_count_X8_offOf : GoodIn wsX8_count (wsV RX8 171 RX8 yX8_offOf wsX8_offOf) := goodIn_app (goodIn_of _ (by decide +kernel)) ggX8_count_X8_offOf
set_option maxRecDepth 20000 in
theorem ggX8_count_X8_isQuiet : GoodIn wsX8_count wsX8_isQuiet := goodIn_r _ [44, 2, 14, 49, 50, 51, 52, 53, 54, 55, 56, 57, 58, 59, 60, 61, 62, 63, 64, 65, 66, 67, 68, 69, 70, 71, 72] (by decide +kernel) (by decide +kernel)
set_option maxRecDepth 20000 in
theorem gX8_count_X8_isQuiet : GoodIn wsX8_count (wsV RX8 157 RX8 yX8_isQuiet wsX8_isQuiet) := goodIn_app (goodIn_of _ (by decide +kernel)) ggX8_count_X8_isQuiet
set_option maxRecDepth 20000 in
theorem ggX8_count_X8_unlike : GoodIn wsX8_count wsX8_unlike := goodIn_r _ [48, 2, 49, 50, 51, 52, 53, 54, 55, 56, 57, 58, 59, 60, 61, 62, 63, 64, 65, 66, 67, 68, 69, 70, 71, 72] (by decide +kernel) (by decide +kernel)
set_option maxRecDepth 20000 in
theorem gX8_count_X8_unlike : GoodIn wsX8_count (wsV RX8 190 RX8 yX8_unlike wsX8_unlike) := goodIn_app (goodIn_of _ (by decide +kernel)) ggX8_count_X8_unlike
theorem dX8_count_0 : decode cX8_count 0 = .ok (.aload_n 0, 1) := by decide +kernel
theorem dX8_count_1 : decode cX8_count 1 = .ok (.iconst 0, 1) := by decide +kernel
theorem dX8_count_2 : decode cX8_count 2 = .ok (.putfield 59, 3) := by decide +kernel
theorem dX8_count_5 : decode cX8_count 5 = .ok (.aload_n 0, 1) := by decide +kernel
theorem dX8_count_6 : decode cX8_count 6 = .ok (.invokevirtual 119, 3) := by decide +kernel
theorem dX8_count_9 : decode cX8_count 9 = .ok (.iload_n 1, 1) := by decide +kernel
theorem dX8_count_10 : decode cX8_count 10 = .ok (.tableswitch 112 0 11 #[62, 62, 62, 62, 62, 69, 74, 79, 84, 89, 94, 107], 62) := by decide +kernel
theorem dX8_count_72 : decode cX8_count 72 = .ok (.aload_n 0, 1) := by decide +kernel
theorem dX8_count_73 : decode cX8_count 73 = .ok (.getfield 13, 3) := by decide +kernel
theorem dX8_count_76 : decode cX8_count 76 = .ok (.iload_n 1, 1) := by decide +kernel
theorem dX8_count_77 : decode cX8_count 77 = .ok (.iaload, 1) := by decide +kernel
theorem dX8_count_78 : decode cX8_count 78 = .ok (.ireturn, 1) := by decide +kernel
theorem dX8_count_79 : decode cX8_count 79 = .ok (.aload_n 0, 1) := by decide +kernel
theorem dX8_count_80 : decode cX8_count 80 = .ok (.invokevirtual 187, 3) := by decide +kernel
theorem dX8_count_83 : decode cX8_count 83 = .ok (.ireturn, 1) := by decide +kernel
theorem dX8_count_84 : decode cX8_count 84 = .ok (.aload_n 0, 1) := by decide +kernel
theorem dX8_count_85 : decode cX8_count 85 = .ok (.invokevirtual 137, 3) := by decide +kernel
theorem dX8_count_88 : decode cX8_count 88 = .ok (.ireturn, 1) := by decide +kernel
theorem dX8_count_89 : decode cX8_count 89 = .ok (.aload_n 0, 1) := by decide +kernel
theorem dX8_count_90 : decode cX8_count 90 = .ok (.invokevirtual 171, 3) := by decide +kernel
theorem dX8_count_93 : decode cX8_count 93 = .ok (.ireturn, 1) := by decide +kernel
theorem dX8_count_94 : decode cX8_count 94 = .ok (.aload_n 0, 1) := by decide +kernel
theorem dX8_count_95 : decode cX8_count 95 = .ok (.getfield 103, 3) := by decide +kernel
theorem dX8_count_98 : decode cX8_count 98 = .ok (.ireturn, 1) := by decide +kernel
theorem dX8_count_99 : decode cX8_count 99 = .ok (.aload_n 0, 1) := by decide +kernel
theorem dX8_count_100 : decode cX8_count 100 = .ok (.getfield 67, 3) := by decide +kernel
theorem dX8_count_103 : decode cX8_count 103 = .ok (.ireturn, 1) := by decide +kernel
theorem dX8_count_104 : decode cX8_count 104 = .ok (.aload_n 0, 1) := by decide +kernel
theorem dX8_count_105 : decode cX8_count 105 = .ok (.invokevirtual 157, 3) := by decide +kernel
theorem dX8_count_108 : decode cX8_count 108 = .ok (.ifCond .eq 7, 3) := by decide +kernel
theorem dX8_count_111 : decode cX8_count 111 = .ok (.iconst 1, 1) := by decide +kernel
theorem dX8_count_112 : decode cX8_count 112 = .ok (.goto 4, 3) := by decide +kernel
theorem dX8_count_115 : decode cX8_count 115 = .ok (.iconst 0, 1) := by decide +kernel
theorem dX8_count_116 : decode cX8_count 116 = .ok (.ireturn, 1) := by decide +kernel
theorem dX8_count_117 : decode cX8_count 117 = .ok (.aload_n 0, 1) := by decide +kernel
theorem dX8_count_118 : decode cX8_count 118 = .ok (.invokevirtual 190, 3) := by decide +kernel
theorem dX8_count_121 : decode cX8_count 121 = .ok (.ireturn, 1) := by decide +kernel
theorem dX8_count_122 : decode cX8_count 122 = .ok (.iconst (-1), 1) := by decide +kernel
theorem dX8_count_123 : decode cX8_count 123 = .ok (.ireturn, 1) := by decide +kernel
end
section
theorem dJ6_bitCount_0f7a4_0 : decode cJ6_bitCount_0f7a4 0 = .ok (.iload_n 0, 1) := by decide +kernel
theorem dJ6_bitCount_0f7a4_1 : decode cJ6_bitCount_0f7a4 1 = .ok (.iload_n 0, 1) := by decide +kernel
theorem dJ6_bitCount_0f7a4_2 : decode cJ6_bitCount_0f7a4 2 = .ok (.iconst 1, 1) := by decide +kernel
theorem dJ6_bitCount_0f7a4_3 : decode cJ6_bitCount_0f7a4 3 = .ok (.iushr, 1) := by decide +kernel
theorem dJ6_bitCount_0f7a4_4 : decode cJ6_bitCount_0f7a4 4 = .ok (.ldc_w 265, 3) := by decide +kernel
theorem dJ6_bitCount_0f7a4_7 : decode cJ6_bitCount_0f7a4 7 = .ok (.iand, 1) := by decide +kernel
theorem dJ6_bitCount_0f7a4_8 : decode cJ6_bitCount_0f7a4 8 = .ok (.isub, 1) := by decide +kernel
theorem dJ6_bitCount_0f7a4_9 : decode cJ6_bitCount_0f7a4 9 = .ok (.istore_n 0, 1) := by decide +kernel
theorem dJ6_bitCount_0f7a4_10 : decode cJ6_bitCount_0f7a4 10 = .ok (.iload_n 0, 1) := by decide +kernel
theorem dJ6_bitCount_0f7a4_11 : decode cJ6_bitCount_0f7a4 11 = .ok (.ldc_w 266, 3) := by decide +kernel
theorem dJ6_bitCount_0f7a4_14 : decode cJ6_bitCount_0f7a4 14 = .ok (.iand, 1) := by decide +kernel
theorem dJ6_bitCount_0f7a4_15 : decode cJ6_bitCount_0f7a4 15 = .ok (.iload_n 0, 1) := by decide +kernel
theorem dJ6_bitCount_0f7a4_16 : decode cJ6_bitCount_0f7a4 16 = .ok (.iconst 2, 1) := by decide +kernel
theorem dJ6_bitCount_0f7a4_17 : decode cJ6_bitCount_0f7a4 17 = .ok (.iushr, 1) := by decide +kernel
theorem dJ6_bitCount_0f7a4_18 : decode cJ6_bitCount_0f7a4 18 = .ok (.ldc_w 266, 3) := by decide +kernel
theorem dJ6_bitCount_0f7a4_21 : decode cJ6_bitCount_0f7a4 21 = .ok (.iand, 1) := by decide +kernel
theorem dJ6_bitCount_0f7a4_22 : decode cJ6_bitCount_0f7a4 22 = .ok (.iadd, 1) := by decide +kernel
theorem dJ6_bitCount_0f7a4_23 : decode cJ6_bitCount_0f7a4 23 = .ok (.istore_n 0, 1) := by decide +kernel
theorem dJ6_bitCount_0f7a4_24 : decode cJ6_bitCount_0f7a4 24 = .ok (.iload_n 0, 1) := by decide +kernel
theorem dJ6_bitCount_0f7a4_25 : decode cJ6_bitCount_0f7a4 25 = .ok (.iload_n 0, 1) := by decide +kernel
theorem dJ6_bitCount_0f7a4_26 : decode cJ6_bitCount_0f7a4 26 = .ok (.iconst 4, 1) := by decide +kernel
theorem dJ6_bitCount_0f7a4_27 : decode cJ6_bitCount_0f7a4 27 = .ok (.iushr, 1) := by decide +kernel
theorem dJ6_bitCount_0f7a4_28 : decode cJ6_bitCount_0f7a4 28 = .ok (.iadd, 1) := by decide +kernel
theorem dJ6_bitCount_0f7a4_29 : decode cJ6_bitCount_0f7a4 29 = .ok (.ldc_w 267, 3) := by decide +kernel
theorem dJ6_bitCount_0f7a4_32 : decode cJ6_bitCount_0f7a4 32 = .ok (.iand, 1) := by decide +kernel
theorem dJ6_bitCount_0f7a4_33 : decode cJ6_bitCount_0f7a4 33 = .ok (.istore_n 0, 1) := by decide +kernel
theorem dJ6_bitCount_0f7a4_34 : decode cJ6_bitCount_0f7a4 34 = .ok (.iload_n 0, 1) := by decide +kernel
theorem dJ6_bitCount_0f7a4_35 : decode cJ6_bitCount_0f7a4 35 = .ok (.iload_n 0, 1) := by decide +kernel
theorem dJ6_bitCount_0f7a4_36 : decode cJ6_bitCount_0f7a4 36 = .ok (.bipush 8, 2) := by decide +kernel
theorem dJ6_bitCount_0f7a4_38 : decode cJ6_bitCount_0f7a4 38 = .ok (.iushr, 1) := by decide +kernel
theorem dJ6_bitCount_0f7a4_39 : decode cJ6_bitCount_0f7a4 39 = .ok (.iadd, 1) := by decide +kernel
theorem dJ6_bitCount_0f7a4_40 : decode cJ6_bitCount_0f7a4 40 = .ok (.istore_n 0, 1) := by decide +kernel
theorem dJ6_bitCount_0f7a4_41 : decode cJ6_bitCount_0f7a4 41 = .ok (.iload_n 0, 1) := by decide +kernel
theorem dJ6_bitCount_0f7a4_42 : decode cJ6_bitCount_0f7a4 42 = .ok (.iload_n 0, 1) := by decide +kernel
theorem dJ6_bitCount_0f7a4_43 : decode cJ6_bitCount_0f7a4 43 = .ok (.bipush 16, 2) := by decide +kernel
theorem dJ6_bitCount_0f7a4_45 : decode cJ6_bitCount_0f7a4 45 = .ok (.iushr, 1) := by decide +kernel
theorem dJ6_bitCount_0f7a4_46 : decode cJ6_bitCount_0f7a4 46 = .ok (.iadd, 1) := by decide +kernel
theorem dJ6_bitCount_0f7a4_47 : decode cJ6_bitCount_0f7a4 47 = .ok (.istore_n 0, 1) := by decide +kernel
theorem dJ6_bitCount_0f7a4_48 : decode cJ6_bitCount_0f7a4 48 = .ok (.iload_n 0, 1) := by decide +kernel
theorem dJ6_bitCount_0f7a4_49 : decode cJ6_bitCount_0f7a4 49 = .ok (.bipush 63, 2) := by decide +kernel
theorem dJ6_bitCount_0f7a4_51 : decode cJ6_bitCount_0f7a4 51 = .ok (.iand, 1) := by decide +kernel
theorem dJ6_bitCount_0f7a4_52 : decode cJ6_bitCount_0f7a4 52 = .ok (.ireturn, 1) := by decide +kernel
theorem dJ9_abs_0f7a4_0 : decode cJ9_abs_0f7a4 0 = .ok (.iload_n 0, 1) := by decide +kernel
theorem dJ9_abs_0f7a4_1 : decode cJ9_abs_0f7a4 1 = .ok (.ifCond .ge 8, 3) := by decide +kernel
theorem dJ9_abs_0f7a4_4 : decode cJ9_abs_0f7a4 4 = .ok (.iload_n 0, 1) := by decide +kernel
theorem dJ9_abs_0f7a4_5 : decode cJ9_abs_0f7a4 5 = .ok (.ineg, 1) := by decide +kernel
theorem dJ9_abs_0f7a4_6 : decode cJ9_abs_0f7a4 6 = .ok (.goto 4, 3) := by decide +kernel
theorem dJ9_abs_0f7a4_9 : decode cJ9_abs_0f7a4 9 = .ok (.iload_n 0, 1) := by decide +kernel
theorem dJ9_abs_0f7a4_10 : decode cJ9_abs_0f7a4 10 = .ok (.ireturn, 1) := by decide +kernel
theorem dJ9_max_7cf53_0 : decode cJ9_max_7cf53 0 = .ok (.iload_n 0, 1) := by decide +kernel
theorem dJ9_max_7cf53_1 : decode cJ9_max_7cf53 1 = .ok (.iload_n 1, 1) := by decide +kernel
theorem dJ9_max_7cf53_2 : decode cJ9_max_7cf53 2 = .ok (.if_icmp .lt 7, 3) := by decide +kernel
theorem dJ9_max_7cf53_5 : decode cJ9_max_7cf53 5 = .ok (.iload_n 0, 1) := by decide +kernel
theorem dJ9_max_7cf53_6 : decode cJ9_max_7cf53 6 = .ok (.goto 4, 3) := by decide +kernel
theorem dJ9_max_7cf53_9 : decode cJ9_max_7cf53 9 = .ok (.iload_n 1, 1) := by decide +kernel
theorem dJ9_max_7cf53_10 : decode cJ9_max_7cf53 10 = .ok (.ireturn, 1) := by decide +kernel
theorem dJ9_min_7cf53_0 : decode cJ9_min_7cf53 0 = .ok (.iload_n 0, 1) := by decide +kernel
theorem dJ9_min_7cf53_1 : decode cJ9_min_7cf53 1 = .ok (.iload_n 1, 1) := by decide +kernel
theorem dJ9_min_7cf53_2 : decode cJ9_min_7cf53 2 = .ok (.if_icmp .gt 7, 3) := by decide +kernel
theorem dJ9_min_7cf53_5 : decode cJ9_min_7cf53 5 = .ok (.iload_n 0, 1) := by decide +kernel
theorem dJ9_min_7cf53_6 : decode cJ9_min_7cf53 6 = .ok (.goto 4, 3) := by decide +kernel
theorem dJ9_min_7cf53_9 : decode cJ9_min_7cf53 9 = .ok (.iload_n 1, 1) := by decide +kernel
theorem dJ9_min_7cf53_10 : decode cJ9_min_7cf53 10 = .ok (.ireturn, 1) := by decide +kernel
set_option maxRecDepth 20000 in
theorem ggJ0_length_8abf5_J0_coder_7d493 : GoodIn wsJ0_length_8abf5 wsJ0_coder_7d493 := goodIn_r _ [6, 7, 8] (by decide +kernel) (by decide +kernel)
set_option maxRecDepth 20000 in
theorem gJ0_length_8abf5_J0_coder_7d493 : GoodIn wsJ0_length_8abf5 (wsV RJ0 335 RJ0 yJ0_coder_7d493 wsJ0_coder_7d493) := goodIn_app (goodIn_of _ (by decide +kernel)) ggJ0_length_8abf5_J0_coder_7d493
theorem dJ0_length_8abf5_0 : decode cJ0_length_8abf5 0 = .ok (.aload_n 0, 1) := by decide +kernel
theorem dJ0_length_8abf5_1 : decode cJ0_length_8abf5 1 = .ok (.getfield 9, 3) := by decide +kernel
theorem dJ0_length_8abf5_4 : decode cJ0_length_8abf5 4 = .ok (.arraylength, 1) := by decide +kernel
theorem dJ0_length_8abf5_5 : decode cJ0_length_8abf5 5 = .ok (.aload_n 0, 1) := by decide +kernel
theorem dJ0_length_8abf5_6 : decode cJ0_length_8abf5 6 = .ok (.invokevirtual 335, 3) := by decide +kernel
theorem dJ0_length_8abf5_9 : decode cJ0_length_8abf5 9 = .ok (.ishr, 1) := by decide +kernel
theorem dJ0_length_8abf5_10 : decode cJ0_length_8abf5 10 = .ok (.ireturn, 1) := by decide +kernel
set_option maxRecDepth 20000 in
theorem ggJ0_charAt_5068e_J0_isLatin1_aae02 : GoodIn wsJ0_charAt_5068e wsJ0_isLatin1_aae02 := goodIn_r _ [6, 7, 8] (by decide +kernel) (by decide +kernel)
set_option maxRecDepth 20000 in
theorem gJ0_charAt_5068e_J0_isLatin1_aae02 : GoodIn wsJ0_charAt_5068e (wsV RJ0 492 RJ0 yJ0_isLatin1_aae02 wsJ0_isLatin1_aae02) := goodIn_app (goodIn_of _ (by decide +kernel)) ggJ0_charAt_5068e_J0_isLatin1_aae02
set_option maxRecDepth 20000 in
theorem ggJ0_charAt_5068e_J1_charAt_3b067 : GoodIn wsJ0_charAt_5068e wsJ1_charAt_3b067 := goodIn_r _ [12, 13, 14, 5, 15, 16, 17, 18, 19, 20] (by decide +kernel) (by decide +kernel)
set_option maxRecDepth 20000 in
theorem gJ0_charAt_5068e_J1_charAt_3b067 : GoodIn wsJ0_charAt_5068e (va_wsS RJ0 495 yJ1_charAt_3b067 wsJ1_charAt_3b067) := goodIn_app (goodIn_of _ (by decide +kernel)) ggJ0_charAt_5068e_J1_charAt_3b067
set_option maxRecDepth 20000 in
theorem ggJ0_charAt_5068e_J2_charAt_3b067 : GoodIn wsJ0_charAt_5068e wsJ2_charAt_3b067 := goodIn_r _ [24, 25, 26, 23, 27, 28, 29, 30, 31, 14, 5, 15, 16, 17, 18, 19, 20, 32, 33, 34, 35, 36, 37] (by decide +kernel) (by decide +kernel)
set_option maxRecDepth 20000 in
theorem gJ0_charAt_5068e_J2_charAt_3b067 : GoodIn wsJ0_charAt_5068e (va_wsS RJ0 498 yJ2_charAt_3b067 wsJ2_charAt_3b067) := goodIn_app (goodIn_of _ (by decide +kernel)) ggJ0_charAt_5068e_J2_charAt_3b067
theorem dJ0_charAt_5068e_0 : decode cJ0_charAt_5068e 0 = .ok (.aload_n 0, 1) := by decide +kernel
theorem dJ0_charAt_5068e_1 : decode cJ0_charAt_5068e 1 = .ok (.invokevirtual 492, 3) := by decide +kernel
theorem dJ0_charAt_5068e_4 : decode cJ0_charAt_5068e 4 = .ok (.ifCond .eq 12, 3) := by decide +kernel
theorem dJ0_charAt_5068e_7 : decode cJ0_charAt_5068e 7 = .ok (.aload_n 0, 1) := by decide +kernel
theorem dJ0_charAt_5068e_8 : decode cJ0_charAt_5068e 8 = .ok (.getfield 9, 3) := by decide +kernel
theorem dJ0_charAt_5068e_11 : decode cJ0_charAt_5068e 11 = .ok (.iload_n 1, 1) := by decide +kernel
theorem dJ0_charAt_5068e_12 : decode cJ0_charAt_5068e 12 = .ok (.invokestatic 495, 3) := by decide +kernel
theorem dJ0_charAt_5068e_15 : decode cJ0_charAt_5068e 15 = .ok (.ireturn, 1) := by decide +kernel
theorem dJ0_charAt_5068e_16 : decode cJ0_charAt_5068e 16 = .ok (.aload_n 0, 1) := by decide +kernel
theorem dJ0_charAt_5068e_17 : decode cJ0_charAt_5068e 17 = .ok (.getfield 9, 3) := by decide +kernel
theorem dJ0_charAt_5068e_20 : decode cJ0_charAt_5068e 20 = .ok (.iload_n 1, 1) := by decide +kernel
theorem dJ0_charAt_5068e_21 : decode cJ0_charAt_5068e 21 = .ok (.invokestatic 498, 3) := by decide +kernel
theorem dJ0_charAt_5068e_24 : decode cJ0_charAt_5068e 24 = .ok (.ireturn, 1) := by decide +kernel
theorem dJ0_coder_7d493_0 : decode cJ0_coder_7d493 0 = .ok (.getstatic 38, 3) := by decide +kernel
theorem dJ0_coder_7d493_3 : decode cJ0_coder_7d493 3 = .ok (.ifCond .eq 10, 3) := by decide +kernel
theorem dJ0_coder_7d493_6 : decode cJ0_coder_7d493 6 = .ok (.aload_n 0, 1) := by decide +kernel
theorem dJ0_coder_7d493_7 : decode cJ0_coder_7d493 7 = .ok (.getfield 15, 3) := by decide +kernel
theorem dJ0_coder_7d493_10 : decode cJ0_coder_7d493 10 = .ok (.goto 4, 3) := by decide +kernel
theorem dJ0_coder_7d493_13 : decode cJ0_coder_7d493 13 = .ok (.iconst 1, 1) := by decide +kernel
theorem dJ0_coder_7d493_14 : decode cJ0_coder_7d493 14 = .ok (.ireturn, 1) := by decide +kernel
theorem dJ0_isLatin1_aae02_0 : decode cJ0_isLatin1_aae02 0 = .ok (.getstatic 38, 3) := by decide +kernel
theorem dJ0_isLatin1_aae02_3 : decode cJ0_isLatin1_aae02 3 = .ok (.ifCond .eq 14, 3) := by decide +kernel
theorem dJ0_isLatin1_aae02_6 : decode cJ0_isLatin1_aae02 6 = .ok (.aload_n 0, 1) := by decide +kernel
theorem dJ0_isLatin1_aae02_7 : decode cJ0_isLatin1_aae02 7 = .ok (.getfield 15, 3) := by decide +kernel
theorem dJ0_isLatin1_aae02_10 : decode cJ0_isLatin1_aae02 10 = .ok (.ifCond .ne 7, 3) := by decide +kernel
theorem dJ0_isLatin1_aae02_13 : decode cJ0_isLatin1_aae02 13 = .ok (.iconst 1, 1) := by decide +kernel
theorem dJ0_isLatin1_aae02_14 : decode cJ0_isLatin1_aae02 14 = .ok (.goto 4, 3) := by decide +kernel
theorem dJ0_isLatin1_aae02_17 : decode cJ0_isLatin1_aae02 17 = .ok (.iconst 0, 1) := by decide +kernel
theorem dJ0_isLatin1_aae02_18 : decode cJ0_isLatin1_aae02 18 = .ok (.ireturn, 1) := by decide +kernel
set_option maxRecDepth 20000 in
theorem ggJ0_checkIndex_df160_J3_checkIndex_8e157 : GoodIn wsJ0_checkIndex_df160 wsJ3_checkIndex_8e157 := goodIn_r _ [5] (by decide +kernel) (by decide +kernel)
set_option maxRecDepth 20000 in
theorem gJ0_checkIndex_df160_J3_checkIndex_8e157 : GoodIn wsJ0_checkIndex_df160 (va_wsS RJ0 1059 yJ3_checkIndex_8e157 wsJ3_checkIndex_8e157) := goodIn_app (goodIn_of _ (by decide +kernel)) ggJ0_checkIndex_df160_J3_checkIndex_8e157
theorem dJ0_checkIndex_df160_0 : decode cJ0_checkIndex_df160 0 = .ok (.iload_n 0, 1) := by decide +kernel
theorem dJ0_checkIndex_df160_1 : decode cJ0_checkIndex_df160 1 = .ok (.iload_n 1, 1) := by decide +kernel
theorem dJ0_checkIndex_df160_2 : decode cJ0_checkIndex_df160 2 = .ok (.getstatic 1053, 3) := by decide +kernel
theorem dJ0_checkIndex_df160_5 : decode cJ0_checkIndex_df160 5 = .ok (.invokestatic 1059, 3) := by decide +kernel
theorem dJ0_checkIndex_df160_8 : decode cJ0_checkIndex_df160 8 = .ok (.pop, 1) := by decide +kernel
theorem dJ0_checkIndex_df160_9 : decode cJ0_checkIndex_df160 9 = .ok (.return_, 1) := by decide +kernel
set_option maxRecDepth 20000 in
theorem ggJ1_charAt_3b067_J0_checkIndex_df160 : GoodIn wsJ1_charAt_3b067 wsJ0_checkIndex_df160 := goodIn_r _ [4, 5, 6, 7, 8, 9] (by decide +kernel) (by decide +kernel)
set_option maxRecDepth 20000 in
theorem gJ1_charAt_3b067_J0_checkIndex_df160 : GoodIn wsJ1_charAt_3b067 (va_wsS RJ1 9 yJ0_checkIndex_df160 wsJ0_checkIndex_df160) := goodIn_app (goodIn_of _ (by decide +kernel)) ggJ1_charAt_3b067_J0_checkIndex_df160
theorem dJ1_charAt_3b067_0 : decode cJ1_charAt_3b067 0 = .ok (.iload_n 1, 1) := by decide +kernel
theorem dJ1_charAt_3b067_1 : decode cJ1_charAt_3b067 1 = .ok (.aload_n 0, 1) := by decide +kernel
theorem dJ1_charAt_3b067_2 : decode cJ1_charAt_3b067 2 = .ok (.arraylength, 1) := by decide +kernel
theorem dJ1_charAt_3b067_3 : decode cJ1_charAt_3b067 3 = .ok (.invokestatic 9, 3) := by decide +kernel
theorem dJ1_charAt_3b067_6 : decode cJ1_charAt_3b067 6 = .ok (.aload_n 0, 1) := by decide +kernel
theorem dJ1_charAt_3b067_7 : decode cJ1_charAt_3b067 7 = .ok (.iload_n 1, 1) := by decide +kernel
theorem dJ1_charAt_3b067_8 : decode cJ1_charAt_3b067 8 = .ok (.baload, 1) := by decide +kernel
theorem dJ1_charAt_3b067_9 : decode cJ1_charAt_3b067 9 = .ok (.sipush 255, 3) := by decide +kernel
theorem dJ1_charAt_3b067_12 : decode cJ1_charAt_3b067 12 = .ok (.iand, 1) := by decide +kernel
theorem dJ1_charAt_3b067_13 : decode cJ1_charAt_3b067 13 = .ok (.i2c, 1) := by decide +kernel
theorem dJ1_charAt_3b067_14 : decode cJ1_charAt_3b067 14 = .ok (.ireturn, 1) := by decide +kernel
set_option maxRecDepth 20000 in
theorem ggJ2_getChar_3b067_J2_length_9d52b : GoodIn wsJ2_getChar_3b067 wsJ2_length_9d52b := goodIn_r _ [7] (by decide +kernel) (by decide +kernel)
set_option maxRecDepth 20000 in
theorem gJ2_getChar_3b067_J2_length_9d52b : GoodIn wsJ2_getChar_3b067 (va_wsS RJ2 48 yJ2_length_9d52b wsJ2_length_9d52b) := goodIn_app (goodIn_of _ (by decide +kernel)) ggJ2_getChar_3b067_J2_length_9d52b
theorem dJ2_getChar_3b067_0 : decode cJ2_getChar_3b067 0 = .ok (.getstatic 44, 3) := by decide +kernel
theorem dJ2_getChar_3b067_3 : decode cJ2_getChar_3b067 3 = .ok (.ifCond .ne 25, 3) := by decide +kernel
theorem dJ2_getChar_3b067_6 : decode cJ2_getChar_3b067 6 = .ok (.iload_n 1, 1) := by decide +kernel
theorem dJ2_getChar_3b067_7 : decode cJ2_getChar_3b067 7 = .ok (.ifCond .lt 11, 3) := by decide +kernel
theorem dJ2_getChar_3b067_10 : decode cJ2_getChar_3b067 10 = .ok (.iload_n 1, 1) := by decide +kernel
theorem dJ2_getChar_3b067_11 : decode cJ2_getChar_3b067 11 = .ok (.aload_n 0, 1) := by decide +kernel
theorem dJ2_getChar_3b067_12 : decode cJ2_getChar_3b067 12 = .ok (.invokestatic 48, 3) := by decide +kernel
theorem dJ2_getChar_3b067_15 : decode cJ2_getChar_3b067 15 = .ok (.if_icmp .lt 13, 3) := by decide +kernel
theorem dJ2_getChar_3b067_18 : decode cJ2_getChar_3b067 18 = .ok (.new 52, 3) := by decide +kernel
theorem dJ2_getChar_3b067_21 : decode cJ2_getChar_3b067 21 = .ok (.dup, 1) := by decide +kernel
theorem dJ2_getChar_3b067_22 : decode cJ2_getChar_3b067 22 = .ok (.ldc 54, 2) := by decide +kernel
theorem dJ2_getChar_3b067_24 : decode cJ2_getChar_3b067 24 = .ok (.invokespecial 56, 3) := by decide +kernel
theorem dJ2_getChar_3b067_27 : decode cJ2_getChar_3b067 27 = .ok (.athrow, 1) := by decide +kernel
theorem dJ2_getChar_3b067_28 : decode cJ2_getChar_3b067 28 = .ok (.iload_n 1, 1) := by decide +kernel
theorem dJ2_getChar_3b067_29 : decode cJ2_getChar_3b067 29 = .ok (.iconst 1, 1) := by decide +kernel
theorem dJ2_getChar_3b067_30 : decode cJ2_getChar_3b067 30 = .ok (.ishl, 1) := by decide +kernel
theorem dJ2_getChar_3b067_31 : decode cJ2_getChar_3b067 31 = .ok (.istore_n 1, 1) := by decide +kernel
theorem dJ2_getChar_3b067_32 : decode cJ2_getChar_3b067 32 = .ok (.aload_n 0, 1) := by decide +kernel
theorem dJ2_getChar_3b067_33 : decode cJ2_getChar_3b067 33 = .ok (.iload_n 1, 1) := by decide +kernel
theorem dJ2_getChar_3b067_34 : decode cJ2_getChar_3b067 34 = .ok (.iinc 1 1, 3) := by decide +kernel
theorem dJ2_getChar_3b067_37 : decode cJ2_getChar_3b067 37 = .ok (.baload, 1) := by decide +kernel
theorem dJ2_getChar_3b067_38 : decode cJ2_getChar_3b067 38 = .ok (.sipush 255, 3) := by decide +kernel
theorem dJ2_getChar_3b067_41 : decode cJ2_getChar_3b067 41 = .ok (.iand, 1) := by decide +kernel
theorem dJ2_getChar_3b067_42 : decode cJ2_getChar_3b067 42 = .ok (.getstatic 59, 3) := by decide +kernel
theorem dJ2_getChar_3b067_45 : decode cJ2_getChar_3b067 45 = .ok (.ishl, 1) := by decide +kernel
theorem dJ2_getChar_3b067_46 : decode cJ2_getChar_3b067 46 = .ok (.aload_n 0, 1) := by decide +kernel
theorem dJ2_getChar_3b067_47 : decode cJ2_getChar_3b067 47 = .ok (.iload_n 1, 1) := by decide +kernel
theorem dJ2_getChar_3b067_48 : decode cJ2_getChar_3b067 48 = .ok (.baload, 1) := by decide +kernel
theorem dJ2_getChar_3b067_49 : decode cJ2_getChar_3b067 49 = .ok (.sipush 255, 3) := by decide +kernel
theorem dJ2_getChar_3b067_52 : decode cJ2_getChar_3b067 52 = .ok (.iand, 1) := by decide +kernel
theorem dJ2_getChar_3b067_53 : decode cJ2_getChar_3b067 53 = .ok (.getstatic 63, 3) := by decide +kernel
theorem dJ2_getChar_3b067_56 : decode cJ2_getChar_3b067 56 = .ok (.ishl, 1) := by decide +kernel
theorem dJ2_getChar_3b067_57 : decode cJ2_getChar_3b067 57 = .ok (.ior, 1) := by decide +kernel
theorem dJ2_getChar_3b067_58 : decode cJ2_getChar_3b067 58 = .ok (.i2c, 1) := by decide +kernel
theorem dJ2_getChar_3b067_59 : decode cJ2_getChar_3b067 59 = .ok (.ireturn, 1) := by decide +kernel
theorem dJ2_length_9d52b_0 : decode cJ2_length_9d52b 0 = .ok (.aload_n 0, 1) := by decide +kernel
theorem dJ2_length_9d52b_1 : decode cJ2_length_9d52b 1 = .ok (.arraylength, 1) := by decide +kernel
theorem dJ2_length_9d52b_2 : decode cJ2_length_9d52b 2 = .ok (.iconst 1, 1) := by decide +kernel
theorem dJ2_length_9d52b_3 : decode cJ2_length_9d52b 3 = .ok (.ishr, 1) := by decide +kernel
theorem dJ2_length_9d52b_4 : decode cJ2_length_9d52b 4 = .ok (.ireturn, 1) := by decide +kernel
set_option maxRecDepth 20000 in
theorem ggJ2_charAt_3b067_J2_checkIndex_2214a : GoodIn wsJ2_charAt_3b067 wsJ2_checkIndex_2214a := goodIn_r _ [4, 5, 6, 3, 7, 8, 9, 10, 11, 12, 13, 14, 15, 16] (by decide +kernel) (by decide +kernel)
set_option maxRecDepth 20000 in
theorem gJ2_charAt_3b067_J2_checkIndex_2214a : GoodIn wsJ2_charAt_3b067 (va_wsS RJ2 67 yJ2_checkIndex_2214a wsJ2_checkIndex_2214a) := goodIn_app (goodIn_of _ (by decide +kernel)) ggJ2_charAt_3b067_J2_checkIndex_2214a
set_option maxRecDepth 20000 in
theorem ggJ2_charAt_3b067_J2_getChar_3b067 : GoodIn wsJ2_charAt_3b067 wsJ2_getChar_3b067 := goodIn_r _ [19, 20, 21, 22, 5, 6, 3, 7] (by decide +kernel) (by decide +kernel)
set_option maxRecDepth 20000 in
theorem gJ2_charAt_3b067_J2_getChar_3b067 : GoodIn wsJ2_charAt_3b067 (va_wsS RJ2 71 yJ2_getChar_3b067 wsJ2_getChar_3b067) := goodIn_app (goodIn_of _ (by decide +kernel)) ggJ2_charAt_3b067_J2_getChar_3b067
theorem dJ2_charAt_3b067_0 : decode cJ2_charAt_3b067 0 = .ok (.iload_n 1, 1) := by decide +kernel
theorem dJ2_charAt_3b067_1 : decode cJ2_charAt_3b067 1 = .ok (.aload_n 0, 1) := by decide +kernel
theorem dJ2_charAt_3b067_2 : decode cJ2_charAt_3b067 2 = .ok (.invokestatic 67, 3) := by decide +kernel
theorem dJ2_charAt_3b067_5 : decode cJ2_charAt_3b067 5 = .ok (.aload_n 0, 1) := by decide +kernel
theorem dJ2_charAt_3b067_6 : decode cJ2_charAt_3b067 6 = .ok (.iload_n 1, 1) := by decide +kernel
theorem dJ2_charAt_3b067_7 : decode cJ2_charAt_3b067 7 = .ok (.invokestatic 71, 3) := by decide +kernel
theorem dJ2_charAt_3b067_10 : decode cJ2_charAt_3b067 10 = .ok (.ireturn, 1) := by decide +kernel
set_option maxRecDepth 20000 in
theorem ggJ2_checkIndex_2214a_J2_length_9d52b : GoodIn wsJ2_checkIndex_2214a wsJ2_length_9d52b := goodIn_r _ [4] (by decide +kernel) (by decide +kernel)
set_option maxRecDepth 20000 in
theorem gJ2_checkIndex_2214a_J2_length_9d52b : GoodIn wsJ2_checkIndex_2214a (va_wsS RJ2 48 yJ2_length_9d52b wsJ2_length_9d52b) := goodIn_app (goodIn_of _ (by decide +kernel)) ggJ2_checkIndex_2214a_J2_length_9d52b
set_option maxRecDepth 20000 in
theorem ggJ2_checkIndex_2214a_J0_checkIndex_df160 : GoodIn wsJ2_checkIndex_2214a wsJ0_checkIndex_df160 := goodIn_r _ [8, 9, 10, 11, 12, 13] (by decide +kernel) (by decide +kernel)
set_option maxRecDepth 20000 in
theorem gJ2_checkIndex_2214a_J0_checkIndex_df160 : GoodIn wsJ2_checkIndex_2214a (va_wsS RJ2 414 yJ0_checkIndex_df160 wsJ0_checkIndex_df160) := goodIn_app (goodIn_of _ (by decide +kernel)) ggJ2_checkIndex_2214a_J0_checkIndex_df160
theorem dJ2_checkIndex_2214a_0 : decode cJ2_checkIndex_2214a 0 = .ok (.iload_n 0, 1) := by decide +kernel
theorem dJ2_checkIndex_2214a_1 : decode cJ2_checkIndex_2214a 1 = .ok (.aload_n 1, 1) := by decide +kernel
theorem dJ2_checkIndex_2214a_2 : decode cJ2_checkIndex_2214a 2 = .ok (.invokestatic 48, 3) := by decide +kernel
theorem dJ2_checkIndex_2214a_5 : decode cJ2_checkIndex_2214a 5 = .ok (.invokestatic 414, 3) := by decide +kernel
theorem dJ2_checkIndex_2214a_8 : decode cJ2_checkIndex_2214a 8 = .ok (.return_, 1) := by decide +kernel
theorem dJ3_checkIndex_8e157_0 : decode cJ3_checkIndex_8e157 0 = .ok (.iload_n 0, 1) := by decide +kernel
theorem dJ3_checkIndex_8e157_1 : decode cJ3_checkIndex_8e157 1 = .ok (.ifCond .lt 8, 3) := by decide +kernel
theorem dJ3_checkIndex_8e157_4 : decode cJ3_checkIndex_8e157 4 = .ok (.iload_n 0, 1) := by decide +kernel
theorem dJ3_checkIndex_8e157_5 : decode cJ3_checkIndex_8e157 5 = .ok (.iload_n 1, 1) := by decide +kernel
theorem dJ3_checkIndex_8e157_6 : decode cJ3_checkIndex_8e157 6 = .ok (.if_icmp .lt 10, 3) := by decide +kernel
theorem dJ3_checkIndex_8e157_9 : decode cJ3_checkIndex_8e157 9 = .ok (.aload_n 2, 1) := by decide +kernel
theorem dJ3_checkIndex_8e157_10 : decode cJ3_checkIndex_8e157 10 = .ok (.iload_n 0, 1) := by decide +kernel
theorem dJ3_checkIndex_8e157_11 : decode cJ3_checkIndex_8e157 11 = .ok (.iload_n 1, 1) := by decide +kernel
theorem dJ3_checkIndex_8e157_12 : decode cJ3_checkIndex_8e157 12 = .ok (.invokestatic 95, 3) := by decide +kernel
theorem dJ3_checkIndex_8e157_15 : decode cJ3_checkIndex_8e157 15 = .ok (.athrow, 1) := by decide +kernel
theorem dJ3_checkIndex_8e157_16 : decode cJ3_checkIndex_8e157 16 = .ok (.iload_n 0, 1) := by decide +kernel
theorem dJ3_checkIndex_8e157_17 : decode cJ3_checkIndex_8e157 17 = .ok (.ireturn, 1) := by decide +kernel
set_option maxRecDepth 20000 in
theorem ggL_law_X7_init : GoodIn wsL_law wsX7_init := goodIn_r _ [8, 9, 10, 11, 12, 13, 14, 15, 16, 17, 18, 19, 20, 21, 22, 23, 24, 25, 26, 27, 28, 29, 30, 31, 32, 33, 34, 35, 36, 37, 38, 39, 40, 41, 42, 43, 44, 45, 46, 47, 48, 49, 50, 51, 52, 53, 54, 55, 56, 57, 58, 59, 60, 61, 62, 63, 64, 65, 66, 67, 68, 69, 70, 71, 72, 73, 74, 75, 76, 77, 78, 79, 80, 81, 82, 83, 84, 85, 86, 87, 88, 89, 90, 91, 92, 93, 94, 95, 96, 97, 98, 99, 100, 101, 102, 103, 104, 105, 106, 107, 108, 109, 110, 111, 112, 113, 114, 115, 116, 117, 118, 119, 120, 121, 122, 123, 124, 125, 126, 127, 128, 129, 130, 131, 132, 133, 134, 135, 136, 137, 138, 139, 140, 141, 142, 143, 144, 145, 146, 147, 148, 149, 150, 151, 152, 153, 154, 155, 156, 157, 158, 159, 160, 161, 162, 163, 164, 165, 166, 167, 168, 169, 170, 171, 172, 173, 174, 175, 176, 177, 178, 179, 180, 181, 182, 183, 184, 185, 186, 187, 188, 189, 190, 191, 192, 193, 194, 195, 196, 197, 198, 199, 200, 201, 202, 203, 204, 205, 206, 207, 208, 209, 210, 211, 212, 213, 214, 215, 216, 217, 218, 2, 219, 220, 221, 222, 223, 224, 225, 226, 227, 228, 229, 230, 231, 232, 233, 234, 235, 236, 237, 238, 239, 240, 241, 242, 243, 244, 245, 758, 759, 760, 761, 728, 729, 730, 731, 732, 733, 762, 763, 764, 765, 766, 767, 768, 769, 770, 771, 772, 773, 774, 775, 776, 777, 778, 779, 780, 781, 782, 783, 784, 785, 786, 787, 788, 789, 790, 791, 792, 793, 794, 795, 796, 797, 798, 799, 800] (by decide +kernel) (by decide +kernel)
set_option maxRecDepth 20000 in
theorem gL_law_X7_init : GoodIn wsL_law (wsX7_init) := ggL_law_X7_init
set_option maxRecDepth 20000 in
theorem ggL_law_X8_init : GoodIn wsL_law wsX8_init := goodIn_r _ [248, 249, 10, 11, 250, 251, 38, 252, 253, 254, 255, 256, 257, 258, 47, 259, 260, 79, 261, 262, 263, 264, 265, 266, 267, 5, 268, 734, 735, 736, 737, 738, 739, 740, 741, 742, 743, 744, 745, 746, 747, 748, 749, 750, 751, 752, 753, 754, 755, 756, 757] (by decide +kernel) (by decide +kernel)
set_option maxRecDepth 20000 in
theorem gL_law_X8_init : GoodIn wsL_law (wsX8_init) := ggL_law_X8_init
set_option maxRecDepth 20000 in
theorem ggL_law_X7_write : GoodIn wsL_law wsX7_write := goodIn_r _ [272, 15, 33, 138, 139, 140, 14, 141, 142, 39, 728, 729, 730, 731, 732, 733, 758, 759, 760, 761] (by decide +kernel) (by decide +kernel)
set_option maxRecDepth 20000 in
theorem gL_law_X7_write : GoodIn wsL_law (wsV RL 13 RX7 yX7_write wsX7_write) := goodIn_app (goodIn_of _ (by decide +kernel)) ggL_law_X7_write
set_option maxRecDepth 20000 in
theorem ggL_law_X8_write : GoodIn wsL_law wsX8_write := goodIn_r _ [276, 277, 278, 251, 279, 280, 5, 281, 734, 735, 736, 737, 738, 739, 740, 741, 742, 743, 744, 745, 746, 747, 748, 749, 750, 751, 752, 753, 754, 755, 756, 757] (by decide +kernel) (by decide +kernel)
set_option maxRecDepth 20000 in
theorem gL_law_X8_write : GoodIn wsL_law (wsV RL 17 RX8 yX8_write wsX8_write) := goodIn_app (goodIn_of _ (by decide +kernel)) ggL_law_X8_write
set_option maxRecDepth 20000 in
theorem ggL_law_X7_wipe : GoodIn wsL_law wsX7_wipe := goodIn_r _ [285, 15, 33, 728, 729, 730, 731, 732, 733, 758, 759, 760, 761] (by decide +kernel) (by decide +kernel)
set_option maxRecDepth 20000 in
theorem gL_law_X7_wipe : GoodIn wsL_law (wsV RL 18 RX7 yX7_wipe wsX7_wipe) := goodIn_app (goodIn_of _ (by decide +kernel)) ggL_law_X7_wipe
set_option maxRecDepth 20000 in
theorem ggL_law_X8_wipe : GoodIn wsL_law wsX8_wipe := goodIn_r _ [289, 277, 278, 734, 735, 736, 737, 738, 739, 740, 741, 742, 743, 744, 745, 746, 747, 748, 749, 750, 751, 752, 753, 754, 755, 756, 757] (by decide +kernel) (by decide +kernel)
set_option maxRecDepth 20000 in
theorem gL_law_X8_wipe : GoodIn wsL_law (wsV RL 22 RX8 yX8_wipe wsX8_wipe) := goodIn_app (goodIn_of _ (by decide +kernel)) ggL_law_X8_wipe
set_option maxRecDepth 20000 in
theorem ggL_law_X7_fault : GoodIn wsL_law wsX7_fault := goodIn_r _ [293, 15, 20, 143, 144, 145, 14, 146, 147, 142, 148, 149, 150, 18, 151, 152, 153, 154, 52, 155, 156, 157, 51, 158, 159, 160, 161, 162, 163, 164, 165, 166, 167, 168, 39, 169, 170, 171, 172, 173, 174, 175, 176, 177, 178, 179, 180, 181, 182, 183, 184, 185, 40, 186, 187, 188, 189, 46, 190, 191, 192, 54, 193, 194, 195, 196, 197, 198, 199, 200, 201, 202, 203, 204, 205, 206, 207, 208, 209, 210, 211, 212, 213, 214, 215, 216, 217, 218, 2, 219, 220, 221, 222, 223, 224, 225, 226, 728, 729, 730, 731, 732, 733, 758, 759, 760, 761, 762, 763, 764, 765, 766, 767, 781, 782, 783, 784, 785, 786, 787, 788, 789, 790, 791, 792, 793, 794, 795, 796, 797, 798, 799, 800] (by decide +kernel) (by decide +kernel)
set_option maxRecDepth 20000 in
theorem gL_law_X7_fault : GoodIn wsL_law (wsV RL 23 RX7 yX7_fault wsX7_fault) := goodIn_app (goodIn_of _ (by decide +kernel)) ggL_law_X7_fault
set_option maxRecDepth 20000 in
theorem ggL_law_X8_fault : GoodIn wsL_law wsX8_fault := goodIn_r _ [297, 277, 298, 299, 300, 5, 301, 253, 302, 278, 303, 304, 305, 306, 307, 251, 308, 309, 310, 311, 279, 280, 281, 312, 313, 314, 315, 316, 317, 318, 319, 320, 321, 322, 323, 324, 325, 734, 735, 736, 737, 738, 739, 740, 741, 742, 743, 744, 745, 746, 747, 748, 749, 750, 751, 752, 753, 754, 755, 756, 757] (by decide +kernel) (by decide +kernel)
set_option maxRecDepth 20000 in
theorem gL_law_X8_fault : GoodIn wsL_law (wsV RL 26 RX8 yX8_fault wsX8_fault) := goodIn_app (goodIn_of _ (by decide +kernel)) ggL_law_X8_fault
set_option maxRecDepth 20000 in
theorem ggL_law_X7_lay : GoodIn wsL_law wsX7_lay := goodIn_r _ [329, 15, 20, 330, 19, 24, 143, 144, 145, 14, 146, 147, 142, 148, 149, 150, 18, 151, 152, 153, 154, 52, 155, 156, 157, 51, 158, 159, 160, 161, 162, 163, 164, 165, 166, 167, 168, 39, 169, 170, 171, 172, 173, 174, 175, 176, 177, 178, 179, 180, 181, 182, 183, 184, 185, 40, 186, 187, 188, 189, 46, 190, 191, 192, 54, 193, 194, 195, 196, 197, 198, 199, 200, 201, 202, 203, 204, 205, 206, 207, 208, 209, 210, 211, 212, 213, 214, 215, 216, 217, 218, 2, 219, 220, 221, 222, 223, 224, 225, 226, 227, 228, 229, 230, 231, 232, 233, 234, 235, 236, 237, 238, 239, 240, 241, 59, 242, 243, 244, 245, 60, 61, 331, 332, 333, 23, 334, 335, 728, 729, 730, 731, 732, 733, 762, 763, 764, 765, 766, 767, 758, 759, 760, 761, 781, 782, 783, 784, 785, 786, 787, 788, 789, 790, 791, 792, 793, 794, 795, 796, 797, 798, 799, 800, 768, 769, 770] (by decide +kernel) (by decide +kernel)
set_option maxRecDepth 20000 in
theorem gL_law_X7_lay : GoodIn wsL_law (wsV RL 27 RX7 yX7_lay wsX7_lay) := goodIn_app (goodIn_of _ (by decide +kernel)) ggL_law_X7_lay
set_option maxRecDepth 20000 in
theorem ggL_law_X8_lay : GoodIn wsL_law wsX8_lay := goodIn_r _ [339, 277, 253, 252, 340, 298, 299, 300, 5, 301, 302, 278, 303, 304, 305, 306, 307, 251, 308, 309, 310, 311, 279, 280, 281, 312, 313, 314, 315, 316, 317, 318, 319, 320, 321, 322, 323, 324, 325, 734, 735, 736, 737, 738, 739, 740, 741, 742, 743, 744, 745, 746, 747, 748, 749, 750, 751, 752, 753, 754, 755, 756, 757] (by decide +kernel) (by decide +kernel)
set_option maxRecDepth 20000 in
theorem gL_law_X8_lay : GoodIn wsL_law (wsV RL 30 RX8 yX8_lay wsX8_lay) := goodIn_app (goodIn_of _ (by decide +kernel)) ggL_law_X8_lay
set_option maxRecDepth 20000 in
theorem ggL_law_X7_source : GoodIn wsL_law wsX7_source := goodIn_r _ [344, 19, 345, 24, 346, 347, 348, 23, 349, 71, 350, 335, 351, 352, 353, 354, 355, 228, 229, 18, 230, 46, 52, 152, 153, 154, 231, 232, 233, 54, 234, 194, 195, 196, 197, 198, 199, 200, 201, 202, 203, 204, 205, 235, 236, 237, 238, 239, 240, 51, 241, 59, 242, 243, 244, 245, 60, 61, 159, 160, 356, 207, 208, 209, 210, 211, 212, 213, 214, 215, 216, 217, 218, 2, 219, 220, 221, 222, 223, 224, 225, 226, 728, 729, 730, 731, 732, 733, 762, 763, 764, 765, 766, 767, 768, 769, 770, 786, 787, 788, 789, 790, 791, 792, 793, 794, 795, 796, 797, 798, 799, 800, 781, 782, 783, 784, 785] (by decide +kernel) (by decide +kernel)
set_option maxRecDepth 20000 in
theorem gL_law_X7_source : GoodIn wsL_law (wsV RL 31 RX7 yX7_source wsX7_source) := goodIn_app (goodIn_of _ (by decide +kernel)) ggL_law_X7_source
set_option maxRecDepth 20000 in
theorem ggL_law_X8_source : GoodIn wsL_law wsX8_source := goodIn_r _ [360, 277, 252, 279, 280, 5, 281, 361, 362, 363, 364, 340, 254, 734, 735, 736, 737, 738, 739, 740, 741, 742, 743, 744, 745, 746, 747, 748, 749, 750, 751, 752, 753, 754, 755, 756, 757] (by decide +kernel) (by decide +kernel)
set_option maxRecDepth 20000 in
theorem gL_law_X8_source : GoodIn wsL_law (wsV RL 34 RX8 yX8_source wsX8_source) := goodIn_app (goodIn_of _ (by decide +kernel)) ggL_law_X8_source
set_option maxRecDepth 20000 in
theorem ggL_law_X7_tell : GoodIn wsL_law wsX7_tell := goodIn_r _ [368, 19, 369, 24, 370, 371, 372, 18, 373, 152, 374, 375, 2, 376, 377, 378, 379, 54, 380, 199, 201, 197, 346, 347, 348, 23, 349, 71, 350, 335, 351, 352, 353, 354, 355, 228, 229, 230, 46, 52, 153, 154, 231, 232, 233, 234, 194, 195, 196, 198, 200, 202, 203, 204, 205, 235, 236, 237, 238, 239, 240, 51, 241, 59, 242, 243, 244, 245, 60, 61, 159, 160, 381, 382, 383, 384, 356, 207, 208, 209, 210, 211, 212, 213, 214, 215, 216, 217, 218, 219, 220, 221, 222, 223, 224, 225, 226, 728, 729, 730, 731, 732, 733, 762, 763, 764, 765, 766, 767, 786, 787, 788, 789, 790, 791, 792, 793, 794, 795, 796, 797, 798, 799, 800, 768, 769, 770, 781, 782, 783, 784, 785] (by decide +kernel) (by decide +kernel)
set_option maxRecDepth 20000 in
theorem gL_law_X7_tell : GoodIn wsL_law (wsV RL 35 RX7 yX7_tell wsX7_tell) := goodIn_app (goodIn_of _ (by decide +kernel)) ggL_law_X7_tell
set_option maxRecDepth 20000 in
theorem ggL_law_X8_tell : GoodIn wsL_law wsX8_tell := goodIn_r _ [388, 277, 389, 390, 391, 5, 392, 252, 279, 280, 281, 393, 394, 395, 396, 361, 362, 363, 364, 340, 254, 397, 398, 399, 400, 734, 735, 736, 737, 738, 739, 740, 741, 742, 743, 744, 745, 746, 747, 748, 749, 750, 751, 752, 753, 754, 755, 756, 757] (by decide +kernel) (by decide +kernel)
set_option maxRecDepth 20000 in
theorem gL_law_X8_tell : GoodIn wsL_law (wsV RL 39 RX8 yX8_tell wsX8_tell) := goodIn_app (goodIn_of _ (by decide +kernel)) ggL_law_X8_tell
set_option maxRecDepth 20000 in
theorem ggL_law_X7_stick : GoodIn wsL_law wsX7_stick := goodIn_r _ [404, 19, 369, 405, 24, 370, 371, 372, 18, 373, 152, 346, 347, 348, 23, 349, 71, 350, 335, 351, 352, 353, 354, 355, 228, 229, 230, 46, 52, 153, 154, 231, 232, 233, 54, 234, 194, 195, 196, 197, 198, 199, 200, 201, 202, 203, 204, 205, 235, 236, 237, 238, 239, 240, 51, 241, 59, 242, 243, 244, 245, 60, 61, 159, 160, 406, 407, 408, 409, 410, 728, 729, 730, 731, 732, 733, 762, 763, 764, 765, 766, 767, 786, 787, 788, 789, 790, 791, 792, 793, 794, 795, 796, 797, 798, 799, 800, 768, 769, 770, 781, 782, 783, 784, 785] (by decide +kernel) (by decide +kernel)
set_option maxRecDepth 20000 in
theorem gL_law_X7_stick : GoodIn wsL_law (wsV RL 40 RX7 yX7_stick wsX7_stick) := goodIn_app (goodIn_of _ (by decide +kernel)) ggL_law_X7_stick
set_option maxRecDepth 20000 in
theorem ggL_law_X8_stick : GoodIn wsL_law wsX8_stick := goodIn_r _ [414, 277, 389, 390, 391, 5, 392, 252, 279, 280, 281, 393, 394, 395, 396, 361, 362, 363, 364, 340, 254, 397, 398, 399, 400, 415, 416, 417, 418, 734, 735, 736, 737, 738, 739, 740, 741, 742, 743, 744, 745, 746, 747, 748, 749, 750, 751, 752, 753, 754, 755, 756, 757] (by decide +kernel) (by decide +kernel)
set_option maxRecDepth 20000 in
theorem gL_law_X8_stick : GoodIn wsL_law (wsV RL 44 RX8 yX8_stick wsX8_stick) := goodIn_app (goodIn_of _ (by decide +kernel)) ggL_law_X8_stick
set_option maxRecDepth 20000 in
theorem ggL_law_X7_tick : GoodIn wsL_law wsX7_tick := goodIn_r _ [422, 19, 423, 24, 424, 425, 346, 347, 348, 23, 349, 71, 350, 335, 351, 352, 353, 354, 355, 228, 229, 18, 230, 46, 52, 152, 153, 154, 231, 232, 233, 54, 234, 194, 195, 196, 197, 198, 199, 200, 201, 202, 203, 204, 205, 235, 236, 237, 238, 239, 240, 51, 241, 59, 242, 243, 244, 245, 60, 61, 159, 160, 426, 427, 428, 429, 48, 430, 431, 432, 433, 434, 435, 436, 437, 438, 439, 440, 441, 442, 443, 444, 445, 446, 447, 448, 449, 450, 451, 452, 453, 454, 455, 456, 457, 458, 459, 460, 461, 462, 463, 464, 465, 466, 467, 468, 469, 207, 208, 209, 210, 211, 212, 213, 214, 215, 216, 217, 218, 2, 219, 220, 221, 222, 223, 224, 225, 226, 728, 729, 730, 731, 732, 733, 762, 763, 764, 765, 766, 767, 781, 782, 783, 784, 785, 768, 769, 770, 786, 787, 788, 789, 790, 791, 792, 793, 794, 795, 796, 797, 798, 799, 800] (by decide +kernel) (by decide +kernel)
set_option maxRecDepth 20000 in
theorem gL_law_X7_tick : GoodIn wsL_law (wsV RL 45 RX7 yX7_tick wsX7_tick) := goodIn_app (goodIn_of _ (by decide +kernel)) ggL_law_X7_tick
set_option maxRecDepth 20000 in
theorem ggL_law_X8_tick : GoodIn wsL_law wsX8_tick := goodIn_r _ [473, 277, 252, 279, 280, 5, 281, 361, 362, 363, 364, 340, 254, 474, 475, 476, 477, 260, 259, 258, 478, 479, 480, 481, 255, 256, 257, 393, 394, 395, 396, 482, 483, 484, 485, 486, 487, 488, 489, 490, 491, 492, 397, 398, 399, 400, 493, 494, 495, 496, 497, 498, 499, 500, 734, 735, 736, 737, 738, 739, 740, 741, 742, 743, 744, 745, 746, 747, 748, 749, 750, 751, 752, 753, 754, 755, 756, 757] (by decide +kernel) (by decide +kernel)
set_option maxRecDepth 20000 in
theorem gL_law_X8_tick : GoodIn wsL_law (wsV RL 48 RX8 yX8_tick wsX8_tick) := goodIn_app (goodIn_of _ (by decide +kernel)) ggL_law_X8_tick
set_option maxRecDepth 20000 in
theorem ggL_law_X7_undo : GoodIn wsL_law wsX7_undo := goodIn_r _ [504, 24, 505, 19, 506, 507, 508, 23, 509, 350, 71, 335, 355, 228, 229, 18, 230, 46, 52, 152, 153, 154, 231, 232, 233, 54, 234, 194, 195, 196, 197, 198, 199, 200, 201, 202, 203, 204, 205, 235, 236, 237, 238, 239, 240, 51, 241, 59, 242, 243, 244, 245, 60, 61, 159, 160, 728, 729, 730, 731, 732, 733, 768, 769, 770, 762, 763, 764, 765, 766, 767, 786, 787, 788, 789, 790, 791, 792, 793, 794, 795, 796, 797, 798, 799, 800, 781, 782, 783, 784, 785] (by decide +kernel) (by decide +kernel)
set_option maxRecDepth 20000 in
theorem gL_law_X7_undo : GoodIn wsL_law (wsV RL 49 RX7 yX7_undo wsX7_undo) := goodIn_app (goodIn_of _ (by decide +kernel)) ggL_law_X7_undo
set_option maxRecDepth 20000 in
theorem ggL_law_X8_undo : GoodIn wsL_law wsX8_undo := goodIn_r _ [513, 277, 340, 252, 254, 734, 735, 736, 737, 738, 739, 740, 741, 742, 743, 744, 745, 746, 747, 748, 749, 750, 751, 752, 753, 754, 755, 756, 757] (by decide +kernel) (by decide +kernel)
set_option maxRecDepth 20000 in
theorem gL_law_X8_undo : GoodIn wsL_law (wsV RL 52 RX8 yX8_undo wsX8_undo) := goodIn_app (goodIn_of _ (by decide +kernel)) ggL_law_X8_undo
set_option maxRecDepth 20000 in
theorem ggL_law_X7_stage : GoodIn wsL_law wsX7_stage := goodIn_r _ [517, 19, 369, 370, 371, 372, 18, 373, 152, 518, 519, 520, 54, 521, 194, 195, 196, 197, 198, 199, 200, 201, 205, 235, 236, 237, 202, 440, 441, 442, 443, 436, 437, 438, 439, 522, 449, 450, 451, 728, 729, 730, 731, 732, 733, 762, 763, 764, 765, 766, 767, 786, 787, 788, 789, 790, 791, 792, 793, 794, 795, 796, 797, 798, 799, 800] (by decide +kernel) (by decide +kernel)
set_option maxRecDepth 20000 in
theorem gL_law_X7_stage : GoodIn wsL_law (wsV RL 53 RX7 yX7_stage wsX7_stage) := goodIn_app (goodIn_of _ (by decide +kernel)) ggL_law_X7_stage
set_option maxRecDepth 20000 in
theorem ggL_law_X8_stage : GoodIn wsL_law wsX8_stage := goodIn_r _ [526, 277, 255, 256, 257, 258, 259, 389, 390, 391, 5, 392, 252, 279, 280, 281, 478, 479, 480, 481, 393, 394, 395, 396, 482, 483, 484, 485, 486, 487, 488, 734, 735, 736, 737, 738, 739, 740, 741, 742, 743, 744, 745, 746, 747, 748, 749, 750, 751, 752, 753, 754, 755, 756, 757] (by decide +kernel) (by decide +kernel)
set_option maxRecDepth 20000 in
theorem gL_law_X8_stage : GoodIn wsL_law (wsV RL 56 RX8 yX8_stage wsX8_stage) := goodIn_app (goodIn_of _ (by decide +kernel)) ggL_law_X8_stage
set_option maxRecDepth 20000 in
theorem ggL_law_X7_done : GoodIn wsL_law wsX7_done := goodIn_r _ [530, 19, 424, 531, 532, 533, 51, 534, 159, 535, 352, 353, 354, 536, 537, 538, 539, 59, 60, 61, 540, 728, 729, 730, 731, 732, 733, 762, 763, 764, 765, 766, 767, 781, 782, 783, 784, 785] (by decide +kernel) (by decide +kernel)
set_option maxRecDepth 20000 in
theorem gL_law_X7_done : GoodIn wsL_law (wsV RL 57 RX7 yX7_done wsX7_done) := goodIn_app (goodIn_of _ (by decide +kernel)) ggL_law_X7_done
set_option maxRecDepth 20000 in
theorem ggL_law_X8_done : GoodIn wsL_law wsX8_done := goodIn_r _ [544, 277, 252, 279, 280, 5, 281, 734, 735, 736, 737, 738, 739, 740, 741, 742, 743, 744, 745, 746, 747, 748, 749, 750, 751, 752, 753, 754, 755, 756, 757] (by decide +kernel) (by decide +kernel)
set_option maxRecDepth 20000 in
theorem gL_law_X8_done : GoodIn wsL_law (wsV RL 60 RX8 yX8_done wsX8_done) := goodIn_app (goodIn_of _ (by decide +kernel)) ggL_law_X8_done
set_option maxRecDepth 20000 in
theorem ggL_law_X7_settle : GoodIn wsL_law wsX7_settle := goodIn_r _ [548, 28, 19, 549, 550, 551, 552, 553, 554, 555, 27, 556, 78, 557, 558, 559, 560, 80, 81, 561, 562, 563, 228, 229, 18, 230, 46, 52, 152, 153, 154, 231, 232, 233, 54, 234, 194, 195, 196, 197, 198, 199, 200, 201, 202, 203, 204, 205, 235, 236, 237, 238, 239, 240, 51, 241, 59, 242, 243, 244, 245, 60, 61, 159, 160, 564, 565, 566, 567, 448, 449, 450, 451, 436, 437, 438, 439, 440, 441, 442, 443, 568, 569, 570, 571, 461, 430, 464, 572, 573, 574, 575, 576, 427, 428, 429, 48, 431, 432, 433, 434, 435, 444, 445, 446, 447, 452, 453, 454, 455, 456, 457, 458, 459, 460, 462, 463, 465, 466, 467, 468, 469, 207, 208, 209, 210, 211, 212, 213, 214, 215, 216, 217, 218, 2, 219, 220, 221, 222, 223, 224, 225, 226, 728, 729, 730, 731, 732, 733, 771, 772, 773, 774, 775, 776, 777, 762, 763, 764, 765, 766, 767, 781, 782, 783, 784, 785, 786, 787, 788, 789, 790, 791, 792, 793, 794, 795, 796, 797, 798, 799, 800] (by decide +kernel) (by decide +kernel)
set_option maxRecDepth 20000 in
theorem gL_law_X7_settle : GoodIn wsL_law (wsV RL 61 RX7 yX7_settle wsX7_settle) := goodIn_app (goodIn_of _ (by decide +kernel)) ggL_law_X7_settle
set_option maxRecDepth 20000 in
theorem ggL_law_X8_settle : GoodIn wsL_law wsX8_settle := goodIn_r _ [580, 277, 581, 582, 583, 584, 279, 280, 5, 281, 585, 586, 587, 588, 263, 252, 261, 262, 478, 479, 480, 481, 255, 256, 257, 258, 259, 393, 394, 395, 396, 482, 483, 484, 485, 486, 487, 488, 589, 590, 591, 592, 593, 594, 595, 596, 597, 474, 475, 476, 477, 260, 489, 490, 491, 492, 397, 398, 399, 400, 493, 494, 495, 496, 497, 498, 499, 500, 734, 735, 736, 737, 738, 739, 740, 741, 742, 743, 744, 745, 746, 747, 748, 749, 750, 751, 752, 753, 754, 755, 756, 757] (by decide +kernel) (by decide +kernel)
set_option maxRecDepth 20000 in
theorem gL_law_X8_settle : GoodIn wsL_law (wsV RL 64 RX8 yX8_settle wsX8_settle) := goodIn_app (goodIn_of _ (by decide +kernel)) ggL_law_X8_settle
set_option maxRecDepth 20000 in
theorem ggL_law_X7_best : GoodIn wsL_law wsX7_best := goodIn_r _ [601, 19, 32, 602, 603, 370, 371, 372, 18, 373, 152, 604, 605, 606, 31, 607, 608, 609, 610, 611, 612, 613, 614, 87, 88, 615, 243, 244, 245, 616, 617, 618, 619, 620, 621, 622, 353, 623, 218, 2, 219, 624, 221, 222, 223, 46, 224, 211, 225, 226, 728, 729, 730, 731, 732, 733, 778, 779, 780, 762, 763, 764, 765, 766, 767, 786, 787, 788, 789, 790, 791, 792, 793, 794, 795, 796, 797, 798, 799, 800] (by decide +kernel) (by decide +kernel)
set_option maxRecDepth 20000 in
theorem gL_law_X7_best : GoodIn wsL_law (wsV RL 65 RX7 yX7_best wsX7_best) := goodIn_app (goodIn_of _ (by decide +kernel)) ggL_law_X7_best
set_option maxRecDepth 20000 in
theorem ggL_law_X8_best : GoodIn wsL_law wsX8_best := goodIn_r _ [628, 277, 629, 264, 389, 390, 391, 5, 392, 252, 279, 280, 281, 630, 631, 632, 633, 263, 393, 394, 395, 396, 397, 398, 399, 400, 478, 479, 480, 481, 255, 256, 257, 258, 259, 482, 483, 484, 485, 486, 487, 488, 634, 635, 636, 637, 638, 639, 640, 641, 734, 735, 736, 737, 738, 739, 740, 741, 742, 743, 744, 745, 746, 747, 748, 749, 750, 751, 752, 753, 754, 755, 756, 757] (by decide +kernel) (by decide +kernel)
set_option maxRecDepth 20000 in
theorem gL_law_X8_best : GoodIn wsL_law (wsV RL 68 RX8 yX8_best wsX8_best) := goodIn_app (goodIn_of _ (by decide +kernel)) ggL_law_X8_best
set_option maxRecDepth 20000 in
theorem ggL_law_X7_ratio : GoodIn wsL_law wsX7_ratio := goodIn_r _ [645, 19, 646, 369, 647, 370, 371, 372, 18, 373, 152, 648, 215, 216, 54, 217, 201, 194, 649, 650, 2, 651, 728, 729, 730, 731, 732, 733, 762, 763, 764, 765, 766, 767, 786, 787, 788, 789, 790, 791, 792, 793, 794, 795, 796, 797, 798, 799, 800] (by decide +kernel) (by decide +kernel)
set_option maxRecDepth 20000 in
theorem gL_law_X7_ratio : GoodIn wsL_law (wsV RL 69 RX7 yX7_ratio wsX7_ratio) := goodIn_app (goodIn_of _ (by decide +kernel)) ggL_law_X7_ratio
set_option maxRecDepth 20000 in
theorem ggL_law_X8_ratio : GoodIn wsL_law wsX8_ratio := goodIn_r _ [655, 277, 656, 657, 389, 390, 391, 5, 392, 252, 279, 280, 281, 393, 394, 395, 396, 734, 735, 736, 737, 738, 739, 740, 741, 742, 743, 744, 745, 746, 747, 748, 749, 750, 751, 752, 753, 754, 755, 756, 757] (by decide +kernel) (by decide +kernel)
set_option maxRecDepth 20000 in
theorem gL_law_X8_ratio : GoodIn wsL_law (wsV RL 73 RX8 yX8_ratio wsX8_ratio) := goodIn_app (goodIn_of _ (by decide +kernel)) ggL_law_X8_ratio
set_option maxRecDepth 20000 in
theorem ggL_law_X7_graded : GoodIn wsL_law wsX7_graded := goodIn_r _ [661, 19, 330, 369, 662, 663, 664, 2, 665, 728, 729, 730, 731, 732, 733, 762, 763, 764, 765, 766, 767, 786, 787, 788, 789, 790, 791, 792, 793, 794, 795, 796, 797, 798, 799, 800] (by decide +kernel) (by decide +kernel)
set_option maxRecDepth 20000 in
theorem gL_law_X7_graded : GoodIn wsL_law (wsV RL 74 RX7 yX7_graded wsX7_graded) := goodIn_app (goodIn_of _ (by decide +kernel)) ggL_law_X7_graded
set_option maxRecDepth 20000 in
theorem ggL_law_X8_graded : GoodIn wsL_law wsX8_graded := goodIn_r _ [669, 277, 252, 279, 280, 5, 281, 393, 394, 395, 396, 734, 735, 736, 737, 738, 739, 740, 741, 742, 743, 744, 745, 746, 747, 748, 749, 750, 751, 752, 753, 754, 755, 756, 757] (by decide +kernel) (by decide +kernel)
set_option maxRecDepth 20000 in
theorem gL_law_X8_graded : GoodIn wsL_law (wsV RL 77 RX8 yX8_graded wsX8_graded) := goodIn_app (goodIn_of _ (by decide +kernel)) ggL_law_X8_graded
set_option maxRecDepth 20000 in
theorem ggL_law_X7_waits : GoodIn wsL_law wsX7_waits := goodIn_r _ [673, 19, 369, 662, 674, 675, 353, 676, 370, 371, 372, 18, 373, 152, 663, 664, 2, 665, 728, 729, 730, 731, 732, 733, 762, 763, 764, 765, 766, 767, 786, 787, 788, 789, 790, 791, 792, 793, 794, 795, 796, 797, 798, 799, 800] (by decide +kernel) (by decide +kernel)
set_option maxRecDepth 20000 in
theorem gL_law_X7_waits : GoodIn wsL_law (wsV RL 78 RX7 yX7_waits wsX7_waits) := goodIn_app (goodIn_of _ (by decide +kernel)) ggL_law_X7_waits
set_option maxRecDepth 20000 in
theorem ggL_law_X8_waits : GoodIn wsL_law wsX8_waits := goodIn_r _ [680, 277, 389, 390, 391, 5, 392, 252, 279, 280, 281, 681, 682, 683, 684, 393, 394, 395, 396, 734, 735, 736, 737, 738, 739, 740, 741, 742, 743, 744, 745, 746, 747, 748, 749, 750, 751, 752, 753, 754, 755, 756, 757] (by decide +kernel) (by decide +kernel)
set_option maxRecDepth 20000 in
theorem gL_law_X8_waits : GoodIn wsL_law (wsV RL 81 RX8 yX8_waits wsX8_waits) := goodIn_app (goodIn_of _ (by decide +kernel)) ggL_law_X8_waits
set_option maxRecDepth 20000 in
theorem ggL_law_X7_count : GoodIn wsL_law wsX7_count := goodIn_r _ [688, 19, 330, 345, 423, 424, 425, 689, 24, 505, 15, 33, 690, 691, 692, 18, 693, 152, 46, 694, 441, 442, 54, 443, 237, 195, 196, 406, 407, 408, 409, 410, 695, 696, 697, 698, 699, 700, 701, 702, 703, 622, 353, 623, 704, 565, 566, 567, 448, 449, 450, 451, 205, 201, 436, 437, 438, 439, 235, 198, 440, 705, 706, 707, 51, 708, 60, 61, 540, 532, 533, 534, 159, 535, 352, 354, 709, 710, 711, 712, 713, 714, 715, 728, 729, 730, 731, 732, 733, 762, 763, 764, 765, 766, 767, 781, 782, 783, 784, 785, 768, 769, 770, 758, 759, 760, 761, 786, 787, 788, 789, 790, 791, 792, 793, 794, 795, 796, 797, 798, 799, 800] (by decide +kernel) (by decide +kernel)
set_option maxRecDepth 20000 in
theorem gL_law_X7_count : GoodIn wsL_law (wsV RL 82 RX7 yX7_count wsX7_count) := goodIn_app (goodIn_of _ (by decide +kernel)) ggL_law_X7_count
set_option maxRecDepth 20000 in
theorem ggL_law_X8_count : GoodIn wsL_law wsX8_count := goodIn_r _ [719, 277, 252, 340, 278, 478, 479, 480, 5, 481, 255, 256, 257, 258, 259, 393, 394, 395, 396, 482, 483, 484, 485, 486, 487, 488, 279, 280, 281, 720, 721, 722, 723, 415, 416, 417, 418, 634, 635, 636, 637, 589, 590, 591, 592, 724, 725, 726, 727, 734, 735, 736, 737, 738, 739, 740, 741, 742, 743, 744, 745, 746, 747, 748, 749, 750, 751, 752, 753, 754, 755, 756, 757] (by decide +kernel) (by decide +kernel)
set_option maxRecDepth 20000 in
theorem gL_law_X8_count : GoodIn wsL_law (wsV RL 85 RX8 yX8_count wsX8_count) := goodIn_app (goodIn_of _ (by decide +kernel)) ggL_law_X8_count
theorem dL_law_0 : decode cL_law 0 = .ok (.new 7, 3) := by decide +kernel
theorem dL_law_3 : decode cL_law 3 = .ok (.dup, 1) := by decide +kernel
theorem dL_law_4 : decode cL_law 4 = .ok (.invokespecial 9, 3) := by decide +kernel
theorem dL_law_7 : decode cL_law 7 = .ok (.astore_n 1, 1) := by decide +kernel
theorem dL_law_8 : decode cL_law 8 = .ok (.new 10, 3) := by decide +kernel
theorem dL_law_11 : decode cL_law 11 = .ok (.dup, 1) := by decide +kernel
theorem dL_law_12 : decode cL_law 12 = .ok (.invokespecial 12, 3) := by decide +kernel
theorem dL_law_15 : decode cL_law 15 = .ok (.astore_n 2, 1) := by decide +kernel
theorem dL_law_16 : decode cL_law 16 = .ok (.iconst 0, 1) := by decide +kernel
theorem dL_law_17 : decode cL_law 17 = .ok (.istore_n 3, 1) := by decide +kernel
theorem dL_law_18 : decode cL_law 18 = .ok (.iload_n 3, 1) := by decide +kernel
theorem dL_law_19 : decode cL_law 19 = .ok (.aload_n 0, 1) := by decide +kernel
theorem dL_law_20 : decode cL_law 20 = .ok (.arraylength, 1) := by decide +kernel
theorem dL_law_21 : decode cL_law 21 = .ok (.iconst 4, 1) := by decide +kernel
theorem dL_law_22 : decode cL_law 22 = .ok (.isub, 1) := by decide +kernel
theorem dL_law_23 : decode cL_law 23 = .ok (.if_icmp .gt 521, 3) := by decide +kernel
theorem dL_law_26 : decode cL_law 26 = .ok (.aload_n 0, 1) := by decide +kernel
theorem dL_law_27 : decode cL_law 27 = .ok (.iload_n 3, 1) := by decide +kernel
theorem dL_law_28 : decode cL_law 28 = .ok (.iaload, 1) := by decide +kernel
theorem dL_law_29 : decode cL_law 29 = .ok (.bipush 31, 2) := by decide +kernel
theorem dL_law_31 : decode cL_law 31 = .ok (.iand, 1) := by decide +kernel
theorem dL_law_32 : decode cL_law 32 = .ok (.tableswitch 506 0 16 #[84, 107, 120, 133, 146, 169, 212, 245, 268, 281, 314, 347, 370, 393, 427, 450, 483], 84) := by decide +kernel
theorem dL_law_116 : decode cL_law 116 = .ok (.aload_n 1, 1) := by decide +kernel
theorem dL_law_117 : decode cL_law 117 = .ok (.aload_n 0, 1) := by decide +kernel
theorem dL_law_118 : decode cL_law 118 = .ok (.iload_n 3, 1) := by decide +kernel
theorem dL_law_119 : decode cL_law 119 = .ok (.iconst 1, 1) := by decide +kernel
theorem dL_law_120 : decode cL_law 120 = .ok (.iadd, 1) := by decide +kernel
theorem dL_law_121 : decode cL_law 121 = .ok (.iaload, 1) := by decide +kernel
theorem dL_law_122 : decode cL_law 122 = .ok (.invokevirtual 13, 3) := by decide +kernel
theorem dL_law_125 : decode cL_law 125 = .ok (.aload_n 2, 1) := by decide +kernel
theorem dL_law_126 : decode cL_law 126 = .ok (.aload_n 0, 1) := by decide +kernel
theorem dL_law_127 : decode cL_law 127 = .ok (.iload_n 3, 1) := by decide +kernel
theorem dL_law_128 : decode cL_law 128 = .ok (.iconst 1, 1) := by decide +kernel
theorem dL_law_129 : decode cL_law 129 = .ok (.iadd, 1) := by decide +kernel
theorem dL_law_130 : decode cL_law 130 = .ok (.iaload, 1) := by decide +kernel
theorem dL_law_131 : decode cL_law 131 = .ok (.invokevirtual 17, 3) := by decide +kernel
theorem dL_law_134 : decode cL_law 134 = .ok (.if_icmp .eq 404, 3) := by decide +kernel
theorem dL_law_137 : decode cL_law 137 = .ok (.iconst 0, 1) := by decide +kernel
theorem dL_law_138 : decode cL_law 138 = .ok (.ireturn, 1) := by decide +kernel
theorem dL_law_139 : decode cL_law 139 = .ok (.aload_n 1, 1) := by decide +kernel
theorem dL_law_140 : decode cL_law 140 = .ok (.invokevirtual 18, 3) := by decide +kernel
theorem dL_law_143 : decode cL_law 143 = .ok (.aload_n 2, 1) := by decide +kernel
theorem dL_law_144 : decode cL_law 144 = .ok (.invokevirtual 22, 3) := by decide +kernel
theorem dL_law_147 : decode cL_law 147 = .ok (.if_icmp .eq 391, 3) := by decide +kernel
theorem dL_law_150 : decode cL_law 150 = .ok (.iconst 0, 1) := by decide +kernel
theorem dL_law_151 : decode cL_law 151 = .ok (.ireturn, 1) := by decide +kernel
theorem dL_law_152 : decode cL_law 152 = .ok (.aload_n 1, 1) := by decide +kernel
theorem dL_law_153 : decode cL_law 153 = .ok (.invokevirtual 23, 3) := by decide +kernel
theorem dL_law_156 : decode cL_law 156 = .ok (.aload_n 2, 1) := by decide +kernel
theorem dL_law_157 : decode cL_law 157 = .ok (.invokevirtual 26, 3) := by decide +kernel
theorem dL_law_160 : decode cL_law 160 = .ok (.if_icmp .eq 378, 3) := by decide +kernel
theorem dL_law_163 : decode cL_law 163 = .ok (.iconst 0, 1) := by decide +kernel
theorem dL_law_164 : decode cL_law 164 = .ok (.ireturn, 1) := by decide +kernel
theorem dL_law_165 : decode cL_law 165 = .ok (.aload_n 1, 1) := by decide +kernel
theorem dL_law_166 : decode cL_law 166 = .ok (.invokevirtual 27, 3) := by decide +kernel
theorem dL_law_169 : decode cL_law 169 = .ok (.aload_n 2, 1) := by decide +kernel
theorem dL_law_170 : decode cL_law 170 = .ok (.invokevirtual 30, 3) := by decide +kernel
theorem dL_law_173 : decode cL_law 173 = .ok (.if_icmp .eq 365, 3) := by decide +kernel
theorem dL_law_176 : decode cL_law 176 = .ok (.iconst 0, 1) := by decide +kernel
theorem dL_law_177 : decode cL_law 177 = .ok (.ireturn, 1) := by decide +kernel
theorem dL_law_178 : decode cL_law 178 = .ok (.aload_n 1, 1) := by decide +kernel
theorem dL_law_179 : decode cL_law 179 = .ok (.aload_n 0, 1) := by decide +kernel
theorem dL_law_180 : decode cL_law 180 = .ok (.iload_n 3, 1) := by decide +kernel
theorem dL_law_181 : decode cL_law 181 = .ok (.iconst 1, 1) := by decide +kernel
theorem dL_law_182 : decode cL_law 182 = .ok (.iadd, 1) := by decide +kernel
theorem dL_law_183 : decode cL_law 183 = .ok (.iaload, 1) := by decide +kernel
theorem dL_law_184 : decode cL_law 184 = .ok (.invokevirtual 31, 3) := by decide +kernel
theorem dL_law_187 : decode cL_law 187 = .ok (.aload_n 2, 1) := by decide +kernel
theorem dL_law_188 : decode cL_law 188 = .ok (.aload_n 0, 1) := by decide +kernel
theorem dL_law_189 : decode cL_law 189 = .ok (.iload_n 3, 1) := by decide +kernel
theorem dL_law_190 : decode cL_law 190 = .ok (.iconst 1, 1) := by decide +kernel
theorem dL_law_191 : decode cL_law 191 = .ok (.iadd, 1) := by decide +kernel
theorem dL_law_192 : decode cL_law 192 = .ok (.iaload, 1) := by decide +kernel
theorem dL_law_193 : decode cL_law 193 = .ok (.invokevirtual 34, 3) := by decide +kernel
theorem dL_law_196 : decode cL_law 196 = .ok (.if_icmp .eq 342, 3) := by decide +kernel
theorem dL_law_199 : decode cL_law 199 = .ok (.iconst 0, 1) := by decide +kernel
theorem dL_law_200 : decode cL_law 200 = .ok (.ireturn, 1) := by decide +kernel
theorem dL_law_201 : decode cL_law 201 = .ok (.aload_n 1, 1) := by decide +kernel
theorem dL_law_202 : decode cL_law 202 = .ok (.aload_n 0, 1) := by decide +kernel
theorem dL_law_203 : decode cL_law 203 = .ok (.iload_n 3, 1) := by decide +kernel
theorem dL_law_204 : decode cL_law 204 = .ok (.iconst 1, 1) := by decide +kernel
theorem dL_law_205 : decode cL_law 205 = .ok (.iadd, 1) := by decide +kernel
theorem dL_law_206 : decode cL_law 206 = .ok (.iaload, 1) := by decide +kernel
theorem dL_law_207 : decode cL_law 207 = .ok (.aload_n 0, 1) := by decide +kernel
theorem dL_law_208 : decode cL_law 208 = .ok (.iload_n 3, 1) := by decide +kernel
theorem dL_law_209 : decode cL_law 209 = .ok (.iconst 2, 1) := by decide +kernel
theorem dL_law_210 : decode cL_law 210 = .ok (.iadd, 1) := by decide +kernel
theorem dL_law_211 : decode cL_law 211 = .ok (.iaload, 1) := by decide +kernel
theorem dL_law_212 : decode cL_law 212 = .ok (.aload_n 0, 1) := by decide +kernel
theorem dL_law_213 : decode cL_law 213 = .ok (.iload_n 3, 1) := by decide +kernel
theorem dL_law_214 : decode cL_law 214 = .ok (.iconst 3, 1) := by decide +kernel
theorem dL_law_215 : decode cL_law 215 = .ok (.iadd, 1) := by decide +kernel
theorem dL_law_216 : decode cL_law 216 = .ok (.iaload, 1) := by decide +kernel
theorem dL_law_217 : decode cL_law 217 = .ok (.invokevirtual 35, 3) := by decide +kernel
theorem dL_law_220 : decode cL_law 220 = .ok (.aload_n 2, 1) := by decide +kernel
theorem dL_law_221 : decode cL_law 221 = .ok (.aload_n 0, 1) := by decide +kernel
theorem dL_law_222 : decode cL_law 222 = .ok (.iload_n 3, 1) := by decide +kernel
theorem dL_law_223 : decode cL_law 223 = .ok (.iconst 1, 1) := by decide +kernel
theorem dL_law_224 : decode cL_law 224 = .ok (.iadd, 1) := by decide +kernel
theorem dL_law_225 : decode cL_law 225 = .ok (.iaload, 1) := by decide +kernel
theorem dL_law_226 : decode cL_law 226 = .ok (.aload_n 0, 1) := by decide +kernel
theorem dL_law_227 : decode cL_law 227 = .ok (.iload_n 3, 1) := by decide +kernel
theorem dL_law_228 : decode cL_law 228 = .ok (.iconst 2, 1) := by decide +kernel
theorem dL_law_229 : decode cL_law 229 = .ok (.iadd, 1) := by decide +kernel
theorem dL_law_230 : decode cL_law 230 = .ok (.iaload, 1) := by decide +kernel
theorem dL_law_231 : decode cL_law 231 = .ok (.aload_n 0, 1) := by decide +kernel
theorem dL_law_232 : decode cL_law 232 = .ok (.iload_n 3, 1) := by decide +kernel
theorem dL_law_233 : decode cL_law 233 = .ok (.iconst 3, 1) := by decide +kernel
theorem dL_law_234 : decode cL_law 234 = .ok (.iadd, 1) := by decide +kernel
theorem dL_law_235 : decode cL_law 235 = .ok (.iaload, 1) := by decide +kernel
theorem dL_law_236 : decode cL_law 236 = .ok (.invokevirtual 39, 3) := by decide +kernel
theorem dL_law_239 : decode cL_law 239 = .ok (.if_icmp .eq 299, 3) := by decide +kernel
theorem dL_law_242 : decode cL_law 242 = .ok (.iconst 0, 1) := by decide +kernel
theorem dL_law_243 : decode cL_law 243 = .ok (.ireturn, 1) := by decide +kernel
theorem dL_law_244 : decode cL_law 244 = .ok (.aload_n 1, 1) := by decide +kernel
theorem dL_law_245 : decode cL_law 245 = .ok (.aload_n 0, 1) := by decide +kernel
theorem dL_law_246 : decode cL_law 246 = .ok (.iload_n 3, 1) := by decide +kernel
theorem dL_law_247 : decode cL_law 247 = .ok (.iconst 1, 1) := by decide +kernel
theorem dL_law_248 : decode cL_law 248 = .ok (.iadd, 1) := by decide +kernel
theorem dL_law_249 : decode cL_law 249 = .ok (.iaload, 1) := by decide +kernel
theorem dL_law_250 : decode cL_law 250 = .ok (.aload_n 0, 1) := by decide +kernel
theorem dL_law_251 : decode cL_law 251 = .ok (.iload_n 3, 1) := by decide +kernel
theorem dL_law_252 : decode cL_law 252 = .ok (.iconst 2, 1) := by decide +kernel
theorem dL_law_253 : decode cL_law 253 = .ok (.iadd, 1) := by decide +kernel
theorem dL_law_254 : decode cL_law 254 = .ok (.iaload, 1) := by decide +kernel
theorem dL_law_255 : decode cL_law 255 = .ok (.invokevirtual 40, 3) := by decide +kernel
theorem dL_law_258 : decode cL_law 258 = .ok (.aload_n 2, 1) := by decide +kernel
theorem dL_law_259 : decode cL_law 259 = .ok (.aload_n 0, 1) := by decide +kernel
theorem dL_law_260 : decode cL_law 260 = .ok (.iload_n 3, 1) := by decide +kernel
theorem dL_law_261 : decode cL_law 261 = .ok (.iconst 1, 1) := by decide +kernel
theorem dL_law_262 : decode cL_law 262 = .ok (.iadd, 1) := by decide +kernel
theorem dL_law_263 : decode cL_law 263 = .ok (.iaload, 1) := by decide +kernel
theorem dL_law_264 : decode cL_law 264 = .ok (.aload_n 0, 1) := by decide +kernel
theorem dL_law_265 : decode cL_law 265 = .ok (.iload_n 3, 1) := by decide +kernel
theorem dL_law_266 : decode cL_law 266 = .ok (.iconst 2, 1) := by decide +kernel
theorem dL_law_267 : decode cL_law 267 = .ok (.iadd, 1) := by decide +kernel
theorem dL_law_268 : decode cL_law 268 = .ok (.iaload, 1) := by decide +kernel
theorem dL_law_269 : decode cL_law 269 = .ok (.invokevirtual 44, 3) := by decide +kernel
theorem dL_law_272 : decode cL_law 272 = .ok (.if_icmp .eq 266, 3) := by decide +kernel
theorem dL_law_275 : decode cL_law 275 = .ok (.iconst 0, 1) := by decide +kernel
theorem dL_law_276 : decode cL_law 276 = .ok (.ireturn, 1) := by decide +kernel
theorem dL_law_277 : decode cL_law 277 = .ok (.aload_n 1, 1) := by decide +kernel
theorem dL_law_278 : decode cL_law 278 = .ok (.aload_n 0, 1) := by decide +kernel
theorem dL_law_279 : decode cL_law 279 = .ok (.iload_n 3, 1) := by decide +kernel
theorem dL_law_280 : decode cL_law 280 = .ok (.iconst 1, 1) := by decide +kernel
theorem dL_law_281 : decode cL_law 281 = .ok (.iadd, 1) := by decide +kernel
theorem dL_law_282 : decode cL_law 282 = .ok (.iaload, 1) := by decide +kernel
theorem dL_law_283 : decode cL_law 283 = .ok (.invokevirtual 45, 3) := by decide +kernel
theorem dL_law_286 : decode cL_law 286 = .ok (.aload_n 2, 1) := by decide +kernel
theorem dL_law_287 : decode cL_law 287 = .ok (.aload_n 0, 1) := by decide +kernel
theorem dL_law_288 : decode cL_law 288 = .ok (.iload_n 3, 1) := by decide +kernel
theorem dL_law_289 : decode cL_law 289 = .ok (.iconst 1, 1) := by decide +kernel
theorem dL_law_290 : decode cL_law 290 = .ok (.iadd, 1) := by decide +kernel
theorem dL_law_291 : decode cL_law 291 = .ok (.iaload, 1) := by decide +kernel
theorem dL_law_292 : decode cL_law 292 = .ok (.invokevirtual 48, 3) := by decide +kernel
theorem dL_law_295 : decode cL_law 295 = .ok (.if_icmp .eq 243, 3) := by decide +kernel
theorem dL_law_298 : decode cL_law 298 = .ok (.iconst 0, 1) := by decide +kernel
theorem dL_law_299 : decode cL_law 299 = .ok (.ireturn, 1) := by decide +kernel
theorem dL_law_300 : decode cL_law 300 = .ok (.aload_n 1, 1) := by decide +kernel
theorem dL_law_301 : decode cL_law 301 = .ok (.invokevirtual 49, 3) := by decide +kernel
theorem dL_law_304 : decode cL_law 304 = .ok (.aload_n 2, 1) := by decide +kernel
theorem dL_law_305 : decode cL_law 305 = .ok (.invokevirtual 52, 3) := by decide +kernel
theorem dL_law_308 : decode cL_law 308 = .ok (.if_icmp .eq 230, 3) := by decide +kernel
theorem dL_law_311 : decode cL_law 311 = .ok (.iconst 0, 1) := by decide +kernel
theorem dL_law_312 : decode cL_law 312 = .ok (.ireturn, 1) := by decide +kernel
theorem dL_law_313 : decode cL_law 313 = .ok (.aload_n 1, 1) := by decide +kernel
theorem dL_law_314 : decode cL_law 314 = .ok (.aload_n 0, 1) := by decide +kernel
theorem dL_law_315 : decode cL_law 315 = .ok (.iload_n 3, 1) := by decide +kernel
theorem dL_law_316 : decode cL_law 316 = .ok (.iconst 1, 1) := by decide +kernel
theorem dL_law_317 : decode cL_law 317 = .ok (.iadd, 1) := by decide +kernel
theorem dL_law_318 : decode cL_law 318 = .ok (.iaload, 1) := by decide +kernel
theorem dL_law_319 : decode cL_law 319 = .ok (.aload_n 0, 1) := by decide +kernel
theorem dL_law_320 : decode cL_law 320 = .ok (.iload_n 3, 1) := by decide +kernel
theorem dL_law_321 : decode cL_law 321 = .ok (.iconst 2, 1) := by decide +kernel
theorem dL_law_322 : decode cL_law 322 = .ok (.iadd, 1) := by decide +kernel
theorem dL_law_323 : decode cL_law 323 = .ok (.iaload, 1) := by decide +kernel
theorem dL_law_324 : decode cL_law 324 = .ok (.invokevirtual 53, 3) := by decide +kernel
theorem dL_law_327 : decode cL_law 327 = .ok (.aload_n 2, 1) := by decide +kernel
theorem dL_law_328 : decode cL_law 328 = .ok (.aload_n 0, 1) := by decide +kernel
theorem dL_law_329 : decode cL_law 329 = .ok (.iload_n 3, 1) := by decide +kernel
theorem dL_law_330 : decode cL_law 330 = .ok (.iconst 1, 1) := by decide +kernel
theorem dL_law_331 : decode cL_law 331 = .ok (.iadd, 1) := by decide +kernel
theorem dL_law_332 : decode cL_law 332 = .ok (.iaload, 1) := by decide +kernel
theorem dL_law_333 : decode cL_law 333 = .ok (.aload_n 0, 1) := by decide +kernel
theorem dL_law_334 : decode cL_law 334 = .ok (.iload_n 3, 1) := by decide +kernel
theorem dL_law_335 : decode cL_law 335 = .ok (.iconst 2, 1) := by decide +kernel
theorem dL_law_336 : decode cL_law 336 = .ok (.iadd, 1) := by decide +kernel
theorem dL_law_337 : decode cL_law 337 = .ok (.iaload, 1) := by decide +kernel
theorem dL_law_338 : decode cL_law 338 = .ok (.invokevirtual 56, 3) := by decide +kernel
theorem dL_law_341 : decode cL_law 341 = .ok (.if_icmp .eq 197, 3) := by decide +kernel
theorem dL_law_344 : decode cL_law 344 = .ok (.iconst 0, 1) := by decide +kernel
theorem dL_law_345 : decode cL_law 345 = .ok (.ireturn, 1) := by decide +kernel
theorem dL_law_346 : decode cL_law 346 = .ok (.aload_n 1, 1) := by decide +kernel
theorem dL_law_347 : decode cL_law 347 = .ok (.aload_n 0, 1) := by decide +kernel
theorem dL_law_348 : decode cL_law 348 = .ok (.iload_n 3, 1) := by decide +kernel
theorem dL_law_349 : decode cL_law 349 = .ok (.iconst 1, 1) := by decide +kernel
theorem dL_law_350 : decode cL_law 350 = .ok (.iadd, 1) := by decide +kernel
theorem dL_law_351 : decode cL_law 351 = .ok (.iaload, 1) := by decide +kernel
theorem dL_law_352 : decode cL_law 352 = .ok (.aload_n 0, 1) := by decide +kernel
theorem dL_law_353 : decode cL_law 353 = .ok (.iload_n 3, 1) := by decide +kernel
theorem dL_law_354 : decode cL_law 354 = .ok (.iconst 2, 1) := by decide +kernel
theorem dL_law_355 : decode cL_law 355 = .ok (.iadd, 1) := by decide +kernel
theorem dL_law_356 : decode cL_law 356 = .ok (.iaload, 1) := by decide +kernel
theorem dL_law_357 : decode cL_law 357 = .ok (.invokevirtual 57, 3) := by decide +kernel
theorem dL_law_360 : decode cL_law 360 = .ok (.aload_n 2, 1) := by decide +kernel
theorem dL_law_361 : decode cL_law 361 = .ok (.aload_n 0, 1) := by decide +kernel
theorem dL_law_362 : decode cL_law 362 = .ok (.iload_n 3, 1) := by decide +kernel
theorem dL_law_363 : decode cL_law 363 = .ok (.iconst 1, 1) := by decide +kernel
theorem dL_law_364 : decode cL_law 364 = .ok (.iadd, 1) := by decide +kernel
theorem dL_law_365 : decode cL_law 365 = .ok (.iaload, 1) := by decide +kernel
theorem dL_law_366 : decode cL_law 366 = .ok (.aload_n 0, 1) := by decide +kernel
theorem dL_law_367 : decode cL_law 367 = .ok (.iload_n 3, 1) := by decide +kernel
theorem dL_law_368 : decode cL_law 368 = .ok (.iconst 2, 1) := by decide +kernel
theorem dL_law_369 : decode cL_law 369 = .ok (.iadd, 1) := by decide +kernel
theorem dL_law_370 : decode cL_law 370 = .ok (.iaload, 1) := by decide +kernel
theorem dL_law_371 : decode cL_law 371 = .ok (.invokevirtual 60, 3) := by decide +kernel
theorem dL_law_374 : decode cL_law 374 = .ok (.if_icmp .eq 164, 3) := by decide +kernel
theorem dL_law_377 : decode cL_law 377 = .ok (.iconst 0, 1) := by decide +kernel
theorem dL_law_378 : decode cL_law 378 = .ok (.ireturn, 1) := by decide +kernel
theorem dL_law_379 : decode cL_law 379 = .ok (.aload_n 1, 1) := by decide +kernel
theorem dL_law_380 : decode cL_law 380 = .ok (.aload_n 0, 1) := by decide +kernel
theorem dL_law_381 : decode cL_law 381 = .ok (.iload_n 3, 1) := by decide +kernel
theorem dL_law_382 : decode cL_law 382 = .ok (.iconst 1, 1) := by decide +kernel
theorem dL_law_383 : decode cL_law 383 = .ok (.iadd, 1) := by decide +kernel
theorem dL_law_384 : decode cL_law 384 = .ok (.iaload, 1) := by decide +kernel
theorem dL_law_385 : decode cL_law 385 = .ok (.invokevirtual 61, 3) := by decide +kernel
theorem dL_law_388 : decode cL_law 388 = .ok (.aload_n 2, 1) := by decide +kernel
theorem dL_law_389 : decode cL_law 389 = .ok (.aload_n 0, 1) := by decide +kernel
theorem dL_law_390 : decode cL_law 390 = .ok (.iload_n 3, 1) := by decide +kernel
theorem dL_law_391 : decode cL_law 391 = .ok (.iconst 1, 1) := by decide +kernel
theorem dL_law_392 : decode cL_law 392 = .ok (.iadd, 1) := by decide +kernel
theorem dL_law_393 : decode cL_law 393 = .ok (.iaload, 1) := by decide +kernel
theorem dL_law_394 : decode cL_law 394 = .ok (.invokevirtual 64, 3) := by decide +kernel
theorem dL_law_397 : decode cL_law 397 = .ok (.if_icmp .eq 141, 3) := by decide +kernel
theorem dL_law_400 : decode cL_law 400 = .ok (.iconst 0, 1) := by decide +kernel
theorem dL_law_401 : decode cL_law 401 = .ok (.ireturn, 1) := by decide +kernel
theorem dL_law_402 : decode cL_law 402 = .ok (.aload_n 1, 1) := by decide +kernel
theorem dL_law_403 : decode cL_law 403 = .ok (.aload_n 0, 1) := by decide +kernel
theorem dL_law_404 : decode cL_law 404 = .ok (.iload_n 3, 1) := by decide +kernel
theorem dL_law_405 : decode cL_law 405 = .ok (.iconst 1, 1) := by decide +kernel
theorem dL_law_406 : decode cL_law 406 = .ok (.iadd, 1) := by decide +kernel
theorem dL_law_407 : decode cL_law 407 = .ok (.iaload, 1) := by decide +kernel
theorem dL_law_408 : decode cL_law 408 = .ok (.invokevirtual 65, 3) := by decide +kernel
theorem dL_law_411 : decode cL_law 411 = .ok (.aload_n 2, 1) := by decide +kernel
theorem dL_law_412 : decode cL_law 412 = .ok (.aload_n 0, 1) := by decide +kernel
theorem dL_law_413 : decode cL_law 413 = .ok (.iload_n 3, 1) := by decide +kernel
theorem dL_law_414 : decode cL_law 414 = .ok (.iconst 1, 1) := by decide +kernel
theorem dL_law_415 : decode cL_law 415 = .ok (.iadd, 1) := by decide +kernel
theorem dL_law_416 : decode cL_law 416 = .ok (.iaload, 1) := by decide +kernel
theorem dL_law_417 : decode cL_law 417 = .ok (.invokevirtual 68, 3) := by decide +kernel
theorem dL_law_420 : decode cL_law 420 = .ok (.if_icmp .eq 118, 3) := by decide +kernel
theorem dL_law_423 : decode cL_law 423 = .ok (.iconst 0, 1) := by decide +kernel
theorem dL_law_424 : decode cL_law 424 = .ok (.ireturn, 1) := by decide +kernel
theorem dL_law_425 : decode cL_law 425 = .ok (.aload_n 1, 1) := by decide +kernel
theorem dL_law_426 : decode cL_law 426 = .ok (.aload_n 0, 1) := by decide +kernel
theorem dL_law_427 : decode cL_law 427 = .ok (.iload_n 3, 1) := by decide +kernel
theorem dL_law_428 : decode cL_law 428 = .ok (.iconst 1, 1) := by decide +kernel
theorem dL_law_429 : decode cL_law 429 = .ok (.iadd, 1) := by decide +kernel
theorem dL_law_430 : decode cL_law 430 = .ok (.iaload, 1) := by decide +kernel
theorem dL_law_431 : decode cL_law 431 = .ok (.aload_n 0, 1) := by decide +kernel
theorem dL_law_432 : decode cL_law 432 = .ok (.iload_n 3, 1) := by decide +kernel
theorem dL_law_433 : decode cL_law 433 = .ok (.iconst 2, 1) := by decide +kernel
theorem dL_law_434 : decode cL_law 434 = .ok (.iadd, 1) := by decide +kernel
theorem dL_law_435 : decode cL_law 435 = .ok (.iaload, 1) := by decide +kernel
theorem dL_law_436 : decode cL_law 436 = .ok (.invokevirtual 69, 3) := by decide +kernel
theorem dL_law_439 : decode cL_law 439 = .ok (.aload_n 2, 1) := by decide +kernel
theorem dL_law_440 : decode cL_law 440 = .ok (.aload_n 0, 1) := by decide +kernel
theorem dL_law_441 : decode cL_law 441 = .ok (.iload_n 3, 1) := by decide +kernel
theorem dL_law_442 : decode cL_law 442 = .ok (.iconst 1, 1) := by decide +kernel
theorem dL_law_443 : decode cL_law 443 = .ok (.iadd, 1) := by decide +kernel
theorem dL_law_444 : decode cL_law 444 = .ok (.iaload, 1) := by decide +kernel
theorem dL_law_445 : decode cL_law 445 = .ok (.aload_n 0, 1) := by decide +kernel
theorem dL_law_446 : decode cL_law 446 = .ok (.iload_n 3, 1) := by decide +kernel
theorem dL_law_447 : decode cL_law 447 = .ok (.iconst 2, 1) := by decide +kernel
theorem dL_law_448 : decode cL_law 448 = .ok (.iadd, 1) := by decide +kernel
theorem dL_law_449 : decode cL_law 449 = .ok (.iaload, 1) := by decide +kernel
theorem dL_law_450 : decode cL_law 450 = .ok (.invokevirtual 73, 3) := by decide +kernel
theorem dL_law_453 : decode cL_law 453 = .ok (.lcmp, 1) := by decide +kernel
theorem dL_law_454 : decode cL_law 454 = .ok (.ifCond .eq 84, 3) := by decide +kernel
theorem dL_law_457 : decode cL_law 457 = .ok (.iconst 0, 1) := by decide +kernel
theorem dL_law_458 : decode cL_law 458 = .ok (.ireturn, 1) := by decide +kernel
theorem dL_law_459 : decode cL_law 459 = .ok (.aload_n 1, 1) := by decide +kernel
theorem dL_law_460 : decode cL_law 460 = .ok (.aload_n 0, 1) := by decide +kernel
theorem dL_law_461 : decode cL_law 461 = .ok (.iload_n 3, 1) := by decide +kernel
theorem dL_law_462 : decode cL_law 462 = .ok (.iconst 1, 1) := by decide +kernel
theorem dL_law_463 : decode cL_law 463 = .ok (.iadd, 1) := by decide +kernel
theorem dL_law_464 : decode cL_law 464 = .ok (.iaload, 1) := by decide +kernel
theorem dL_law_465 : decode cL_law 465 = .ok (.invokevirtual 74, 3) := by decide +kernel
theorem dL_law_468 : decode cL_law 468 = .ok (.aload_n 2, 1) := by decide +kernel
theorem dL_law_469 : decode cL_law 469 = .ok (.aload_n 0, 1) := by decide +kernel
theorem dL_law_470 : decode cL_law 470 = .ok (.iload_n 3, 1) := by decide +kernel
theorem dL_law_471 : decode cL_law 471 = .ok (.iconst 1, 1) := by decide +kernel
theorem dL_law_472 : decode cL_law 472 = .ok (.iadd, 1) := by decide +kernel
theorem dL_law_473 : decode cL_law 473 = .ok (.iaload, 1) := by decide +kernel
theorem dL_law_474 : decode cL_law 474 = .ok (.invokevirtual 77, 3) := by decide +kernel
theorem dL_law_477 : decode cL_law 477 = .ok (.if_icmp .eq 61, 3) := by decide +kernel
theorem dL_law_480 : decode cL_law 480 = .ok (.iconst 0, 1) := by decide +kernel
theorem dL_law_481 : decode cL_law 481 = .ok (.ireturn, 1) := by decide +kernel
theorem dL_law_482 : decode cL_law 482 = .ok (.aload_n 1, 1) := by decide +kernel
theorem dL_law_483 : decode cL_law 483 = .ok (.aload_n 0, 1) := by decide +kernel
theorem dL_law_484 : decode cL_law 484 = .ok (.iload_n 3, 1) := by decide +kernel
theorem dL_law_485 : decode cL_law 485 = .ok (.iconst 1, 1) := by decide +kernel
theorem dL_law_486 : decode cL_law 486 = .ok (.iadd, 1) := by decide +kernel
theorem dL_law_487 : decode cL_law 487 = .ok (.iaload, 1) := by decide +kernel
theorem dL_law_488 : decode cL_law 488 = .ok (.aload_n 0, 1) := by decide +kernel
theorem dL_law_489 : decode cL_law 489 = .ok (.iload_n 3, 1) := by decide +kernel
theorem dL_law_490 : decode cL_law 490 = .ok (.iconst 2, 1) := by decide +kernel
theorem dL_law_491 : decode cL_law 491 = .ok (.iadd, 1) := by decide +kernel
theorem dL_law_492 : decode cL_law 492 = .ok (.iaload, 1) := by decide +kernel
theorem dL_law_493 : decode cL_law 493 = .ok (.invokevirtual 78, 3) := by decide +kernel
theorem dL_law_496 : decode cL_law 496 = .ok (.aload_n 2, 1) := by decide +kernel
theorem dL_law_497 : decode cL_law 497 = .ok (.aload_n 0, 1) := by decide +kernel
theorem dL_law_498 : decode cL_law 498 = .ok (.iload_n 3, 1) := by decide +kernel
theorem dL_law_499 : decode cL_law 499 = .ok (.iconst 1, 1) := by decide +kernel
theorem dL_law_500 : decode cL_law 500 = .ok (.iadd, 1) := by decide +kernel
theorem dL_law_501 : decode cL_law 501 = .ok (.iaload, 1) := by decide +kernel
theorem dL_law_502 : decode cL_law 502 = .ok (.aload_n 0, 1) := by decide +kernel
theorem dL_law_503 : decode cL_law 503 = .ok (.iload_n 3, 1) := by decide +kernel
theorem dL_law_504 : decode cL_law 504 = .ok (.iconst 2, 1) := by decide +kernel
theorem dL_law_505 : decode cL_law 505 = .ok (.iadd, 1) := by decide +kernel
theorem dL_law_506 : decode cL_law 506 = .ok (.iaload, 1) := by decide +kernel
theorem dL_law_507 : decode cL_law 507 = .ok (.invokevirtual 81, 3) := by decide +kernel
theorem dL_law_510 : decode cL_law 510 = .ok (.if_icmp .eq 28, 3) := by decide +kernel
theorem dL_law_513 : decode cL_law 513 = .ok (.iconst 0, 1) := by decide +kernel
theorem dL_law_514 : decode cL_law 514 = .ok (.ireturn, 1) := by decide +kernel
theorem dL_law_515 : decode cL_law 515 = .ok (.aload_n 1, 1) := by decide +kernel
theorem dL_law_516 : decode cL_law 516 = .ok (.aload_n 0, 1) := by decide +kernel
theorem dL_law_517 : decode cL_law 517 = .ok (.iload_n 3, 1) := by decide +kernel
theorem dL_law_518 : decode cL_law 518 = .ok (.iconst 1, 1) := by decide +kernel
theorem dL_law_519 : decode cL_law 519 = .ok (.iadd, 1) := by decide +kernel
theorem dL_law_520 : decode cL_law 520 = .ok (.iaload, 1) := by decide +kernel
theorem dL_law_521 : decode cL_law 521 = .ok (.invokevirtual 82, 3) := by decide +kernel
theorem dL_law_524 : decode cL_law 524 = .ok (.aload_n 2, 1) := by decide +kernel
theorem dL_law_525 : decode cL_law 525 = .ok (.aload_n 0, 1) := by decide +kernel
theorem dL_law_526 : decode cL_law 526 = .ok (.iload_n 3, 1) := by decide +kernel
theorem dL_law_527 : decode cL_law 527 = .ok (.iconst 1, 1) := by decide +kernel
theorem dL_law_528 : decode cL_law 528 = .ok (.iadd, 1) := by decide +kernel
theorem dL_law_529 : decode cL_law 529 = .ok (.iaload, 1) := by decide +kernel
theorem dL_law_530 : decode cL_law 530 = .ok (.invokevirtual 85, 3) := by decide +kernel
theorem dL_law_533 : decode cL_law 533 = .ok (.if_icmp .eq 5, 3) := by decide +kernel
theorem dL_law_536 : decode cL_law 536 = .ok (.iconst 0, 1) := by decide +kernel
theorem dL_law_537 : decode cL_law 537 = .ok (.ireturn, 1) := by decide +kernel
theorem dL_law_538 : decode cL_law 538 = .ok (.iinc 3 4, 3) := by decide +kernel
theorem dL_law_541 : decode cL_law 541 = .ok (.goto (-523), 3) := by decide +kernel
theorem dL_law_544 : decode cL_law 544 = .ok (.iconst 1, 1) := by decide +kernel
theorem dL_law_545 : decode cL_law 545 = .ok (.ireturn, 1) := by decide +kernel
end
section
/-! ===== the base of all contracts here: options that say what code does, worlds cut and joined, one row an instruction ===== -/
def zlet {α ρ : Type} (x : α) (k : α → Option ρ) : Option ρ := k x
def zg {ρ : Type} (b : Bool) (x : Option ρ) : Option ρ := match b with
  | true => x
  | false => none
def zbd {α ρ : Type} (x : Option α) (k : α → Option ρ) : Option ρ := match x with
  | some a => k a
  | none => none
def zloop {σ ρ : Type} (body : (σ → Option ρ) → σ → Option ρ) : Nat → σ → Option ρ
  | 0, _ => none
  | n + 1, s => body (zloop body n) s
theorem zg_some {ρ : Type} {b : Bool} {x : Option ρ} {o : ρ} (h : zg b x = some o) : b = true ∧ x = some o := by
  cases b with
  | true => exact ⟨rfl, h⟩
  | false => exact absurd h (fun h => nomatch h)
theorem zbd_some {α ρ : Type} {x : Option α} {k : α → Option ρ} {o : ρ} (h : zbd x k = some o) : ∃ a, x = some a ∧ k a = some o := by
  cases x with
  | some a => exact ⟨a, rfl, h⟩
  | none => exact absurd h (fun h => nomatch h)
theorem zloop_0 {σ ρ : Type} {body : (σ → Option ρ) → σ → Option ρ} {s : σ} {o : ρ} (h : zloop body 0 s = some o) : False := nomatch h
def zin (i : Int32) (n : Nat) : Bool := decide (¬ (i < 0 ∨ n ≤ i.toNatClampNeg))
theorem zin_in {i : Int32} {n : Nat} (h : zin i n = true) : vp_in i n := by
  have h1 : ¬ (i < 0 ∨ n ≤ i.toNatClampNeg) := of_decide_eq_true h
  exact h1
theorem zin_lt {i : Int32} {n : Nat} (h : zin i n = true) : i.toNatClampNeg < n := Nat.not_le.mp fun q => zin_in h (Or.inr q)
abbrev zn (i : Int32) : Nat := i.toNatClampNeg
abbrev R2 : Type := Nat → Nat → Int32
def z2 (v : R2) (r c : Nat) (x : Int32) : R2 := va_up v r (upd (v r) c x)
/-- the tables' classes of arrays: bytes, ints, longs, booleans, lines, stages -/
abbrev zT (cy : Nat → ClassId) : List (ClassId × FieldType) := [(cy 0, .byte), (cy 1, .int), (cy 2, .long), (cy 3, .boolean), (cy 4, .object "TapCascade$Line"), (cy 5, .object "TapCascade$Stage")]
def z_lo (j : Nat) : Int32 := match j with
  | 0 => 1
  | 1 => 800
  | 2 => 1
  | 3 => 1
  | 4 => 0
  | 5 => -50
  | _ => 0
def z_hi (j : Nat) : Int32 := match j with
  | 0 => 50
  | 1 => 1200
  | 2 => 99
  | 3 => 9
  | 4 => 2
  | 5 => 50
  | _ => 9
/-- the two static rows of the class -/
def z_SE (st : Nat → Nat) (A : Nat → Prop) (U : State) (H : Heap) : Prop := (va_Z "TapCascade" "LEAST_TOLD" "[I" (.ref (st 0)) A U H ∧ va_T .int (st 0) 7 (fun j => .int (z_lo j)) A U H) ∧ (va_Z "TapCascade" "MOST_TOLD" "[I" (.ref (st 1)) A U H ∧ va_T .int (st 1) 7 (fun j => .int (z_hi j)) A U H)
theorem z_SE.moved {st : Nat → Nat} {A : Nat → Prop} {u U : State} {H : Heap} (hvm : u.vm.Alike U.vm) (h : z_SE st A u H) : z_SE st A U H := ⟨⟨h.1.1.moved hvm, h.1.2.moved hvm⟩, ⟨h.2.1.moved hvm, h.2.2.moved hvm⟩⟩
theorem z_SE.kept {st : Nat → Nat} {A : Nat → Prop} {U : State} {H H1 : Heap} (h : z_SE st A U H) (hq : ∀ a : Nat, a < H.size → ¬ A a → H1[a]? = H[a]?) : z_SE st A U H1 := ⟨⟨h.1.1.kept hq, h.1.2.kept hq⟩, ⟨h.2.1.kept hq, h.2.2.kept hq⟩⟩
theorem z_SE.narrow {st : Nat → Nat} {A B : Nat → Prop} {U : State} {H : Heap} (h : z_SE st A U H) (hAB : ∀ q, B q → A q) : z_SE st B U H := ⟨⟨h.1.1.narrow hAB, h.1.2.narrow hAB⟩, ⟨h.2.1.narrow hAB, h.2.2.narrow hAB⟩⟩
/-! worlds as bags -/
theorem zP_iff {G : va_G} {cl : List vw_C} {ws : va_W} {H : Heap} : va_P G cl ws H ↔ ∀ q ∈ ws, va_at G cl q H :=
  ⟨fun h q hq => by obtain ⟨k, hk⟩ := List.getElem?_of_mem hq; exact h k q hk, fun h k q hk => h q (List.mem_of_getElem? hk)⟩
theorem zP_perm {G : va_G} {cl : List vw_C} {w1 w2 : va_W} {H : Heap} (hp : w1.Perm w2) (h : va_P G cl w1 H) : va_P G cl w2 H := zP_iff.mpr fun q hq => zP_iff.mp h q (hp.mem_iff.mpr hq)
theorem zD_iff {A : Nat → Prop} {ws : va_W} : va_D A ws ↔ (ws.map Prod.fst).Nodup ∧ ∀ q ∈ ws, A q.1 := by
  constructor
  · intro h
    refine ⟨?_, fun q hq => by obtain ⟨k, hk⟩ := List.getElem?_of_mem hq; exact h.2 k q hk⟩
    rw [List.nodup_iff_pairwise_ne, List.pairwise_map, List.pairwise_iff_getElem]
    intro i j hi hj hij he
    have := h.1 i j ws[i] ws[j] (List.getElem?_eq_getElem hi) (List.getElem?_eq_getElem hj) he
    omega
  · intro h
    have h1 := h.1
    rw [List.nodup_iff_pairwise_ne, List.pairwise_map, List.pairwise_iff_getElem] at h1
    refine ⟨fun i j p q hi hj hpq => ?_, fun k q hk => h.2 q (List.mem_of_getElem? hk)⟩
    obtain ⟨hi1, rfl⟩ := List.getElem?_eq_some_iff.mp hi
    obtain ⟨hj1, rfl⟩ := List.getElem?_eq_some_iff.mp hj
    rcases Nat.lt_trichotomy i j with q | q | q
    · exact absurd hpq (h1 i j hi1 hj1 q)
    · exact q
    · exact absurd hpq.symm (h1 j i hj1 hi1 q)
theorem zD_perm {A : Nat → Prop} {w1 w2 : va_W} (hp : w1.Perm w2) (h : va_D A w1) : va_D A w2 :=
  zD_iff.mpr ⟨(hp.map Prod.fst).nodup_iff.mp (zD_iff.mp h).1, fun q hq => (zD_iff.mp h).2 q (hp.mem_iff.mpr hq)⟩
theorem zD_left {A : Nat → Prop} {w1 w2 : va_W} (h : va_D A (w1 ++ w2)) : va_D A w1 :=
  zD_iff.mpr ⟨List.Nodup.sublist ((List.sublist_append_left w1 w2).map Prod.fst) (zD_iff.mp h).1, fun q hq => (zD_iff.mp h).2 q (List.mem_append_left _ hq)⟩
theorem zD_right {A : Nat → Prop} {w1 w2 : va_W} (h : va_D A (w1 ++ w2)) : va_D A w2 :=
  zD_iff.mpr ⟨List.Nodup.sublist ((List.sublist_append_right w1 w2).map Prod.fst) (zD_iff.mp h).1, fun q hq => (zD_iff.mp h).2 q (List.mem_append_right _ hq)⟩
theorem zP_left {G : va_G} {cl : List vw_C} {w1 w2 : va_W} {H : Heap} (h : va_P G cl (w1 ++ w2) H) : va_P G cl w1 H := zP_iff.mpr fun q hq => zP_iff.mp h q (List.mem_append_left _ hq)
theorem zP_right {G : va_G} {cl : List vw_C} {w1 w2 : va_W} {H : Heap} (h : va_P G cl (w1 ++ w2) H) : va_P G cl w2 H := zP_iff.mpr fun q hq => zP_iff.mp h q (List.mem_append_right _ hq)
/-- a part of a world, and the world when that part has become another -/
def zCut (ws wc ws' wc' : va_W) : Prop := ∃ wr : va_W, ws.Perm (wc ++ wr) ∧ (wc' ++ wr).Perm ws'
theorem zCut_all {w w' : va_W} : zCut w w w' w' := ⟨[], by rw [List.append_nil], by rw [List.append_nil]⟩
theorem zCut_nil {w : va_W} : zCut w [] w [] := ⟨w, by rw [List.nil_append], by rw [List.nil_append]⟩
theorem zCut_l {ws wc ws' wc' x : va_W} (h : zCut ws wc ws' wc') : zCut (ws ++ x) wc (ws' ++ x) wc' := by
  obtain ⟨wr, h1, h2⟩ := h
  exact ⟨wr ++ x, by rw [← List.append_assoc]; exact h1.append_right x, by rw [← List.append_assoc]; exact h2.append_right x⟩
theorem zCut_r {ws wc ws' wc' x : va_W} (h : zCut ws wc ws' wc') : zCut (x ++ ws) wc (x ++ ws') wc' := by
  obtain ⟨wr, h1, h2⟩ := h
  exact ⟨x ++ wr, (h1.append_left x).trans (List.perm_append_comm_assoc x wc wr), (List.perm_append_comm_assoc wc' x wr).trans (h2.append_left x)⟩
theorem zCut_b {w1 c1 w1' c1' w2 c2 w2' c2' : va_W} (h : zCut w1 c1 w1' c1') (k : zCut w2 c2 w2' c2') : zCut (w1 ++ w2) (c1 ++ c2) (w1' ++ w2') (c1' ++ c2') := by
  obtain ⟨r1, h1, h2⟩ := h
  obtain ⟨r2, k1, k2⟩ := k
  have p : ∀ a b c d : va_W, ((a ++ b) ++ (c ++ d)).Perm ((a ++ c) ++ (b ++ d)) := fun a b c d => by
    rw [List.append_assoc, List.append_assoc]
    exact (List.perm_append_comm_assoc b c d).append_left a
  exact ⟨r1 ++ r2, (h1.append k1).trans (p _ _ _ _), (p _ _ _ _).trans (h2.append k2)⟩
theorem zCut_c {ws c1 c2 ws' c1' c2' : va_W} (h : zCut ws (c1 ++ c2) ws' (c1' ++ c2')) : zCut ws (c2 ++ c1) ws' (c2' ++ c1') := by
  obtain ⟨r, h1, h2⟩ := h
  exact ⟨r, h1.trans (List.perm_append_comm.append_right r), (List.perm_append_comm.append_right r).trans h2⟩
theorem zCut_t {ws wc ws' wc' wd wd' : va_W} (h : zCut ws wc ws' wc') (k : zCut wc wd wc' wd') : zCut ws wd ws' wd' := by
  obtain ⟨r1, h1, h2⟩ := h
  obtain ⟨r2, k1, k2⟩ := k
  exact ⟨r2 ++ r1, by rw [← List.append_assoc]; exact h1.trans (k1.append_right r1), by rw [← List.append_assoc]; exact (k2.append_right r1).trans h2⟩
theorem zCut_e {ws wc ws' wc' ws2 : va_W} (h : zCut ws wc ws' wc') (e : ws' = ws2) : zCut ws wc ws2 wc' := e ▸ h
theorem z_after {G : va_G} {cl : List vw_C} {A : Nat → Prop} {wc wr wc' : va_W} {H H1 : Heap} (hP : va_P G cl (wc ++ wr) H) (hD : va_D A (wc ++ wr)) (hk : ∀ q : Nat, q < H.size → ¬ va_A wc H.size q → H1[q]? = H[q]?) (hF : ∀ q, va_A wc H.size q → A q) (hP1 : va_P G cl wc' H1) (hD1 : va_D (va_A wc H.size) wc') : va_P G cl (wc' ++ wr) H1 ∧ va_D A (wc' ++ wr) := by
  have apart : ∀ q ∈ wr, q.1 < H.size ∧ ¬ va_A wc H.size q.1 := by
    intro q hq
    have hl := (zP_iff.mp hP q (List.mem_append_right _ hq)).lt
    refine ⟨hl, fun h => ?_⟩
    rcases h with ⟨k, e, h⟩ | h
    · obtain ⟨j, hj⟩ := List.getElem?_of_mem hq
      have hkl := (List.getElem?_eq_some_iff.mp h).1
      have h1 : (wc ++ wr)[k]? = some (q.1, e) := by rw [List.getElem?_append_left hkl]; exact h
      have h2 : (wc ++ wr)[wc.length + j]? = some q := by rw [List.getElem?_append_right (by omega), Nat.add_sub_cancel_left]; exact hj
      have := hD.1 _ _ _ _ h1 h2 rfl
      omega
    · omega
  refine ⟨hP1.app (zP_iff.mpr fun q hq => (zP_iff.mp hP q (List.mem_append_right _ hq)).kept (hk q.1 (apart q hq).1 (apart q hq).2)), va_D.app (hD1.weaken (fun _ q _ h => hF q.1 h)) (zD_right hD) (fun i j x y hx hy hxy => ?_)⟩
  exact (apart y (List.mem_of_getElem? hy)).2 (by rw [← hxy]; exact hD1.2 i x hx)
theorem z_freeA {A : Nat → Prop} {wc : va_W} {H0 H : Heap} {locs : List Loc} (hD : va_D A wc) (hS : va_S A H0 H locs) (hA : ∀ q, H0.size ≤ q → A q) : ∀ q, va_A wc H.size q → A q := by
  intro q h
  rcases h with ⟨k, e, h⟩ | h
  · exact hD.2 k (q, e) h
  · exact hA q (Nat.le_trans hS.1 h)
/-- a cell in its place, and the world when it has become another -/
def zFoc (ws : va_W) (q a : Nat) (e : va_E) (ws' : va_W) (e' : va_E) : Prop := ws[q]? = some (a, e) ∧ ws.set q (a, e') = ws'
theorem zat_l {w1 w2 : va_W} {q : Nat} {x : Nat × va_E} (h : w1[q]? = some x) : (w1 ++ w2)[q]? = some x := by
  rw [List.getElem?_append_left (List.getElem?_eq_some_iff.mp h).1]; exact h
theorem zat_r {w1 w2 : va_W} {n q : Nat} {x : Nat × va_E} (hn : w1.length = n) (h : w2[q]? = some x) : (w1 ++ w2)[n + q]? = some x := by
  subst hn
  rw [List.getElem?_append_right (by omega), Nat.add_sub_cancel_left]; exact h
theorem zFoc_l {w1 w1' w2 : va_W} {q a : Nat} {e e' : va_E} (h : zFoc w1 q a e w1' e') : zFoc (w1 ++ w2) q a e (w1' ++ w2) e' :=
  ⟨zat_l h.1, by rw [List.set_append_left _ _ (List.getElem?_eq_some_iff.mp h.1).1, h.2]⟩
theorem zFoc_r {w1 w2 w2' : va_W} {n q a : Nat} {e e' : va_E} (hn : w1.length = n) (h : zFoc w2 q a e w2' e') : zFoc (w1 ++ w2) (n + q) a e (w1 ++ w2') e' :=
  ⟨zat_r hn h.1, by subst hn; rw [List.set_append_right _ _ (by omega), Nat.add_sub_cancel_left, h.2]⟩
/-! contracts: all cells stay where they are -/
def zPc (G : va_G) (cy : Nat → ClassId) (st : Nat → Nat) (w : va_W) (sz : Nat) (U : State) : Prop := U.heap.size = sz ∧ va_P G vwCl w U.heap ∧ va_K G vwCl (zT cy) U ∧ va_D (fun _ => True) w ∧ z_SE st (va_A w sz) U U.heap
theorem zPc_blind {G : va_G} {cy : Nat → ClassId} {st : Nat → Nat} {w : va_W} {sz : Nat} {av : List Value} : FrameBlind (va_Pc av (zPc G cy st w sz)) := fun a U g mk q => by
  obtain ⟨q0, q1, qP, qK, qD, qS⟩ := q
  exact ⟨q0, q1, qP, va_K.moved (u := U) (U := U.calling g mk a) (Vm.Alike.refl U.vm) qK, qD, z_SE.moved (u := U) (U := U.calling g mk a) (Vm.Alike.refl U.vm) qS⟩
abbrev zB (G : va_G) (cy : Nat → ClassId) (A : Nat → Prop) (w : va_W) : Unit → State → Prop := fun _ t => va_P G vwCl w t.heap ∧ va_K G vwCl (zT cy) t ∧ va_D A w
abbrev zQi (G : va_G) (cy : Nat → ClassId) (A : Nat → Prop) (w : va_W) (r : Int32) : Array Value → State → Outcome → State → Prop := va_Qi (fun (x : Int32) (_ : Unit) => x = r) (zB G cy A w) A
abbrev zQl (G : va_G) (cy : Nat → ClassId) (A : Nat → Prop) (w : va_W) (r : Int64) : Array Value → State → Outcome → State → Prop := va_Ql (fun (x : Int64) (_ : Unit) => x = r) (zB G cy A w) A
abbrev zQv (G : va_G) (cy : Nat → ClassId) (A : Nat → Prop) (w : va_W) : Array Value → State → Outcome → State → Prop := va_Qv (fun _ : Unit => True) (zB G cy A w) A
def zMi (l : Launch) (y : MethodName) (ws : List Cond) (rm : Room) (G : va_G) (cy : Nat → ClassId) (st : Nat → Nat) (av : List Value) (w w' : va_W) (r : Int32) : Prop := ∀ sz : Nat, Met l y ws rm (va_Pc av (zPc G cy st w sz)) (zQi G cy (va_A w sz) w' r) 0 0 (va_A w sz)
def zMl (l : Launch) (y : MethodName) (ws : List Cond) (rm : Room) (G : va_G) (cy : Nat → ClassId) (st : Nat → Nat) (av : List Value) (w w' : va_W) (r : Int64) : Prop := ∀ sz : Nat, Met l y ws rm (va_Pc av (zPc G cy st w sz)) (zQl G cy (va_A w sz) w' r) 0 0 (va_A w sz)
def zMv (l : Launch) (y : MethodName) (ws : List Cond) (rm : Room) (G : va_G) (cy : Nat → ClassId) (st : Nat → Nat) (av : List Value) (w w' : va_W) : Prop := ∀ sz : Nat, Met l y ws rm (va_Pc av (zPc G cy st w sz)) (zQv G cy (va_A w sz) w') 0 0 (va_A w sz)
/-- the room of a method that calls d deep -/
def zR (d : Nat) : Room := { frames := d, cells := 0, slots := 0, locals := 40 * d }
abbrev zBody (l : Launch) (y : MethodName) (ws : List Cond) (rm : Room) (G : va_G) (cy : Nat → ClassId) (st : Nat → Nat) (av : List Value) (w : va_W) (cc : ByteArray) (maxL : Nat) (ret : Option FieldType) (Qc : (Nat → Prop) → Array Value → State → Outcome → State → Prop) : Prop :=
  ∀ (p : Program) (e : Env) (s : State) (m : MethodId) (below : List Frame) (meth : Method) (c : Code) (A : Nat → Prop) (ls : Array Slot), p.tables.exec = Jvm.exec → c.code = cc → c.maxLocals = maxL → meth.sig.returnType = ret → meth.locks = false → s.vm.findClass y.cls = some m.cls → (∀ x ∈ ws, x.before av.toArray s = true) → va_K G vwCl (zT cy) s → z_SE st A s s.heap → (∀ q, s.heap.size ≤ q → A q) → va_P G vwCl w s.heap → va_D A w → va_S A s.heap s.heap [] → lv_has ls maxL (lv_args 0 av) → W p l e rm s m av.toArray below meth c s.heap [] 0 0 (MQ below (Qc A) av.toArray s 0 0 A) (F0 m 0 ls [])
theorem zM_of {l : Launch} {y : MethodName} {ws ws' : List Cond} {rm : Room} {G : va_G} {cy : Nat → ClassId} {st : Nat → Nat} {av : List Value} {w : va_W} {cc : ByteArray} {maxL : Nat} {ret : Option FieldType} {Qc : (Nat → Prop) → Array Value → State → Outcome → State → Prop} (hy : plainName y.cls = true) (hw : ws = Cond.code y cc maxL ret :: ws') (hn : (lg_sl av).length ≤ maxL) (body : zBody l y ws rm G cy st av w cc maxL ret Qc) : ∀ sz : Nat, Met l y ws rm (va_Pc av (zPc G cy st w sz)) (Qc (va_A w sz)) 0 0 (va_A w sz) := by
  intro sz
  refine Met.ofW (cc := cc) (maxL := maxL) (ret := ret) hy hw ?_
  intro p e s m args below meth c s₁ B hml hv
  obtain ⟨rfl, hsz, hP, hK, hD0, hSE⟩ := hv
  subst hsz
  rw [lg_entry_eq]
  exact body p e s m below meth c _ _ B.exec B.bytes hml B.returns B.notSynchronized (findClass_of_methodNamed B.named) (atoms_spec (ws := ws) B.pre) hK hSE (fun q h => Or.inr h) hP hD0.self va_S.rf (lv_entry av hn)
end
section
/-! ===== one row an instruction: the option hF says what the code does from here ===== -/
section ZR
variable {p : Program} {l : Launch} {e : Env} {R : Room} {s : State} {m : MethodId} {args : Array Value} {below : List Frame} {meth : Method} {c : Code} {H : Heap} {locs : List Loc} {cells slots : Nat} {Q : State → Prop} {cc : ByteArray} {pc : Nat} {ls : Array Slot} {rest : List Value} {ρ : Type} {o : ρ}
variable {G : va_G} {cl : List vw_C} {A : Nat → Prop} {a : Nat} {tys : List (ClassId × FieldType)} {ws : va_W} {H0 : Heap}
theorem z_leti {x : Int32} {k : Int32 → Option ρ} (hF : zlet x k = some o) (kk : ∀ y : Int32, k y = some o → W p l e R s m args below meth c H locs cells slots Q (F0 m pc ls (.int y :: rest))) : W p l e R s m args below meth c H locs cells slots Q (F0 m pc ls (.int x :: rest)) := kk x hF
theorem z_letl {x : Int64} {k : Int64 → Option ρ} (hF : zlet x k = some o) (kk : ∀ y : Int64, k y = some o → W p l e R s m args below meth c H locs cells slots Q (F0 m pc ls (.long y :: rest))) : W p l e R s m args below meth c H locs cells slots Q (F0 m pc ls (.long x :: rest)) := kk x hF
theorem z_name {α : Type} {P : Prop} {x : α} {k : α → Option ρ} (hF : zlet x k = some o) (kk : ∀ y : α, y = x → k y = some o → P) : P := kk x rfl hF
theorem zf_eq (hx : p.tables.exec = Jvm.exec) (hb : c.code = cc) {x : Int32} {off : Int} {tgt : Nat} {X Y : Option ρ} (hF : (if x = 0 then X else Y) = some o) (hdg : decode cc pc = .ok (.ifCond .eq off, 3)) (ht : (pc : Int) + off = (tgt : Int)) (kt : X = some o → W p l e R s m args below meth c H locs cells slots Q (F0 m tgt ls rest)) (kf : Y = some o → W p l e R s m args below meth c H locs cells slots Q (F0 m (pc + 3) ls rest)) : W p l e R s m args below meth c H locs cells slots Q (F0 m pc ls (.int x :: rest)) := lv_if_eq hx hb hdg ht (fun h => kt ((if_pos h).symm.trans hF)) (fun h => kf ((if_neg h).symm.trans hF))
theorem zi_eq (hx : p.tables.exec = Jvm.exec) (hb : c.code = cc) {x y : Int32} {off : Int} {tgt : Nat} {X Y : Option ρ} (hF : (if x = y then X else Y) = some o) (hdg : decode cc pc = .ok (.if_icmp .eq off, 3)) (ht : (pc : Int) + off = (tgt : Int)) (kt : X = some o → W p l e R s m args below meth c H locs cells slots Q (F0 m tgt ls rest)) (kf : Y = some o → W p l e R s m args below meth c H locs cells slots Q (F0 m (pc + 3) ls rest)) : W p l e R s m args below meth c H locs cells slots Q (F0 m pc ls (.int y :: .int x :: rest)) := lv_icmp_eq hx hb hdg ht (fun h => kt ((if_pos h).symm.trans hF)) (fun h => kf ((if_neg h).symm.trans hF))
theorem zf_ne (hx : p.tables.exec = Jvm.exec) (hb : c.code = cc) {x : Int32} {off : Int} {tgt : Nat} {X Y : Option ρ} (hF : (if x = 0 then Y else X) = some o) (hdg : decode cc pc = .ok (.ifCond .ne off, 3)) (ht : (pc : Int) + off = (tgt : Int)) (kt : X = some o → W p l e R s m args below meth c H locs cells slots Q (F0 m tgt ls rest)) (kf : Y = some o → W p l e R s m args below meth c H locs cells slots Q (F0 m (pc + 3) ls rest)) : W p l e R s m args below meth c H locs cells slots Q (F0 m pc ls (.int x :: rest)) := lv_if_ne hx hb hdg ht (fun h => kt ((if_neg h).symm.trans hF)) (fun h => kf ((if_pos h).symm.trans hF))
theorem zi_ne (hx : p.tables.exec = Jvm.exec) (hb : c.code = cc) {x y : Int32} {off : Int} {tgt : Nat} {X Y : Option ρ} (hF : (if x = y then Y else X) = some o) (hdg : decode cc pc = .ok (.if_icmp .ne off, 3)) (ht : (pc : Int) + off = (tgt : Int)) (kt : X = some o → W p l e R s m args below meth c H locs cells slots Q (F0 m tgt ls rest)) (kf : Y = some o → W p l e R s m args below meth c H locs cells slots Q (F0 m (pc + 3) ls rest)) : W p l e R s m args below meth c H locs cells slots Q (F0 m pc ls (.int y :: .int x :: rest)) := lv_icmp_ne hx hb hdg ht (fun h => kt ((if_neg h).symm.trans hF)) (fun h => kf ((if_pos h).symm.trans hF))
theorem zf_lt (hx : p.tables.exec = Jvm.exec) (hb : c.code = cc) {x : Int32} {off : Int} {tgt : Nat} {X Y : Option ρ} (hF : (if x < 0 then X else Y) = some o) (hdg : decode cc pc = .ok (.ifCond .lt off, 3)) (ht : (pc : Int) + off = (tgt : Int)) (kt : X = some o → W p l e R s m args below meth c H locs cells slots Q (F0 m tgt ls rest)) (kf : Y = some o → W p l e R s m args below meth c H locs cells slots Q (F0 m (pc + 3) ls rest)) : W p l e R s m args below meth c H locs cells slots Q (F0 m pc ls (.int x :: rest)) := lv_if_lt hx hb hdg ht (fun h => kt ((if_pos h).symm.trans hF)) (fun h => kf ((if_neg h).symm.trans hF))
theorem zi_lt (hx : p.tables.exec = Jvm.exec) (hb : c.code = cc) {x y : Int32} {off : Int} {tgt : Nat} {X Y : Option ρ} (hF : (if x < y then X else Y) = some o) (hdg : decode cc pc = .ok (.if_icmp .lt off, 3)) (ht : (pc : Int) + off = (tgt : Int)) (kt : X = some o → W p l e R s m args below meth c H locs cells slots Q (F0 m tgt ls rest)) (kf : Y = some o → W p l e R s m args below meth c H locs cells slots Q (F0 m (pc + 3) ls rest)) : W p l e R s m args below meth c H locs cells slots Q (F0 m pc ls (.int y :: .int x :: rest)) := lv_icmp_lt hx hb hdg ht (fun h => kt ((if_pos h).symm.trans hF)) (fun h => kf ((if_neg h).symm.trans hF))
theorem zf_ge (hx : p.tables.exec = Jvm.exec) (hb : c.code = cc) {x : Int32} {off : Int} {tgt : Nat} {X Y : Option ρ} (hF : (if 0 ≤ x then X else Y) = some o) (hdg : decode cc pc = .ok (.ifCond .ge off, 3)) (ht : (pc : Int) + off = (tgt : Int)) (kt : X = some o → W p l e R s m args below meth c H locs cells slots Q (F0 m tgt ls rest)) (kf : Y = some o → W p l e R s m args below meth c H locs cells slots Q (F0 m (pc + 3) ls rest)) : W p l e R s m args below meth c H locs cells slots Q (F0 m pc ls (.int x :: rest)) := lv_if_ge hx hb hdg ht (fun h => kt ((if_pos h).symm.trans hF)) (fun h => kf ((if_neg h).symm.trans hF))
theorem zi_ge (hx : p.tables.exec = Jvm.exec) (hb : c.code = cc) {x y : Int32} {off : Int} {tgt : Nat} {X Y : Option ρ} (hF : (if y ≤ x then X else Y) = some o) (hdg : decode cc pc = .ok (.if_icmp .ge off, 3)) (ht : (pc : Int) + off = (tgt : Int)) (kt : X = some o → W p l e R s m args below meth c H locs cells slots Q (F0 m tgt ls rest)) (kf : Y = some o → W p l e R s m args below meth c H locs cells slots Q (F0 m (pc + 3) ls rest)) : W p l e R s m args below meth c H locs cells slots Q (F0 m pc ls (.int y :: .int x :: rest)) := lv_icmp_ge hx hb hdg ht (fun h => kt ((if_pos h).symm.trans hF)) (fun h => kf ((if_neg h).symm.trans hF))
theorem zf_gt (hx : p.tables.exec = Jvm.exec) (hb : c.code = cc) {x : Int32} {off : Int} {tgt : Nat} {X Y : Option ρ} (hF : (if 0 < x then X else Y) = some o) (hdg : decode cc pc = .ok (.ifCond .gt off, 3)) (ht : (pc : Int) + off = (tgt : Int)) (kt : X = some o → W p l e R s m args below meth c H locs cells slots Q (F0 m tgt ls rest)) (kf : Y = some o → W p l e R s m args below meth c H locs cells slots Q (F0 m (pc + 3) ls rest)) : W p l e R s m args below meth c H locs cells slots Q (F0 m pc ls (.int x :: rest)) := lv_if_gt hx hb hdg ht (fun h => kt ((if_pos h).symm.trans hF)) (fun h => kf ((if_neg h).symm.trans hF))
theorem zi_gt (hx : p.tables.exec = Jvm.exec) (hb : c.code = cc) {x y : Int32} {off : Int} {tgt : Nat} {X Y : Option ρ} (hF : (if y < x then X else Y) = some o) (hdg : decode cc pc = .ok (.if_icmp .gt off, 3)) (ht : (pc : Int) + off = (tgt : Int)) (kt : X = some o → W p l e R s m args below meth c H locs cells slots Q (F0 m tgt ls rest)) (kf : Y = some o → W p l e R s m args below meth c H locs cells slots Q (F0 m (pc + 3) ls rest)) : W p l e R s m args below meth c H locs cells slots Q (F0 m pc ls (.int y :: .int x :: rest)) := lv_icmp_gt hx hb hdg ht (fun h => kt ((if_pos h).symm.trans hF)) (fun h => kf ((if_neg h).symm.trans hF))
theorem zf_le (hx : p.tables.exec = Jvm.exec) (hb : c.code = cc) {x : Int32} {off : Int} {tgt : Nat} {X Y : Option ρ} (hF : (if x ≤ 0 then X else Y) = some o) (hdg : decode cc pc = .ok (.ifCond .le off, 3)) (ht : (pc : Int) + off = (tgt : Int)) (kt : X = some o → W p l e R s m args below meth c H locs cells slots Q (F0 m tgt ls rest)) (kf : Y = some o → W p l e R s m args below meth c H locs cells slots Q (F0 m (pc + 3) ls rest)) : W p l e R s m args below meth c H locs cells slots Q (F0 m pc ls (.int x :: rest)) := lv_if_le hx hb hdg ht (fun h => kt ((if_pos h).symm.trans hF)) (fun h => kf ((if_neg h).symm.trans hF))
theorem zi_le (hx : p.tables.exec = Jvm.exec) (hb : c.code = cc) {x y : Int32} {off : Int} {tgt : Nat} {X Y : Option ρ} (hF : (if x ≤ y then X else Y) = some o) (hdg : decode cc pc = .ok (.if_icmp .le off, 3)) (ht : (pc : Int) + off = (tgt : Int)) (kt : X = some o → W p l e R s m args below meth c H locs cells slots Q (F0 m tgt ls rest)) (kf : Y = some o → W p l e R s m args below meth c H locs cells slots Q (F0 m (pc + 3) ls rest)) : W p l e R s m args below meth c H locs cells slots Q (F0 m pc ls (.int y :: .int x :: rest)) := lv_icmp_le hx hb hdg ht (fun h => kt ((if_pos h).symm.trans hF)) (fun h => kf ((if_neg h).symm.trans hF))
theorem z_iald (hx : p.tables.exec = Jvm.exec) (hb : c.code = cc) (hK : va_K G cl tys s) (hP : va_P G cl ws H) (q0 t0 : Nat) {cA : ClassId} {n : Nat} {f : Nat → Int32} (ha : ws[q0]? = some (a, .inl (cA, n, .inl f))) (ht : tys[t0]? = some (cA, .int)) {i : Int32} {X : Option ρ} (hF : zg (zin i n) X = some o) (hdg : decode cc pc = .ok (.iaload, 1)) (kk : X = some o → W p l e R s m args below meth c H locs cells slots Q (F0 m (pc + 1) ls (.int (f (zn i)) :: rest))) : W p l e R s m args below meth c H locs cells slots Q (F0 m pc ls (.int i :: .ref a :: rest)) := va_iald hx hb hK hP q0 t0 ha ht (zin_in (zg_some hF).1) hdg (kk (zg_some hF).2)
theorem z_bald (hx : p.tables.exec = Jvm.exec) (hb : c.code = cc) (hK : va_K G cl tys s) (hP : va_P G cl ws H) (q0 t0 : Nat) {cA : ClassId} {n : Nat} {f : Nat → Int32} (ha : ws[q0]? = some (a, .inl (cA, n, .inl f))) (ht : tys[t0]? = some (cA, .byte)) {i : Int32} {X : Option ρ} (hF : zg (zin i n) X = some o) (hdg : decode cc pc = .ok (.baload, 1)) (kk : X = some o → W p l e R s m args below meth c H locs cells slots Q (F0 m (pc + 1) ls (.int (f (zn i)) :: rest))) : W p l e R s m args below meth c H locs cells slots Q (F0 m pc ls (.int i :: .ref a :: rest)) := va_bald hx hb hK hP q0 t0 ha ht (zin_in (zg_some hF).1) hdg (kk (zg_some hF).2)
theorem z_zald (hx : p.tables.exec = Jvm.exec) (hb : c.code = cc) (hK : va_K G cl tys s) (hP : va_P G cl ws H) (q0 t0 : Nat) {cA : ClassId} {n : Nat} {f : Nat → Int32} (ha : ws[q0]? = some (a, .inl (cA, n, .inl f))) (ht : tys[t0]? = some (cA, .boolean)) {i : Int32} {X : Option ρ} (hF : zg (zin i n) X = some o) (hdg : decode cc pc = .ok (.baload, 1)) (kk : X = some o → W p l e R s m args below meth c H locs cells slots Q (F0 m (pc + 1) ls (.int (f (zn i)) :: rest))) : W p l e R s m args below meth c H locs cells slots Q (F0 m pc ls (.int i :: .ref a :: rest)) := va_zald hx hb hK hP q0 t0 ha ht (zin_in (zg_some hF).1) hdg (kk (zg_some hF).2)
theorem z_lald (hx : p.tables.exec = Jvm.exec) (hb : c.code = cc) (hK : va_K G cl tys s) (hP : va_P G cl ws H) (q0 t0 : Nat) {cA : ClassId} {n : Nat} {f : Nat → Int64} (ha : ws[q0]? = some (a, .inl (cA, n, .inr (.inl f)))) (ht : tys[t0]? = some (cA, .long)) {i : Int32} {X : Option ρ} (hF : zg (zin i n) X = some o) (hdg : decode cc pc = .ok (.laload, 1)) (kk : X = some o → W p l e R s m args below meth c H locs cells slots Q (F0 m (pc + 1) ls (.long (f (zn i)) :: rest))) : W p l e R s m args below meth c H locs cells slots Q (F0 m pc ls (.int i :: .ref a :: rest)) := va_lald hx hb hK hP q0 t0 ha ht (zin_in (zg_some hF).1) hdg (kk (zg_some hF).2)
theorem z_aald (hx : p.tables.exec = Jvm.exec) (hb : c.code = cc) (hK : va_K G cl tys s) (hP : va_P G cl ws H) (q0 t0 : Nat) {cA : ClassId} {C : String} {n : Nat} {ad : Nat → Nat} (ha : ws[q0]? = some (a, .inl (cA, n, .inr (.inr (.inr (.inr (fun j => some (ad j)))))))) (ht : tys[t0]? = some (cA, .object C)) {i : Int32} {X : Option ρ} (hF : zg (zin i n) X = some o) (hdg : decode cc pc = .ok (.aaload, 1)) (kk : zn i < n → X = some o → W p l e R s m args below meth c H locs cells slots Q (F0 m (pc + 1) ls (.ref (ad (zn i)) :: rest))) : W p l e R s m args below meth c H locs cells slots Q (F0 m pc ls (.int i :: .ref a :: rest)) := va_aldq hx hb hK hP q0 t0 ha ht (zin_in (zg_some hF).1) hdg (kk (zin_lt (zg_some hF).1) (zg_some hF).2)
theorem z_tald (hx : p.tables.exec = Jvm.exec) (hb : c.code = cc) {t N : Nat} {f : Nat → Int32} (hT : va_T .int t N (fun j => .int (f j)) A s s.heap) (hS : va_S A s.heap H locs) {i : Int32} {X : Option ρ} (hF : zg (zin i N) X = some o) (hdg : decode cc pc = .ok (.iaload, 1)) (kk : X = some o → W p l e R s m args below meth c H locs cells slots Q (F0 m (pc + 1) ls (.int (f (zn i)) :: rest))) : W p l e R s m args below meth c H locs cells slots Q (F0 m pc ls (.int i :: .ref t :: rest)) := va_ti hx hb hT hS (zin_in (zg_some hF).1) rfl hdg (kk (zg_some hF).2)
theorem z_iast {τ : Type} (wf : τ → va_W) {st1 : τ} {k : τ → Option ρ} (hx : p.tables.exec = Jvm.exec) (hb : c.code = cc) (hK : va_K G cl tys s) (hP : va_P G cl ws H) (hD : va_D A ws) (hS : va_S A H0 H locs) (q0 t0 : Nat) {cA : ClassId} {n : Nat} {f : Nat → Int32} {i : Int32} {x : Int32} (hf : zFoc ws q0 a (.inl (cA, n, .inl f)) (wf st1) (.inl (cA, n, .inl (upd f (zn i) x)))) (ht : tys[t0]? = some (cA, .int)) (hF : zg (zin i n) (zlet st1 k) = some o) (hdg : decode cc pc = .ok (.iastore, 1)) (kk : ∀ y : τ, k y = some o → ∀ (H1 : Heap) (locs1 : List Loc), va_P G cl (wf y) H1 → va_D A (wf y) → va_S A H0 H1 locs1 → W p l e R s m args below meth c H1 locs1 cells slots Q (F0 m (pc + 1) ls rest)) : W p l e R s m args below meth c H locs cells slots Q (F0 m pc ls (.int x :: .int i :: .ref a :: rest)) := va_iast hx hb hK hP hD hS q0 t0 hf.1 ht (zin_in (zg_some hF).1) hdg (fun H1 locs1 h1 h2 h3 => kk st1 (zg_some hF).2 H1 locs1 (hf.2 ▸ h1) (hf.2 ▸ h2) h3)
theorem z_bast {τ : Type} (wf : τ → va_W) {st1 : τ} {k : τ → Option ρ} (hx : p.tables.exec = Jvm.exec) (hb : c.code = cc) (hK : va_K G cl tys s) (hP : va_P G cl ws H) (hD : va_D A ws) (hS : va_S A H0 H locs) (q0 t0 : Nat) {cA : ClassId} {n : Nat} {f : Nat → Int32} {i : Int32} {x : Int32} (hf : zFoc ws q0 a (.inl (cA, n, .inl f)) (wf st1) (.inl (cA, n, .inl (upd f (zn i) (vp_nar .byte x))))) (ht : tys[t0]? = some (cA, .byte)) (hF : zg (zin i n) (zlet st1 k) = some o) (hdg : decode cc pc = .ok (.bastore, 1)) (kk : ∀ y : τ, k y = some o → ∀ (H1 : Heap) (locs1 : List Loc), va_P G cl (wf y) H1 → va_D A (wf y) → va_S A H0 H1 locs1 → W p l e R s m args below meth c H1 locs1 cells slots Q (F0 m (pc + 1) ls rest)) : W p l e R s m args below meth c H locs cells slots Q (F0 m pc ls (.int x :: .int i :: .ref a :: rest)) := va_bast hx hb hK hP hD hS q0 t0 hf.1 ht (zin_in (zg_some hF).1) hdg (fun H1 locs1 h1 h2 h3 => kk st1 (zg_some hF).2 H1 locs1 (hf.2 ▸ h1) (hf.2 ▸ h2) h3)
theorem z_zast {τ : Type} (wf : τ → va_W) {st1 : τ} {k : τ → Option ρ} (hx : p.tables.exec = Jvm.exec) (hb : c.code = cc) (hK : va_K G cl tys s) (hP : va_P G cl ws H) (hD : va_D A ws) (hS : va_S A H0 H locs) (q0 t0 : Nat) {cA : ClassId} {n : Nat} {f : Nat → Int32} {i : Int32} {x : Int32} (hf : zFoc ws q0 a (.inl (cA, n, .inl f)) (wf st1) (.inl (cA, n, .inl (upd f (zn i) (vp_nar .boolean x))))) (ht : tys[t0]? = some (cA, .boolean)) (hF : zg (zin i n) (zlet st1 k) = some o) (hdg : decode cc pc = .ok (.bastore, 1)) (kk : ∀ y : τ, k y = some o → ∀ (H1 : Heap) (locs1 : List Loc), va_P G cl (wf y) H1 → va_D A (wf y) → va_S A H0 H1 locs1 → W p l e R s m args below meth c H1 locs1 cells slots Q (F0 m (pc + 1) ls rest)) : W p l e R s m args below meth c H locs cells slots Q (F0 m pc ls (.int x :: .int i :: .ref a :: rest)) := va_zast hx hb hK hP hD hS q0 t0 hf.1 ht (zin_in (zg_some hF).1) hdg (fun H1 locs1 h1 h2 h3 => kk st1 (zg_some hF).2 H1 locs1 (hf.2 ▸ h1) (hf.2 ▸ h2) h3)
theorem z_last {τ : Type} (wf : τ → va_W) {st1 : τ} {k : τ → Option ρ} (hx : p.tables.exec = Jvm.exec) (hb : c.code = cc) (hK : va_K G cl tys s) (hP : va_P G cl ws H) (hD : va_D A ws) (hS : va_S A H0 H locs) (q0 t0 : Nat) {cA : ClassId} {n : Nat} {f : Nat → Int64} {i : Int32} {x : Int64} (hf : zFoc ws q0 a (.inl (cA, n, .inr (.inl f))) (wf st1) (.inl (cA, n, .inr (.inl (vp_updL f (zn i) x))))) (ht : tys[t0]? = some (cA, .long)) (hF : zg (zin i n) (zlet st1 k) = some o) (hdg : decode cc pc = .ok (.lastore, 1)) (kk : ∀ y : τ, k y = some o → ∀ (H1 : Heap) (locs1 : List Loc), va_P G cl (wf y) H1 → va_D A (wf y) → va_S A H0 H1 locs1 → W p l e R s m args below meth c H1 locs1 cells slots Q (F0 m (pc + 1) ls rest)) : W p l e R s m args below meth c H locs cells slots Q (F0 m pc ls (.long x :: .int i :: .ref a :: rest)) := va_last hx hb hK hP hD hS q0 t0 hf.1 ht (zin_in (zg_some hF).1) hdg (fun H1 locs1 h1 h2 h3 => kk st1 (zg_some hF).2 H1 locs1 (hf.2 ▸ h1) (hf.2 ▸ h2) h3)
theorem z_puti {τ : Type} (wf : τ → va_W) {st1 : τ} {k : τ → Option ρ} (hx : p.tables.exec = Jvm.exec) (hb : c.code = cc) {own ref C : String} {T : u_T} {N ci index : Nat} {Ts : List Cond} (hts : ∀ w ∈ Ts, w.before args s = true) (hin : ∀ w ∈ u_ws C T N, w ∈ Ts) (ty0 : Nat → FieldType) (hty : ∀ k, k < N → parseFieldDescriptor (T k).2.2.1 = some (ty0 k)) (hnm : ∀ a, a < N → ∀ b, b < N → a ≠ b → (T a).2.1 ≠ (T b).2.1) (hown : s.vm.findClass own = some m.cls) (hK : va_K G cl tys s) (hP : va_P G cl ws H) (hD : va_D A ws) (hS : va_S A H0 H locs) (q0 : Nat) {fs : List Value} (k0 : Nat) {x : Int32} (hf : zFoc ws q0 a (.inr (ci, fs)) (wf st1) (.inr (ci, fs.set k0 (.int x)))) (hc : cl[ci]? = some (C, T, N)) (hk : k0 < N) (hlink : (Cond.fieldLink own index ref (T k0).2.1 (T k0).2.2.1).before args s = true) (hsame : ∀ x, s.fieldFound? (T k0).1 (T k0).2.1 (T k0).2.2.1 = some x → s.fieldFound? ref (T k0).2.1 (T k0).2.2.1 = some x) (hfin : (T k0).2.2.2 = false) (hd : parseFieldDescriptor (T k0).2.2.1 = some .int) (hl : k0 < fs.length) (hF : zlet st1 k = some o) (hdg : decode cc pc = .ok (.putfield index, 3)) (kk : ∀ y : τ, k y = some o → ∀ (H1 : Heap) (locs1 : List Loc), va_P G cl (wf y) H1 → va_D A (wf y) → va_S A H0 H1 locs1 → W p l e R s m args below meth c H1 locs1 cells slots Q (F0 m (pc + 3) ls rest)) : W p l e R s m args below meth c H locs cells slots Q (F0 m pc ls (.int x :: .ref a :: rest)) := va_put hx hb hts hin ty0 hty hnm hown hK hP hD hS q0 hf.1 hc k0 hk hlink hsame hfin hd rfl rfl hl hdg (fun H1 locs1 h1 h2 h3 => kk st1 hF H1 locs1 (hf.2 ▸ h1) (hf.2 ▸ h2) h3)
def zbo (x : Int32) : Bool := decide (x = 0 ∨ x = 1)
theorem zbo_n {x : Int32} (h : zbo x = true) : narrow .boolean (.int x) = .int x := by rcases of_decide_eq_true h with h | h <;> (subst h; rfl)
theorem zbo_f {x : Int32} (h : zbo x = true) : fits .boolean (.int x) = true := by rcases of_decide_eq_true h with h | h <;> (subst h; rfl)
theorem z_putz {τ : Type} (wf : τ → va_W) {st1 : τ} {k : τ → Option ρ} (hx : p.tables.exec = Jvm.exec) (hb : c.code = cc) {own ref C : String} {T : u_T} {N ci index : Nat} {Ts : List Cond} (hts : ∀ w ∈ Ts, w.before args s = true) (hin : ∀ w ∈ u_ws C T N, w ∈ Ts) (ty0 : Nat → FieldType) (hty : ∀ k, k < N → parseFieldDescriptor (T k).2.2.1 = some (ty0 k)) (hnm : ∀ a, a < N → ∀ b, b < N → a ≠ b → (T a).2.1 ≠ (T b).2.1) (hown : s.vm.findClass own = some m.cls) (hK : va_K G cl tys s) (hP : va_P G cl ws H) (hD : va_D A ws) (hS : va_S A H0 H locs) (q0 : Nat) {fs : List Value} (k0 : Nat) {x : Int32} (hf : zFoc ws q0 a (.inr (ci, fs)) (wf st1) (.inr (ci, fs.set k0 (.int x)))) (hc : cl[ci]? = some (C, T, N)) (hk : k0 < N) (hlink : (Cond.fieldLink own index ref (T k0).2.1 (T k0).2.2.1).before args s = true) (hsame : ∀ x, s.fieldFound? (T k0).1 (T k0).2.1 (T k0).2.2.1 = some x → s.fieldFound? ref (T k0).2.1 (T k0).2.2.1 = some x) (hfin : (T k0).2.2.2 = false) (hd : parseFieldDescriptor (T k0).2.2.1 = some .boolean) (hl : k0 < fs.length) (hF : zg (zbo x) (zlet st1 k) = some o) (hdg : decode cc pc = .ok (.putfield index, 3)) (kk : ∀ y : τ, k y = some o → ∀ (H1 : Heap) (locs1 : List Loc), va_P G cl (wf y) H1 → va_D A (wf y) → va_S A H0 H1 locs1 → W p l e R s m args below meth c H1 locs1 cells slots Q (F0 m (pc + 3) ls rest)) : W p l e R s m args below meth c H locs cells slots Q (F0 m pc ls (.int x :: .ref a :: rest)) := va_put hx hb hts hin ty0 hty hnm hown hK hP hD hS q0 hf.1 hc k0 hk hlink hsame hfin hd (zbo_n (zg_some hF).1) (zbo_f (zg_some hF).1) hl hdg (fun H1 locs1 h1 h2 h3 => kk st1 (zg_some hF).2 H1 locs1 (hf.2 ▸ h1) (hf.2 ▸ h2) h3)
theorem z_iret {cy : Nat → ClassId} (wf : ρ → va_W) (rf : ρ → Int32) {o1 : ρ} (hx : p.tables.exec = Jvm.exec) (hb : c.code = cc) (hr : meth.sig.returnType = some .int) (hlocks : meth.locks = false) (hK : va_K G vwCl (zT cy) s) (hP : va_P G vwCl (wf o1) H) (hD : va_D A (wf o1)) (hS : va_S A s.heap H locs) (hF : some o1 = some o) {v : Int32} (hv : v = rf o1) (hdg : decode cc pc = .ok (.ireturn, 1)) : W p l e R s m args below meth c H locs 0 0 (MQ below (zQi G cy A (wf o) (rf o)) args s 0 0 A) (F0 m pc ls [.int v]) := by
  cases hF
  exact W.iret hx hb hr (fun t ht hW => ⟨⟨_, (), rfl, hv, by rw [ht]; exact hP, va_K.moved hW.alike hK, hD⟩, hS.F ht⟩) hS.2.2 hdg hlocks
theorem z_zret {cy : Nat → ClassId} (wf : ρ → va_W) (rf : ρ → Int32) {o1 : ρ} (hx : p.tables.exec = Jvm.exec) (hb : c.code = cc) (hr : meth.sig.returnType = some .boolean) (hlocks : meth.locks = false) (hK : va_K G vwCl (zT cy) s) (hP : va_P G vwCl (wf o1) H) (hD : va_D A (wf o1)) (hS : va_S A s.heap H locs) (hF : some o1 = some o) {v : Int32} (hv : v = rf o1) (hn : narrow .boolean (.int v) = .int v) (hdg : decode cc pc = .ok (.ireturn, 1)) : W p l e R s m args below meth c H locs 0 0 (MQ below (zQi G cy A (wf o) (rf o)) args s 0 0 A) (F0 m pc ls [.int v]) := by
  cases hF
  exact W.zret hx hb hr hn (fun t ht hW => ⟨⟨_, (), rfl, hv, by rw [ht]; exact hP, va_K.moved hW.alike hK, hD⟩, hS.F ht⟩) hS.2.2 hdg hlocks
theorem z_lret {cy : Nat → ClassId} (wf : ρ → va_W) (rf : ρ → Int64) {o1 : ρ} (hx : p.tables.exec = Jvm.exec) (hb : c.code = cc) (hr : meth.sig.returnType = some .long) (hlocks : meth.locks = false) (hK : va_K G vwCl (zT cy) s) (hP : va_P G vwCl (wf o1) H) (hD : va_D A (wf o1)) (hS : va_S A s.heap H locs) (hF : some o1 = some o) {v : Int64} (hv : v = rf o1) (hdg : decode cc pc = .ok (.lreturn, 1)) : W p l e R s m args below meth c H locs 0 0 (MQ below (zQl G cy A (wf o) (rf o)) args s 0 0 A) (F0 m pc ls [.long v]) := by
  cases hF
  exact W.lret hx hb hr (fun t ht hW => ⟨⟨_, (), rfl, hv, by rw [ht]; exact hP, va_K.moved hW.alike hK, hD⟩, hS.F ht⟩) hS.2.2 hdg hlocks
theorem z_vret {cy : Nat → ClassId} (wf : ρ → va_W)  {o1 : ρ} (hx : p.tables.exec = Jvm.exec) (hb : c.code = cc) (hr : meth.sig.returnType = none) (hlocks : meth.locks = false) (hK : va_K G vwCl (zT cy) s) (hP : va_P G vwCl (wf o1) H) (hD : va_D A (wf o1)) (hS : va_S A s.heap H locs) (hF : some o1 = some o)  (hdg : decode cc pc = .ok (.return_, 1)) : W p l e R s m args below meth c H locs 0 0 (MQ below (zQv G cy A (wf o)) args s 0 0 A) (F0 m pc ls []) := by
  cases hF
  exact W.vret hx hb hr (fun t ht hW => ⟨⟨(), rfl, trivial, by rw [ht]; exact hP, va_K.moved hW.alike hK, hD⟩, hS.F ht⟩) hS.2.2 hdg hlocks
theorem z_cVi {ρ' : Type} {fM : Option ρ'} {k : ρ' → Option ρ} {cy : Nat → ClassId} {st : Nat → Nat} {y : MethodName} {bytes : ByteArray} {maxL nL n index : Nat} {ret : Option FieldType} {wsC : List Cond} {rm : Room} {Ts : List Cond} {own C : String} {b : Addr} {As st0 : List Value} {wc : va_W} (wcf wf : ρ' → va_W) (rf : ρ' → Int32) (hF : zbd fM k = some o) (hM : ∀ o', fM = some o' → zMi l y wsC rm G cy st (.ref b :: As) wc (wcf o') (rf o')) (hcut : ∀ o', zCut ws wc (wf o') (wcf o')) (S : CallFix p m c cc nL s args Ts own) (cw : CallW R s args own C index y bytes maxL ret wsC rm 0 0 n) {ci q0 : Nat} {T : u_T} {N : Nat} {fs : List Value} (hc : vwCl[ci]? = some (C, T, N)) (hq : wc[q0]? = some (b, .inr (ci, fs))) (hK : va_K G vwCl (zT cy) s) (hSE : z_SE st A s s.heap) (hA : ∀ q, s.heap.size ≤ q → A q) (hP : va_P G vwCl ws H) (hD : va_D A ws) (hS : va_S A s.heap H locs) (hn : As.length = n) (hsize : ls.size = nL) (hstack : st0 = As.reverse ++ .ref b :: rest) (hW : (rest.map fun v => v.category).sum ≤ 8) (hdg : decode cc pc = .ok (.invokevirtual index, 3)) (hf : cells ≤ R.cells ∧ slots ≤ R.slots) (kk : ∀ o', k o' = some o → ∀ (H1 : Heap) (locs1 : List Loc), va_P G vwCl (wf o') H1 → va_D A (wf o') → va_S A s.heap H1 locs1 → W p l e R s m args below meth c H1 locs1 cells slots Q (F0 m (pc + 3) ls (.int (rf o') :: rest))) : W p l e R s m args below meth c H locs cells slots Q (F0 m pc ls st0) := by
  obtain ⟨o', hz, hF'⟩ := zbd_some hF
  obtain ⟨wr, h1, h2⟩ := hcut o'
  have hP' := zP_perm h1 hP
  have hD' := zD_perm h1 hD
  have hPc := zP_left hP'
  have hDc := zD_left hD'
  have hFc := z_freeA hDc hS hA
  refine va_calli (va_runV S (hM o' hz H.size) cw ⟨zPc_blind, va_recv hK hPc hc hq, fun U hU hW => ⟨rfl, by rw [hU], by rw [hU]; exact hPc, va_K.moved hW.alike hK, hDc.weaken (fun _ _ _ _ => trivial), by rw [hU]; exact ((hSE.kept hS.2.1).moved hW.alike).narrow hFc⟩⟩ rfl hn hsize hstack (lv_room hW) hdg hf) hS (fun q _ h => hFc q h) hFc (fun x u t H1 locs1 ht hvm hw hB hz1 hk1 hS1 => ?_)
  try dsimp only at hw
  subst hw
  obtain ⟨hP1, hK1, hD1⟩ := hB
  rw [ht] at hP1
  obtain ⟨hP2, hD2⟩ := z_after hP' hD' hk1 hFc hP1 hD1
  exact kk o' hF' H1 locs1 (zP_perm h2 hP2) (zD_perm h2 hD2) hS1
theorem z_cVl {ρ' : Type} {fM : Option ρ'} {k : ρ' → Option ρ} {cy : Nat → ClassId} {st : Nat → Nat} {y : MethodName} {bytes : ByteArray} {maxL nL n index : Nat} {ret : Option FieldType} {wsC : List Cond} {rm : Room} {Ts : List Cond} {own C : String} {b : Addr} {As st0 : List Value} {wc : va_W} (wcf wf : ρ' → va_W) (rf : ρ' → Int64) (hF : zbd fM k = some o) (hM : ∀ o', fM = some o' → zMl l y wsC rm G cy st (.ref b :: As) wc (wcf o') (rf o')) (hcut : ∀ o', zCut ws wc (wf o') (wcf o')) (S : CallFix p m c cc nL s args Ts own) (cw : CallW R s args own C index y bytes maxL ret wsC rm 0 0 n) {ci q0 : Nat} {T : u_T} {N : Nat} {fs : List Value} (hc : vwCl[ci]? = some (C, T, N)) (hq : wc[q0]? = some (b, .inr (ci, fs))) (hK : va_K G vwCl (zT cy) s) (hSE : z_SE st A s s.heap) (hA : ∀ q, s.heap.size ≤ q → A q) (hP : va_P G vwCl ws H) (hD : va_D A ws) (hS : va_S A s.heap H locs) (hn : As.length = n) (hsize : ls.size = nL) (hstack : st0 = As.reverse ++ .ref b :: rest) (hW : (rest.map fun v => v.category).sum ≤ 8) (hdg : decode cc pc = .ok (.invokevirtual index, 3)) (hf : cells ≤ R.cells ∧ slots ≤ R.slots) (kk : ∀ o', k o' = some o → ∀ (H1 : Heap) (locs1 : List Loc), va_P G vwCl (wf o') H1 → va_D A (wf o') → va_S A s.heap H1 locs1 → W p l e R s m args below meth c H1 locs1 cells slots Q (F0 m (pc + 3) ls (.long (rf o') :: rest))) : W p l e R s m args below meth c H locs cells slots Q (F0 m pc ls st0) := by
  obtain ⟨o', hz, hF'⟩ := zbd_some hF
  obtain ⟨wr, h1, h2⟩ := hcut o'
  have hP' := zP_perm h1 hP
  have hD' := zD_perm h1 hD
  have hPc := zP_left hP'
  have hDc := zD_left hD'
  have hFc := z_freeA hDc hS hA
  refine va_calll (va_runV S (hM o' hz H.size) cw ⟨zPc_blind, va_recv hK hPc hc hq, fun U hU hW => ⟨rfl, by rw [hU], by rw [hU]; exact hPc, va_K.moved hW.alike hK, hDc.weaken (fun _ _ _ _ => trivial), by rw [hU]; exact ((hSE.kept hS.2.1).moved hW.alike).narrow hFc⟩⟩ rfl hn hsize hstack (lv_room hW) hdg hf) hS (fun q _ h => hFc q h) hFc (fun x u t H1 locs1 ht hvm hw hB hz1 hk1 hS1 => ?_)
  try dsimp only at hw
  subst hw
  obtain ⟨hP1, hK1, hD1⟩ := hB
  rw [ht] at hP1
  obtain ⟨hP2, hD2⟩ := z_after hP' hD' hk1 hFc hP1 hD1
  exact kk o' hF' H1 locs1 (zP_perm h2 hP2) (zD_perm h2 hD2) hS1
theorem z_cVv {ρ' : Type} {fM : Option ρ'} {k : ρ' → Option ρ} {cy : Nat → ClassId} {st : Nat → Nat} {y : MethodName} {bytes : ByteArray} {maxL nL n index : Nat} {ret : Option FieldType} {wsC : List Cond} {rm : Room} {Ts : List Cond} {own C : String} {b : Addr} {As st0 : List Value} {wc : va_W} (wcf wf : ρ' → va_W)  (hF : zbd fM k = some o) (hM : ∀ o', fM = some o' → zMv l y wsC rm G cy st (.ref b :: As) wc (wcf o') ) (hcut : ∀ o', zCut ws wc (wf o') (wcf o')) (S : CallFix p m c cc nL s args Ts own) (cw : CallW R s args own C index y bytes maxL ret wsC rm 0 0 n) {ci q0 : Nat} {T : u_T} {N : Nat} {fs : List Value} (hc : vwCl[ci]? = some (C, T, N)) (hq : wc[q0]? = some (b, .inr (ci, fs))) (hK : va_K G vwCl (zT cy) s) (hSE : z_SE st A s s.heap) (hA : ∀ q, s.heap.size ≤ q → A q) (hP : va_P G vwCl ws H) (hD : va_D A ws) (hS : va_S A s.heap H locs) (hn : As.length = n) (hsize : ls.size = nL) (hstack : st0 = As.reverse ++ .ref b :: rest) (hW : (rest.map fun v => v.category).sum ≤ 8) (hdg : decode cc pc = .ok (.invokevirtual index, 3)) (hf : cells ≤ R.cells ∧ slots ≤ R.slots) (kk : ∀ o', k o' = some o → ∀ (H1 : Heap) (locs1 : List Loc), va_P G vwCl (wf o') H1 → va_D A (wf o') → va_S A s.heap H1 locs1 → W p l e R s m args below meth c H1 locs1 cells slots Q (F0 m (pc + 3) ls (rest))) : W p l e R s m args below meth c H locs cells slots Q (F0 m pc ls st0) := by
  obtain ⟨o', hz, hF'⟩ := zbd_some hF
  obtain ⟨wr, h1, h2⟩ := hcut o'
  have hP' := zP_perm h1 hP
  have hD' := zD_perm h1 hD
  have hPc := zP_left hP'
  have hDc := zD_left hD'
  have hFc := z_freeA hDc hS hA
  refine va_callv (va_runV S (hM o' hz H.size) cw ⟨zPc_blind, va_recv hK hPc hc hq, fun U hU hW => ⟨rfl, by rw [hU], by rw [hU]; exact hPc, va_K.moved hW.alike hK, hDc.weaken (fun _ _ _ _ => trivial), by rw [hU]; exact ((hSE.kept hS.2.1).moved hW.alike).narrow hFc⟩⟩ rfl hn hsize hstack (lv_room hW) hdg hf) hS (fun q _ h => hFc q h) hFc (fun u t H1 locs1 ht hvm _hw hB hz1 hk1 hS1 => ?_)
  obtain ⟨hP1, hK1, hD1⟩ := hB
  rw [ht] at hP1
  obtain ⟨hP2, hD2⟩ := z_after hP' hD' hk1 hFc hP1 hD1
  exact kk o' hF' H1 locs1 (zP_perm h2 hP2) (zD_perm h2 hD2) hS1
theorem z_cSi {ρ' : Type} {fM : Option ρ'} {k : ρ' → Option ρ} {cy : Nat → ClassId} {st : Nat → Nat} {y : MethodName} {bytes : ByteArray} {maxL nL n index : Nat} {ret : Option FieldType} {wsC : List Cond} {rm : Room} {Ts : List Cond} {own C : String} {b : Addr} {As st0 : List Value} {wc : va_W} (wcf wf : ρ' → va_W) (rf : ρ' → Int32) (hF : zbd fM k = some o) (hM : ∀ o', fM = some o' → zMi l y wsC rm G cy st As wc (wcf o') (rf o')) (hcut : ∀ o', zCut ws wc (wf o') (wcf o')) (S : CallFix p m c cc nL s args Ts own) (cw : CallB R s args own index y bytes maxL ret wsC rm 0 0 n ∧ (Cond.static y).before args s = true) (hK : va_K G vwCl (zT cy) s) (hSE : z_SE st A s s.heap) (hA : ∀ q, s.heap.size ≤ q → A q) (hP : va_P G vwCl ws H) (hD : va_D A ws) (hS : va_S A s.heap H locs) (hn : As.length = n) (hsize : ls.size = nL) (hstack : st0 = As.reverse ++ rest) (hW : (rest.map fun v => v.category).sum ≤ 8) (hdg : decode cc pc = .ok (.invokestatic index, 3)) (hf : cells ≤ R.cells ∧ slots ≤ R.slots) (kk : ∀ o', k o' = some o → ∀ (H1 : Heap) (locs1 : List Loc), va_P G vwCl (wf o') H1 → va_D A (wf o') → va_S A s.heap H1 locs1 → W p l e R s m args below meth c H1 locs1 cells slots Q (F0 m (pc + 3) ls (.int (rf o') :: rest))) : W p l e R s m args below meth c H locs cells slots Q (F0 m pc ls st0) := by
  obtain ⟨o', hz, hF'⟩ := zbd_some hF
  obtain ⟨wr, h1, h2⟩ := hcut o'
  have hP' := zP_perm h1 hP
  have hD' := zD_perm h1 hD
  have hPc := zP_left hP'
  have hDc := zD_left hD'
  have hFc := z_freeA hDc hS hA
  refine va_calli (va_runS S (hM o' hz H.size) cw ⟨zPc_blind, fun U hU hW => ⟨rfl, by rw [hU], by rw [hU]; exact hPc, va_K.moved hW.alike hK, hDc.weaken (fun _ _ _ _ => trivial), by rw [hU]; exact ((hSE.kept hS.2.1).moved hW.alike).narrow hFc⟩⟩ rfl hn hsize hstack (lv_room hW) hdg hf) hS (fun q _ h => hFc q h) hFc (fun x u t H1 locs1 ht hvm hw hB hz1 hk1 hS1 => ?_)
  try dsimp only at hw
  subst hw
  obtain ⟨hP1, hK1, hD1⟩ := hB
  rw [ht] at hP1
  obtain ⟨hP2, hD2⟩ := z_after hP' hD' hk1 hFc hP1 hD1
  exact kk o' hF' H1 locs1 (zP_perm h2 hP2) (zD_perm h2 hD2) hS1
theorem z_cSl {ρ' : Type} {fM : Option ρ'} {k : ρ' → Option ρ} {cy : Nat → ClassId} {st : Nat → Nat} {y : MethodName} {bytes : ByteArray} {maxL nL n index : Nat} {ret : Option FieldType} {wsC : List Cond} {rm : Room} {Ts : List Cond} {own C : String} {b : Addr} {As st0 : List Value} {wc : va_W} (wcf wf : ρ' → va_W) (rf : ρ' → Int64) (hF : zbd fM k = some o) (hM : ∀ o', fM = some o' → zMl l y wsC rm G cy st As wc (wcf o') (rf o')) (hcut : ∀ o', zCut ws wc (wf o') (wcf o')) (S : CallFix p m c cc nL s args Ts own) (cw : CallB R s args own index y bytes maxL ret wsC rm 0 0 n ∧ (Cond.static y).before args s = true) (hK : va_K G vwCl (zT cy) s) (hSE : z_SE st A s s.heap) (hA : ∀ q, s.heap.size ≤ q → A q) (hP : va_P G vwCl ws H) (hD : va_D A ws) (hS : va_S A s.heap H locs) (hn : As.length = n) (hsize : ls.size = nL) (hstack : st0 = As.reverse ++ rest) (hW : (rest.map fun v => v.category).sum ≤ 8) (hdg : decode cc pc = .ok (.invokestatic index, 3)) (hf : cells ≤ R.cells ∧ slots ≤ R.slots) (kk : ∀ o', k o' = some o → ∀ (H1 : Heap) (locs1 : List Loc), va_P G vwCl (wf o') H1 → va_D A (wf o') → va_S A s.heap H1 locs1 → W p l e R s m args below meth c H1 locs1 cells slots Q (F0 m (pc + 3) ls (.long (rf o') :: rest))) : W p l e R s m args below meth c H locs cells slots Q (F0 m pc ls st0) := by
  obtain ⟨o', hz, hF'⟩ := zbd_some hF
  obtain ⟨wr, h1, h2⟩ := hcut o'
  have hP' := zP_perm h1 hP
  have hD' := zD_perm h1 hD
  have hPc := zP_left hP'
  have hDc := zD_left hD'
  have hFc := z_freeA hDc hS hA
  refine va_calll (va_runS S (hM o' hz H.size) cw ⟨zPc_blind, fun U hU hW => ⟨rfl, by rw [hU], by rw [hU]; exact hPc, va_K.moved hW.alike hK, hDc.weaken (fun _ _ _ _ => trivial), by rw [hU]; exact ((hSE.kept hS.2.1).moved hW.alike).narrow hFc⟩⟩ rfl hn hsize hstack (lv_room hW) hdg hf) hS (fun q _ h => hFc q h) hFc (fun x u t H1 locs1 ht hvm hw hB hz1 hk1 hS1 => ?_)
  try dsimp only at hw
  subst hw
  obtain ⟨hP1, hK1, hD1⟩ := hB
  rw [ht] at hP1
  obtain ⟨hP2, hD2⟩ := z_after hP' hD' hk1 hFc hP1 hD1
  exact kk o' hF' H1 locs1 (zP_perm h2 hP2) (zD_perm h2 hD2) hS1
theorem z_cSv {ρ' : Type} {fM : Option ρ'} {k : ρ' → Option ρ} {cy : Nat → ClassId} {st : Nat → Nat} {y : MethodName} {bytes : ByteArray} {maxL nL n index : Nat} {ret : Option FieldType} {wsC : List Cond} {rm : Room} {Ts : List Cond} {own C : String} {b : Addr} {As st0 : List Value} {wc : va_W} (wcf wf : ρ' → va_W)  (hF : zbd fM k = some o) (hM : ∀ o', fM = some o' → zMv l y wsC rm G cy st As wc (wcf o') ) (hcut : ∀ o', zCut ws wc (wf o') (wcf o')) (S : CallFix p m c cc nL s args Ts own) (cw : CallB R s args own index y bytes maxL ret wsC rm 0 0 n ∧ (Cond.static y).before args s = true) (hK : va_K G vwCl (zT cy) s) (hSE : z_SE st A s s.heap) (hA : ∀ q, s.heap.size ≤ q → A q) (hP : va_P G vwCl ws H) (hD : va_D A ws) (hS : va_S A s.heap H locs) (hn : As.length = n) (hsize : ls.size = nL) (hstack : st0 = As.reverse ++ rest) (hW : (rest.map fun v => v.category).sum ≤ 8) (hdg : decode cc pc = .ok (.invokestatic index, 3)) (hf : cells ≤ R.cells ∧ slots ≤ R.slots) (kk : ∀ o', k o' = some o → ∀ (H1 : Heap) (locs1 : List Loc), va_P G vwCl (wf o') H1 → va_D A (wf o') → va_S A s.heap H1 locs1 → W p l e R s m args below meth c H1 locs1 cells slots Q (F0 m (pc + 3) ls (rest))) : W p l e R s m args below meth c H locs cells slots Q (F0 m pc ls st0) := by
  obtain ⟨o', hz, hF'⟩ := zbd_some hF
  obtain ⟨wr, h1, h2⟩ := hcut o'
  have hP' := zP_perm h1 hP
  have hD' := zD_perm h1 hD
  have hPc := zP_left hP'
  have hDc := zD_left hD'
  have hFc := z_freeA hDc hS hA
  refine va_callv (va_runS S (hM o' hz H.size) cw ⟨zPc_blind, fun U hU hW => ⟨rfl, by rw [hU], by rw [hU]; exact hPc, va_K.moved hW.alike hK, hDc.weaken (fun _ _ _ _ => trivial), by rw [hU]; exact ((hSE.kept hS.2.1).moved hW.alike).narrow hFc⟩⟩ rfl hn hsize hstack (lv_room hW) hdg hf) hS (fun q _ h => hFc q h) hFc (fun u t H1 locs1 ht hvm _hw hB hz1 hk1 hS1 => ?_)
  obtain ⟨hP1, hK1, hD1⟩ := hB
  rw [ht] at hP1
  obtain ⟨hP2, hD2⟩ := z_after hP' hD' hk1 hFc hP1 hD1
  exact kk o' hF' H1 locs1 (zP_perm h2 hP2) (zD_perm h2 hD2) hS1
theorem z_copyi {τ : Type} (wf : τ → va_W) {st1 : τ} {k : τ → Option ρ} (hx : p.tables.exec = Jvm.exec) (hb : c.code = cc) (hml : c.maxLocals = ls.size) {own : String} {index : Nat} (hown : s.vm.findClass own = some m.cls) (hlink : (Cond.methodLink own index arraycopyName).before args s = true) (hnat : (Cond.native arraycopyName).before args s = true) (hstat : (Cond.static arraycopyName).before args s = true) (hini : (Cond.initialized "java/lang/System").before args s = true) (hK : va_K G cl tys s) (hP : va_P G cl ws H) (hD : va_D A ws) (hS : va_S A H0 H locs) (q0 q1 t0 : Nat) {a0 : Nat} {c0 c1 : ClassId} {n0 n1 : Nat} {f g0 : Nat → Int32} (ha0 : ws[q0]? = some (a0, .inl (c0, n0, .inl f))) {sp dp n : Int32} (hf : zFoc ws q1 a (.inl (c1, n1, .inl g0)) (wf st1) (.inl (c1, n1, .inl (va_cpy f g0 (zn sp) (zn dp) (zn n))))) (ht0 : tys[t0]? = some (c0, .int)) (ht1 : tys[t0]? = some (c1, .int)) (h1 : ¬ sp < 0) (h2 : ¬ dp < 0) (h3 : ¬ n < 0) (h4 : zn sp + zn n ≤ n0) (h5 : zn dp + zn n ≤ n1) (hF : zlet st1 k = some o) (hframes : 1 ≤ R.frames) (hlocals : (rest.map fun v => v.category).sum + (nativeFrameWords "java/lang/System" "arraycopy" 5 + 11) ≤ R.locals) (hdg : decode cc pc = .ok (.invokestatic index, 3)) (kk : ∀ y : τ, k y = some o → ∀ (H1 : Heap) (locs1 : List Loc), va_P G cl (wf y) H1 → va_D A (wf y) → va_S A H0 H1 locs1 → W p l e R s m args below meth c H1 locs1 cells slots Q (F0 m (pc + 3) ls rest)) : W p l e R s m args below meth c H locs cells slots Q (F0 m pc ls (.int n :: .int dp :: .ref a :: .int sp :: .ref a0 :: rest)) := va_copyi hx hb hml hown hlink hnat hstat hini hK hP hD hS q0 q1 t0 t0 ha0 hf.1 ht0 ht1 rfl h1 h2 h3 h4 h5 (fun _ _ => rfl) hframes hlocals hdg (fun H1 locs1 e1 e2 e3 => kk st1 hF H1 locs1 (hf.2 ▸ e1) (hf.2 ▸ e2) e3)
end ZR
abbrev zushr (x y : Int32) : Int32 := (x.toUInt32 >>> (y.toUInt32 &&& Int32.toUInt32 31)).toInt32
abbrev zi2b (x : Int32) : Int32 := x.toInt8.toInt32
abbrev zi2c (x : Int32) : Int32 := (x.toUInt32 % 65536).toInt32
abbrev zmax (x y : Int32) : Int32 := if x < y then y else x
abbrev zmin (x y : Int32) : Int32 := if y < x then y else x
abbrev zabs (x : Int32) : Int32 := if 0 ≤ x then x else 0 - x
end
section
/-! ===== the cells of each block: what lies in them, how one changes, how a part is cut out ===== -/
theorem va_up_id {α : Type} (f : Nat → α) (k : Nat) : va_up f k (f k) = f := by funext j; unfold va_up; split <;> simp_all
def zSt (g : Nat → Int32) : List Value := [.int (g 0), .int (g 1), .int (g 2), .int (g 3), .int (g 4), .int (g 5), .int (g 6), .int (g 7), .int (g 8), .int (g 9), .int (g 10), .int (g 11), .int (g 12), .int (g 13), .int (g 14)]
def wSt (cy : Nat → ClassId) (a : Nat) (g : Nat → Int32) : va_W := [(a, .inr (4, zSt g))]
theorem wSt_at0 (cy : Nat → ClassId) (a : Nat) (g : Nat → Int32) : (wSt cy a g)[0]? = some (a, .inr (4, zSt g)) := rfl
theorem zSt_set (g : Nat → Int32) (x : Int32) : ∀ k : Nat, k < 15 → (zSt g).set k (.int x) = zSt (upd g k x)
  | 0, _ => rfl
  | 1, _ => rfl
  | 2, _ => rfl
  | 3, _ => rfl
  | 4, _ => rfl
  | 5, _ => rfl
  | 6, _ => rfl
  | 7, _ => rfl
  | 8, _ => rfl
  | 9, _ => rfl
  | 10, _ => rfl
  | 11, _ => rfl
  | 12, _ => rfl
  | 13, _ => rfl
  | 14, _ => rfl
  | k + 15, h => absurd h (by omega)
theorem wSt_foc (cy : Nat → ClassId) (a : Nat) (g : Nat → Int32) (k : Nat) (hk : k < 15) (x : Int32) : zFoc (wSt cy a g) 0 a (.inr (4, zSt g)) (wSt cy a (upd g k x)) (.inr (4, (zSt g).set k (.int x))) := ⟨rfl, by rw [zSt_set g x k hk]; rfl⟩
def wAr (cy : Nat → ClassId) (a : Nat) (t : Nat → Int32) : va_W := [(a, .inl (cy 1, 7, .inl t))]
theorem wAr_at0 (cy : Nat → ClassId) (a : Nat) (t : Nat → Int32) : (wAr cy a t)[0]? = some (a, .inl (cy 1, 7, .inl t)) := rfl
def zLg (a : Nat → Nat) (lo lb : Int32) : List Value := [.ref (a 1), .ref (a 2), .ref (a 3), .int lo, .int lb]
def wLg (cy : Nat → ClassId) (a : Nat → Nat) (lt lg lw : Nat → Int32) (lo lb : Int32) : va_W := [(a 0, .inr (5, zLg a lo lb)), (a 1, .inl (cy 1, 20, .inl lt)), (a 2, .inl (cy 1, 20, .inl lg)), (a 3, .inl (cy 1, 20, .inl lw))]
theorem wLg_at0 (cy : Nat → ClassId) (a : Nat → Nat) (lt lg lw : Nat → Int32) (lo lb : Int32) : (wLg cy a lt lg lw lo lb)[0]? = some (a 0, .inr (5, zLg a lo lb)) := rfl
theorem wLg_at1 (cy : Nat → ClassId) (a : Nat → Nat) (lt lg lw : Nat → Int32) (lo lb : Int32) : (wLg cy a lt lg lw lo lb)[1]? = some (a 1, .inl (cy 1, 20, .inl lt)) := rfl
theorem wLg_foc1 (cy : Nat → ClassId) (a : Nat → Nat) (lt lg lw : Nat → Int32) (lo lb : Int32) (f : Nat → Int32) : zFoc (wLg cy a lt lg lw lo lb) 1 (a 1) (.inl (cy 1, 20, .inl lt)) (wLg cy a f lg lw lo lb) (.inl (cy 1, 20, .inl f)) := ⟨rfl, rfl⟩
theorem wLg_at2 (cy : Nat → ClassId) (a : Nat → Nat) (lt lg lw : Nat → Int32) (lo lb : Int32) : (wLg cy a lt lg lw lo lb)[2]? = some (a 2, .inl (cy 1, 20, .inl lg)) := rfl
theorem wLg_foc2 (cy : Nat → ClassId) (a : Nat → Nat) (lt lg lw : Nat → Int32) (lo lb : Int32) (f : Nat → Int32) : zFoc (wLg cy a lt lg lw lo lb) 2 (a 2) (.inl (cy 1, 20, .inl lg)) (wLg cy a lt f lw lo lb) (.inl (cy 1, 20, .inl f)) := ⟨rfl, rfl⟩
theorem wLg_at3 (cy : Nat → ClassId) (a : Nat → Nat) (lt lg lw : Nat → Int32) (lo lb : Int32) : (wLg cy a lt lg lw lo lb)[3]? = some (a 3, .inl (cy 1, 20, .inl lw)) := rfl
theorem wLg_foc3 (cy : Nat → ClassId) (a : Nat → Nat) (lt lg lw : Nat → Int32) (lo lb : Int32) (f : Nat → Int32) : zFoc (wLg cy a lt lg lw lo lb) 3 (a 3) (.inl (cy 1, 20, .inl lw)) (wLg cy a lt lg f lo lb) (.inl (cy 1, 20, .inl f)) := ⟨rfl, rfl⟩
theorem wLg_foc0_3 (cy : Nat → ClassId) (a : Nat → Nat) (lt lg lw : Nat → Int32) (lo lb : Int32) (x : Int32) : zFoc (wLg cy a lt lg lw lo lb) 0 (a 0) (.inr (5, zLg a lo lb)) (wLg cy a lt lg lw x lb) (.inr (5, (zLg a lo lb).set 3 (.int x))) := ⟨rfl, rfl⟩
theorem wLg_foc0_4 (cy : Nat → ClassId) (a : Nat → Nat) (lt lg lw : Nat → Int32) (lo lb : Int32) (x : Int32) : zFoc (wLg cy a lt lg lw lo lb) 0 (a 0) (.inr (5, zLg a lo lb)) (wLg cy a lt lg lw lo x) (.inr (5, (zLg a lo lb).set 4 (.int x))) := ⟨rfl, rfl⟩
def zLn (a : Nat → Nat) (v : R2) : List Value := [.ref (a 1), .ref (a 6), .ref (a 7), .int (v 9 0), .int (v 9 1), .int (v 9 2)]
def zLnL (a : Nat → Nat) (v : R2) : List Value := [.ref (a 8), .ref (a 9), .ref (a 10), .int (v 8 0), .int (v 8 1)]
def wLn (cy : Nat → ClassId) (a : Nat → Nat) (v : R2) : va_W := [(a 0, .inr (1, zLn a v)), (a 1, .inl (cy 5, 4, .inr (.inr (.inr (.inr (fun j => some (a (2 + j)))))))), (a 2, .inr (4, zSt (v 0))), (a 3, .inr (4, zSt (v 1))), (a 4, .inr (4, zSt (v 2))), (a 5, .inr (4, zSt (v 3))), (a 6, .inl (cy 3, 4, .inl (v 4))), (a 7, .inr (5, zLnL a v)), (a 8, .inl (cy 1, 20, .inl (v 5))), (a 9, .inl (cy 1, 20, .inl (v 6))), (a 10, .inl (cy 1, 20, .inl (v 7)))]
theorem wLn_at0 (cy : Nat → ClassId) (a : Nat → Nat) (v : R2) : (wLn cy a v)[0]? = some (a 0, .inr (1, zLn a v)) := rfl
theorem wLn_at1 (cy : Nat → ClassId) (a : Nat → Nat) (v : R2) : (wLn cy a v)[1]? = some (a 1, .inl (cy 5, 4, .inr (.inr (.inr (.inr (fun j => some (a (2 + j)))))))) := rfl
theorem wLn_at6 (cy : Nat → ClassId) (a : Nat → Nat) (v : R2) : (wLn cy a v)[6]? = some (a 6, .inl (cy 3, 4, .inl (v 4))) := rfl
theorem wLn_at7 (cy : Nat → ClassId) (a : Nat → Nat) (v : R2) : (wLn cy a v)[7]? = some (a 7, .inr (5, zLnL a v)) := rfl
theorem wLn_at8 (cy : Nat → ClassId) (a : Nat → Nat) (v : R2) : (wLn cy a v)[8]? = some (a 8, .inl (cy 1, 20, .inl (v 5))) := rfl
theorem wLn_at9 (cy : Nat → ClassId) (a : Nat → Nat) (v : R2) : (wLn cy a v)[9]? = some (a 9, .inl (cy 1, 20, .inl (v 6))) := rfl
theorem wLn_at10 (cy : Nat → ClassId) (a : Nat → Nat) (v : R2) : (wLn cy a v)[10]? = some (a 10, .inl (cy 1, 20, .inl (v 7))) := rfl
theorem wLn_atS (cy : Nat → ClassId) (a : Nat → Nat) (v : R2) : ∀ {i : Nat}, i < 4 → (wLn cy a v)[2 + i]? = some (a (2 + i), .inr (4, zSt (v i)))
  | 0, _ => rfl
  | 1, _ => rfl
  | 2, _ => rfl
  | 3, _ => rfl
  | i + 4, h => absurd h (by omega)
theorem wLn_row (cy : Nat → ClassId) (a : Nat → Nat) (v : R2) : ∀ (i : Nat) (g : Nat → Int32), i < 4 → (wLn cy a v).set (2 + i) (a (2 + i), .inr (4, zSt g)) = wLn cy a (va_up v i g)
  | 0, _, _ => rfl
  | 1, _, _ => rfl
  | 2, _, _ => rfl
  | 3, _, _ => rfl
  | i + 4, _, h => absurd h (by omega)
theorem wLn_focS (cy : Nat → ClassId) (a : Nat → Nat) (v : R2) {i : Nat} (hi : i < 4) (k : Nat) (hk : k < 15) (x : Int32) : zFoc (wLn cy a v) (2 + i) (a (2 + i)) (.inr (4, zSt (v i))) (wLn cy a (z2 v i k x)) (.inr (4, (zSt (v i)).set k (.int x))) := ⟨wLn_atS cy a v hi, by rw [zSt_set (v i) x k hk, wLn_row cy a v i _ hi]; rfl⟩
theorem wLn_foc0_3 (cy : Nat → ClassId) (a : Nat → Nat) (v : R2) (x : Int32) : zFoc (wLn cy a v) 0 (a 0) (.inr (1, zLn a v)) (wLn cy a (z2 v 9 0 x)) (.inr (1, (zLn a v).set 3 (.int x))) := ⟨rfl, rfl⟩
theorem wLn_foc0_4 (cy : Nat → ClassId) (a : Nat → Nat) (v : R2) (x : Int32) : zFoc (wLn cy a v) 0 (a 0) (.inr (1, zLn a v)) (wLn cy a (z2 v 9 1 x)) (.inr (1, (zLn a v).set 4 (.int x))) := ⟨rfl, rfl⟩
theorem wLn_foc0_5 (cy : Nat → ClassId) (a : Nat → Nat) (v : R2) (x : Int32) : zFoc (wLn cy a v) 0 (a 0) (.inr (1, zLn a v)) (wLn cy a (z2 v 9 2 x)) (.inr (1, (zLn a v).set 5 (.int x))) := ⟨rfl, rfl⟩
theorem wLn_foc7_3 (cy : Nat → ClassId) (a : Nat → Nat) (v : R2) (x : Int32) : zFoc (wLn cy a v) 7 (a 7) (.inr (5, zLnL a v)) (wLn cy a (z2 v 8 0 x)) (.inr (5, (zLnL a v).set 3 (.int x))) := ⟨rfl, rfl⟩
theorem wLn_foc7_4 (cy : Nat → ClassId) (a : Nat → Nat) (v : R2) (x : Int32) : zFoc (wLn cy a v) 7 (a 7) (.inr (5, zLnL a v)) (wLn cy a (z2 v 8 1 x)) (.inr (5, (zLnL a v).set 4 (.int x))) := ⟨rfl, rfl⟩
theorem wLn_foc6 (cy : Nat → ClassId) (a : Nat → Nat) (v : R2) (f : Nat → Int32) : zFoc (wLn cy a v) 6 (a 6) (.inl (cy 3, 4, .inl (v 4))) (wLn cy a (va_up v 4 f)) (.inl (cy 3, 4, .inl f)) := ⟨rfl, rfl⟩
theorem wLn_cutS (cy : Nat → ClassId) (a : Nat → Nat) (v : R2) {i : Nat} (hi : i < 4) (g : Nat → Int32) : zCut (wLn cy a v) (wSt cy (a (2 + i)) (v i)) (wLn cy a (va_up v i g)) (wSt cy (a (2 + i)) g) := by
  match i, hi with
  | 0, _ => exact ⟨(wLn cy a v).take 2 ++ (wLn cy a v).drop 3, (List.perm_middle (l₁ := [_, _])), (List.perm_middle (l₁ := [_, _])).symm⟩
  | 1, _ => exact ⟨(wLn cy a v).take 3 ++ (wLn cy a v).drop 4, (List.perm_middle (l₁ := [_, _, _])), (List.perm_middle (l₁ := [_, _, _])).symm⟩
  | 2, _ => exact ⟨(wLn cy a v).take 4 ++ (wLn cy a v).drop 5, (List.perm_middle (l₁ := [_, _, _, _])), (List.perm_middle (l₁ := [_, _, _, _])).symm⟩
  | 3, _ => exact ⟨(wLn cy a v).take 5 ++ (wLn cy a v).drop 6, (List.perm_middle (l₁ := [_, _, _, _, _])), (List.perm_middle (l₁ := [_, _, _, _, _])).symm⟩
  | i + 4, h => exact absurd h (by omega)
theorem wLn_cutS0 (cy : Nat → ClassId) (a : Nat → Nat) (v : R2) {i : Nat} (hi : i < 4) : zCut (wLn cy a v) (wSt cy (a (2 + i)) (v i)) (wLn cy a v) (wSt cy (a (2 + i)) (v i)) := zCut_e (wLn_cutS cy a v hi (v i)) (by rw [va_up_id])
def zpLg (v : R2) (lt lg lw : Nat → Int32) (lo lb : Int32) : R2 := va_up (va_up (va_up (va_up v 5 lt) 6 lg) 7 lw) 8 (upd (upd (v 8) 0 lo) 1 lb)
theorem wLn_cutL (cy : Nat → ClassId) (a : Nat → Nat) (v : R2) (lt lg lw : Nat → Int32) (lo lb : Int32) : zCut (wLn cy a v) (wLg cy (fun k => a (7 + k)) (v 5) (v 6) (v 7) (v 8 0) (v 8 1)) (wLn cy a (zpLg v lt lg lw lo lb)) (wLg cy (fun k => a (7 + k)) lt lg lw lo lb) := ⟨(wLn cy a v).take 7, List.perm_append_comm (l₁ := (wLn cy a v).take 7) (l₂ := wLg cy (fun k => a (7 + k)) (v 5) (v 6) (v 7) (v 8 0) (v 8 1)), List.perm_append_comm (l₁ := wLg cy (fun k => a (7 + k)) lt lg lw lo lb) (l₂ := (wLn cy a v).take 7)⟩
theorem wLn_cutL0 (cy : Nat → ClassId) (a : Nat → Nat) (v : R2) : zCut (wLn cy a v) (wLg cy (fun k => a (7 + k)) (v 5) (v 6) (v 7) (v 8 0) (v 8 1)) (wLn cy a v) (wLg cy (fun k => a (7 + k)) (v 5) (v 6) (v 7) (v 8 0) (v 8 1)) := ⟨(wLn cy a v).take 7, List.perm_append_comm (l₁ := (wLn cy a v).take 7) (l₂ := wLg cy (fun k => a (7 + k)) (v 5) (v 6) (v 7) (v 8 0) (v 8 1)), List.perm_append_comm (l₁ := wLg cy (fun k => a (7 + k)) (v 5) (v 6) (v 7) (v 8 0) (v 8 1)) (l₂ := (wLn cy a v).take 7)⟩
def zTx (a : Nat → Nat) (tn : Int32) (tq : Int32) : List Value := [.ref (a 1), .ref (a 2), .int tn, .int tq]
def wTx (cy : Nat → ClassId) (a : Nat → Nat) (tl : Nat → Int32) (td : Nat → Int32) (tn : Int32) (tq : Int32) : va_W := [(a 0, .inr (6, zTx a tn tq)), (a 1, .inl (cy 1, 200, .inl tl)), (a 2, .inl (cy 1, 7, .inl td))]
theorem wTx_at0 (cy : Nat → ClassId) (a : Nat → Nat) (tl : Nat → Int32) (td : Nat → Int32) (tn : Int32) (tq : Int32) : (wTx cy a tl td tn tq)[0]? = some (a 0, .inr (6, zTx a tn tq)) := rfl
theorem wTx_foc0_2 (cy : Nat → ClassId) (a : Nat → Nat) (tl : Nat → Int32) (td : Nat → Int32) (tn : Int32) (tq : Int32) (x : Int32) : zFoc (wTx cy a tl td tn tq) 0 (a 0) (.inr (6, zTx a tn tq)) (wTx cy a tl td x tq) (.inr (6, (zTx a tn tq).set 2 (.int x))) := ⟨rfl, rfl⟩
theorem wTx_foc0_3 (cy : Nat → ClassId) (a : Nat → Nat) (tl : Nat → Int32) (td : Nat → Int32) (tn : Int32) (tq : Int32) (x : Int32) : zFoc (wTx cy a tl td tn tq) 0 (a 0) (.inr (6, zTx a tn tq)) (wTx cy a tl td tn x) (.inr (6, (zTx a tn tq).set 3 (.int x))) := ⟨rfl, rfl⟩
theorem wTx_at1 (cy : Nat → ClassId) (a : Nat → Nat) (tl : Nat → Int32) (td : Nat → Int32) (tn : Int32) (tq : Int32) : (wTx cy a tl td tn tq)[1]? = some (a 1, .inl (cy 1, 200, .inl tl)) := rfl
theorem wTx_foc1 (cy : Nat → ClassId) (a : Nat → Nat) (tl : Nat → Int32) (td : Nat → Int32) (tn : Int32) (tq : Int32) (f : Nat → Int32) : zFoc (wTx cy a tl td tn tq) 1 (a 1) (.inl (cy 1, 200, .inl tl)) (wTx cy a f td tn tq) (.inl (cy 1, 200, .inl f)) := ⟨rfl, rfl⟩
theorem wTx_at2 (cy : Nat → ClassId) (a : Nat → Nat) (tl : Nat → Int32) (td : Nat → Int32) (tn : Int32) (tq : Int32) : (wTx cy a tl td tn tq)[2]? = some (a 2, .inl (cy 1, 7, .inl td)) := rfl
theorem wTx_foc2 (cy : Nat → ClassId) (a : Nat → Nat) (tl : Nat → Int32) (td : Nat → Int32) (tn : Int32) (tq : Int32) (f : Nat → Int32) : zFoc (wTx cy a tl td tn tq) 2 (a 2) (.inl (cy 1, 7, .inl td)) (wTx cy a tl f tn tq) (.inl (cy 1, 7, .inl f)) := ⟨rfl, rfl⟩
theorem wTx_cutA (cy : Nat → ClassId) (a : Nat → Nat) (tl td : Nat → Int32) (tn tq : Int32) (t : Nat → Int32) : zCut (wTx cy a tl td tn tq) (wAr cy (a 2) td) (wTx cy a tl t tn tq) (wAr cy (a 2) t) := ⟨(wTx cy a tl td tn tq).take 2, List.perm_append_comm (l₁ := (wTx cy a tl td tn tq).take 2) (l₂ := wAr cy (a 2) td), List.perm_append_comm (l₁ := wAr cy (a 2) t) (l₂ := (wTx cy a tl td tn tq).take 2)⟩
def zPo (a : Nat → Nat) (la : Nat → Nat → Nat) (pn : Int32) (pz : Int32) : List Value := [.ref (a 1), .int pn, .int pz]
def wPo (cy : Nat → ClassId) (a : Nat → Nat) (la : Nat → Nat → Nat) (pn : Int32) (pz : Int32) : va_W := [(a 0, .inr (2, zPo a la pn pz)), (a 1, .inl (cy 4, 6, .inr (.inr (.inr (.inr (fun j => some (la j 0)))))))]
theorem wPo_at0 (cy : Nat → ClassId) (a : Nat → Nat) (la : Nat → Nat → Nat) (pn : Int32) (pz : Int32) : (wPo cy a la pn pz)[0]? = some (a 0, .inr (2, zPo a la pn pz)) := rfl
theorem wPo_foc0_1 (cy : Nat → ClassId) (a : Nat → Nat) (la : Nat → Nat → Nat) (pn : Int32) (pz : Int32) (x : Int32) : zFoc (wPo cy a la pn pz) 0 (a 0) (.inr (2, zPo a la pn pz)) (wPo cy a la x pz) (.inr (2, (zPo a la pn pz).set 1 (.int x))) := ⟨rfl, rfl⟩
theorem wPo_foc0_2 (cy : Nat → ClassId) (a : Nat → Nat) (la : Nat → Nat → Nat) (pn : Int32) (pz : Int32) (x : Int32) : zFoc (wPo cy a la pn pz) 0 (a 0) (.inr (2, zPo a la pn pz)) (wPo cy a la pn x) (.inr (2, (zPo a la pn pz).set 2 (.int x))) := ⟨rfl, rfl⟩
theorem wPo_at1 (cy : Nat → ClassId) (a : Nat → Nat) (la : Nat → Nat → Nat) (pn : Int32) (pz : Int32) : (wPo cy a la pn pz)[1]? = some (a 1, .inl (cy 4, 6, .inr (.inr (.inr (.inr (fun j => some (la j 0))))))) := rfl
def wLs (cy : Nat → ClassId) (la : Nat → Nat → Nat) (pl : Nat → R2) : va_W := wLn cy (la 0) (pl 0) ++ (wLn cy (la 1) (pl 1) ++ (wLn cy (la 2) (pl 2) ++ (wLn cy (la 3) (pl 3) ++ (wLn cy (la 4) (pl 4) ++ wLn cy (la 5) (pl 5)))))
theorem wLs_cut (cy : Nat → ClassId) (la : Nat → Nat → Nat) (pl : Nat → R2) {j : Nat} (hj : j < 6) (v : R2) : zCut (wLs cy la pl) (wLn cy (la j) (pl j)) (wLs cy la (va_up pl j v)) (wLn cy (la j) v) := by
  match j, hj with
  | 0, _ => exact zCut_l zCut_all
  | 1, _ => exact zCut_r (zCut_l zCut_all)
  | 2, _ => exact zCut_r (zCut_r (zCut_l zCut_all))
  | 3, _ => exact zCut_r (zCut_r (zCut_r (zCut_l zCut_all)))
  | 4, _ => exact zCut_r (zCut_r (zCut_r (zCut_r (zCut_l zCut_all))))
  | 5, _ => exact zCut_r (zCut_r (zCut_r (zCut_r (zCut_r zCut_all))))
  | j + 6, h => exact absurd h (by omega)
theorem wLs_cut0 (cy : Nat → ClassId) (la : Nat → Nat → Nat) (pl : Nat → R2) {j : Nat} (hj : j < 6) : zCut (wLs cy la pl) (wLn cy (la j) (pl j)) (wLs cy la pl) (wLn cy (la j) (pl j)) := zCut_e (wLs_cut cy la pl hj (pl j)) (by rw [va_up_id])
def zCo (a : Nat → Nat) (tr : Nat) (c0 : Int32) (c1 : Int32) (c2 : Int32) (c3 : Int32) : List Value := [.ref (tr), .ref (a 1), .ref (a 2), .int c0, .int c1, .int c2, .int c3]
def wCo (cy : Nat → ClassId) (a : Nat → Nat) (tr : Nat) (sn : Nat → Int64) (sb : Nat → Int32) (c0 : Int32) (c1 : Int32) (c2 : Int32) (c3 : Int32) : va_W := [(a 0, .inr (0, zCo a tr c0 c1 c2 c3)), (a 1, .inl (cy 2, 301, .inr (.inl sn))), (a 2, .inl (cy 1, 301, .inl sb))]
theorem wCo_at0 (cy : Nat → ClassId) (a : Nat → Nat) (tr : Nat) (sn : Nat → Int64) (sb : Nat → Int32) (c0 : Int32) (c1 : Int32) (c2 : Int32) (c3 : Int32) : (wCo cy a tr sn sb c0 c1 c2 c3)[0]? = some (a 0, .inr (0, zCo a tr c0 c1 c2 c3)) := rfl
theorem wCo_foc0_3 (cy : Nat → ClassId) (a : Nat → Nat) (tr : Nat) (sn : Nat → Int64) (sb : Nat → Int32) (c0 : Int32) (c1 : Int32) (c2 : Int32) (c3 : Int32) (x : Int32) : zFoc (wCo cy a tr sn sb c0 c1 c2 c3) 0 (a 0) (.inr (0, zCo a tr c0 c1 c2 c3)) (wCo cy a tr sn sb x c1 c2 c3) (.inr (0, (zCo a tr c0 c1 c2 c3).set 3 (.int x))) := ⟨rfl, rfl⟩
theorem wCo_foc0_4 (cy : Nat → ClassId) (a : Nat → Nat) (tr : Nat) (sn : Nat → Int64) (sb : Nat → Int32) (c0 : Int32) (c1 : Int32) (c2 : Int32) (c3 : Int32) (x : Int32) : zFoc (wCo cy a tr sn sb c0 c1 c2 c3) 0 (a 0) (.inr (0, zCo a tr c0 c1 c2 c3)) (wCo cy a tr sn sb c0 x c2 c3) (.inr (0, (zCo a tr c0 c1 c2 c3).set 4 (.int x))) := ⟨rfl, rfl⟩
theorem wCo_foc0_5 (cy : Nat → ClassId) (a : Nat → Nat) (tr : Nat) (sn : Nat → Int64) (sb : Nat → Int32) (c0 : Int32) (c1 : Int32) (c2 : Int32) (c3 : Int32) (x : Int32) : zFoc (wCo cy a tr sn sb c0 c1 c2 c3) 0 (a 0) (.inr (0, zCo a tr c0 c1 c2 c3)) (wCo cy a tr sn sb c0 c1 x c3) (.inr (0, (zCo a tr c0 c1 c2 c3).set 5 (.int x))) := ⟨rfl, rfl⟩
theorem wCo_foc0_6 (cy : Nat → ClassId) (a : Nat → Nat) (tr : Nat) (sn : Nat → Int64) (sb : Nat → Int32) (c0 : Int32) (c1 : Int32) (c2 : Int32) (c3 : Int32) (x : Int32) : zFoc (wCo cy a tr sn sb c0 c1 c2 c3) 0 (a 0) (.inr (0, zCo a tr c0 c1 c2 c3)) (wCo cy a tr sn sb c0 c1 c2 x) (.inr (0, (zCo a tr c0 c1 c2 c3).set 6 (.int x))) := ⟨rfl, rfl⟩
theorem wCo_at1 (cy : Nat → ClassId) (a : Nat → Nat) (tr : Nat) (sn : Nat → Int64) (sb : Nat → Int32) (c0 : Int32) (c1 : Int32) (c2 : Int32) (c3 : Int32) : (wCo cy a tr sn sb c0 c1 c2 c3)[1]? = some (a 1, .inl (cy 2, 301, .inr (.inl sn))) := rfl
theorem wCo_foc1 (cy : Nat → ClassId) (a : Nat → Nat) (tr : Nat) (sn : Nat → Int64) (sb : Nat → Int32) (c0 : Int32) (c1 : Int32) (c2 : Int32) (c3 : Int32) (f : Nat → Int64) : zFoc (wCo cy a tr sn sb c0 c1 c2 c3) 1 (a 1) (.inl (cy 2, 301, .inr (.inl sn))) (wCo cy a tr f sb c0 c1 c2 c3) (.inl (cy 2, 301, .inr (.inl f))) := ⟨rfl, rfl⟩
theorem wCo_at2 (cy : Nat → ClassId) (a : Nat → Nat) (tr : Nat) (sn : Nat → Int64) (sb : Nat → Int32) (c0 : Int32) (c1 : Int32) (c2 : Int32) (c3 : Int32) : (wCo cy a tr sn sb c0 c1 c2 c3)[2]? = some (a 2, .inl (cy 1, 301, .inl sb)) := rfl
theorem wCo_foc2 (cy : Nat → ClassId) (a : Nat → Nat) (tr : Nat) (sn : Nat → Int64) (sb : Nat → Int32) (c0 : Int32) (c1 : Int32) (c2 : Int32) (c3 : Int32) (f : Nat → Int32) : zFoc (wCo cy a tr sn sb c0 c1 c2 c3) 2 (a 2) (.inl (cy 1, 301, .inl sb)) (wCo cy a tr sn f c0 c1 c2 c3) (.inl (cy 1, 301, .inl f)) := ⟨rfl, rfl⟩
def zSe (a : Nat → Nat) (sk : Int32) : List Value := [.ref (a 1), .ref (a 2), .int sk]
def wSe (cy : Nat → ClassId) (a : Nat → Nat) (sp : Nat → Int32) (sq : Nat → Int32) (sk : Int32) : va_W := [(a 0, .inr (3, zSe a sk)), (a 1, .inl (cy 1, 4, .inl sp)), (a 2, .inl (cy 1, 4, .inl sq))]
theorem wSe_at0 (cy : Nat → ClassId) (a : Nat → Nat) (sp : Nat → Int32) (sq : Nat → Int32) (sk : Int32) : (wSe cy a sp sq sk)[0]? = some (a 0, .inr (3, zSe a sk)) := rfl
theorem wSe_foc0_2 (cy : Nat → ClassId) (a : Nat → Nat) (sp : Nat → Int32) (sq : Nat → Int32) (sk : Int32) (x : Int32) : zFoc (wSe cy a sp sq sk) 0 (a 0) (.inr (3, zSe a sk)) (wSe cy a sp sq x) (.inr (3, (zSe a sk).set 2 (.int x))) := ⟨rfl, rfl⟩
theorem wSe_at1 (cy : Nat → ClassId) (a : Nat → Nat) (sp : Nat → Int32) (sq : Nat → Int32) (sk : Int32) : (wSe cy a sp sq sk)[1]? = some (a 1, .inl (cy 1, 4, .inl sp)) := rfl
theorem wSe_foc1 (cy : Nat → ClassId) (a : Nat → Nat) (sp : Nat → Int32) (sq : Nat → Int32) (sk : Int32) (f : Nat → Int32) : zFoc (wSe cy a sp sq sk) 1 (a 1) (.inl (cy 1, 4, .inl sp)) (wSe cy a f sq sk) (.inl (cy 1, 4, .inl f)) := ⟨rfl, rfl⟩
theorem wSe_at2 (cy : Nat → ClassId) (a : Nat → Nat) (sp : Nat → Int32) (sq : Nat → Int32) (sk : Int32) : (wSe cy a sp sq sk)[2]? = some (a 2, .inl (cy 1, 4, .inl sq)) := rfl
theorem wSe_foc2 (cy : Nat → ClassId) (a : Nat → Nat) (sp : Nat → Int32) (sq : Nat → Int32) (sk : Int32) (f : Nat → Int32) : zFoc (wSe cy a sp sq sk) 2 (a 2) (.inl (cy 1, 4, .inl sq)) (wSe cy a sp f sk) (.inl (cy 1, 4, .inl f)) := ⟨rfl, rfl⟩
def zTo (x0 : Nat) (x1 : Nat) (x2 : Nat) (x3 : Nat) (x4 : Nat) (x5 : Nat) (x6 : Nat)  : List Value := [.ref (x1), .ref (x2), .ref (x3), .ref (x4), .ref (x5), .ref (x6)]
def wTo (cy : Nat → ClassId) (x0 : Nat) (x1 : Nat) (x2 : Nat) (x3 : Nat) (x4 : Nat) (x5 : Nat) (x6 : Nat) : va_W := [(x0, .inr (7, zTo x0 x1 x2 x3 x4 x5 x6 ))]
theorem wTo_at0 (cy : Nat → ClassId) (x0 : Nat) (x1 : Nat) (x2 : Nat) (x3 : Nat) (x4 : Nat) (x5 : Nat) (x6 : Nat) : (wTo cy x0 x1 x2 x3 x4 x5 x6)[0]? = some (x0, .inr (7, zTo x0 x1 x2 x3 x4 x5 x6 )) := rfl
def zMo (a : Nat → Nat) (m0 : Int32) (m1 : Int32) (m2 : Int32) (m3 : Int32) (m4 : Int32) (m5 : Int32) (m6 : Int32) (m7 : Int32) (m8 : Int32) (m9 : Int32) : List Value := [.int m0, .ref (a 1), .int m1, .ref (a 2), .ref (a 3), .ref (a 4), .int m2, .int m3, .int m4, .ref (a 5), .ref (a 6), .ref (a 7), .ref (a 8), .ref (a 9), .ref (a 10), .ref (a 11), .ref (a 12), .ref (a 13), .int m5, .int m6, .int m7, .int m8, .ref (a 14), .int m9]
def wMo (cy : Nat → ClassId) (a : Nat → Nat) (m0 : Int32) (m1 : Int32) (m2 : Int32) (m3 : Int32) (m4 : Int32) (m5 : Int32) (m6 : Int32) (m7 : Int32) (m8 : Int32) (m9 : Int32) (mb : Nat → Int32) (ms : Nat → Int32) (md : Nat → Int32) (mp : Nat → Int32) (mf : Nat → Int32) (mi : Nat → Int32) (mo : Nat → Int32) (mw : Nat → Int32) (mn : Nat → Int32) (mk : Nat → Int32) (mt : Nat → Int64) (mq : Nat → Int32) (mz : Nat → Int32) (me : Nat → Int32) : va_W := [(a 0, .inr (8, zMo a m0 m1 m2 m3 m4 m5 m6 m7 m8 m9)), (a 1, .inl (cy 0, 200, .inl mb)), (a 2, .inl (cy 1, 114, .inl ms)), (a 3, .inl (cy 1, 114, .inl md)), (a 4, .inl (cy 1, 684, .inl mp)), (a 5, .inl (cy 1, 4, .inl mf)), (a 6, .inl (cy 1, 4, .inl mi)), (a 7, .inl (cy 1, 4, .inl mo)), (a 8, .inl (cy 1, 4, .inl mw)), (a 9, .inl (cy 3, 4, .inl mn)), (a 10, .inl (cy 3, 4, .inl mk)), (a 11, .inl (cy 2, 301, .inr (.inl mt))), (a 12, .inl (cy 1, 301, .inl mq)), (a 13, .inl (cy 1, 114, .inl mz)), (a 14, .inl (cy 1, 4, .inl me))]
theorem wMo_at0 (cy : Nat → ClassId) (a : Nat → Nat) (m0 : Int32) (m1 : Int32) (m2 : Int32) (m3 : Int32) (m4 : Int32) (m5 : Int32) (m6 : Int32) (m7 : Int32) (m8 : Int32) (m9 : Int32) (mb : Nat → Int32) (ms : Nat → Int32) (md : Nat → Int32) (mp : Nat → Int32) (mf : Nat → Int32) (mi : Nat → Int32) (mo : Nat → Int32) (mw : Nat → Int32) (mn : Nat → Int32) (mk : Nat → Int32) (mt : Nat → Int64) (mq : Nat → Int32) (mz : Nat → Int32) (me : Nat → Int32) : (wMo cy a m0 m1 m2 m3 m4 m5 m6 m7 m8 m9 mb ms md mp mf mi mo mw mn mk mt mq mz me)[0]? = some (a 0, .inr (8, zMo a m0 m1 m2 m3 m4 m5 m6 m7 m8 m9)) := rfl
theorem wMo_foc0_0 (cy : Nat → ClassId) (a : Nat → Nat) (m0 : Int32) (m1 : Int32) (m2 : Int32) (m3 : Int32) (m4 : Int32) (m5 : Int32) (m6 : Int32) (m7 : Int32) (m8 : Int32) (m9 : Int32) (mb : Nat → Int32) (ms : Nat → Int32) (md : Nat → Int32) (mp : Nat → Int32) (mf : Nat → Int32) (mi : Nat → Int32) (mo : Nat → Int32) (mw : Nat → Int32) (mn : Nat → Int32) (mk : Nat → Int32) (mt : Nat → Int64) (mq : Nat → Int32) (mz : Nat → Int32) (me : Nat → Int32) (x : Int32) : zFoc (wMo cy a m0 m1 m2 m3 m4 m5 m6 m7 m8 m9 mb ms md mp mf mi mo mw mn mk mt mq mz me) 0 (a 0) (.inr (8, zMo a m0 m1 m2 m3 m4 m5 m6 m7 m8 m9)) (wMo cy a x m1 m2 m3 m4 m5 m6 m7 m8 m9 mb ms md mp mf mi mo mw mn mk mt mq mz me) (.inr (8, (zMo a m0 m1 m2 m3 m4 m5 m6 m7 m8 m9).set 0 (.int x))) := ⟨rfl, rfl⟩
theorem wMo_foc0_2 (cy : Nat → ClassId) (a : Nat → Nat) (m0 : Int32) (m1 : Int32) (m2 : Int32) (m3 : Int32) (m4 : Int32) (m5 : Int32) (m6 : Int32) (m7 : Int32) (m8 : Int32) (m9 : Int32) (mb : Nat → Int32) (ms : Nat → Int32) (md : Nat → Int32) (mp : Nat → Int32) (mf : Nat → Int32) (mi : Nat → Int32) (mo : Nat → Int32) (mw : Nat → Int32) (mn : Nat → Int32) (mk : Nat → Int32) (mt : Nat → Int64) (mq : Nat → Int32) (mz : Nat → Int32) (me : Nat → Int32) (x : Int32) : zFoc (wMo cy a m0 m1 m2 m3 m4 m5 m6 m7 m8 m9 mb ms md mp mf mi mo mw mn mk mt mq mz me) 0 (a 0) (.inr (8, zMo a m0 m1 m2 m3 m4 m5 m6 m7 m8 m9)) (wMo cy a m0 x m2 m3 m4 m5 m6 m7 m8 m9 mb ms md mp mf mi mo mw mn mk mt mq mz me) (.inr (8, (zMo a m0 m1 m2 m3 m4 m5 m6 m7 m8 m9).set 2 (.int x))) := ⟨rfl, rfl⟩
theorem wMo_foc0_6 (cy : Nat → ClassId) (a : Nat → Nat) (m0 : Int32) (m1 : Int32) (m2 : Int32) (m3 : Int32) (m4 : Int32) (m5 : Int32) (m6 : Int32) (m7 : Int32) (m8 : Int32) (m9 : Int32) (mb : Nat → Int32) (ms : Nat → Int32) (md : Nat → Int32) (mp : Nat → Int32) (mf : Nat → Int32) (mi : Nat → Int32) (mo : Nat → Int32) (mw : Nat → Int32) (mn : Nat → Int32) (mk : Nat → Int32) (mt : Nat → Int64) (mq : Nat → Int32) (mz : Nat → Int32) (me : Nat → Int32) (x : Int32) : zFoc (wMo cy a m0 m1 m2 m3 m4 m5 m6 m7 m8 m9 mb ms md mp mf mi mo mw mn mk mt mq mz me) 0 (a 0) (.inr (8, zMo a m0 m1 m2 m3 m4 m5 m6 m7 m8 m9)) (wMo cy a m0 m1 x m3 m4 m5 m6 m7 m8 m9 mb ms md mp mf mi mo mw mn mk mt mq mz me) (.inr (8, (zMo a m0 m1 m2 m3 m4 m5 m6 m7 m8 m9).set 6 (.int x))) := ⟨rfl, rfl⟩
theorem wMo_foc0_7 (cy : Nat → ClassId) (a : Nat → Nat) (m0 : Int32) (m1 : Int32) (m2 : Int32) (m3 : Int32) (m4 : Int32) (m5 : Int32) (m6 : Int32) (m7 : Int32) (m8 : Int32) (m9 : Int32) (mb : Nat → Int32) (ms : Nat → Int32) (md : Nat → Int32) (mp : Nat → Int32) (mf : Nat → Int32) (mi : Nat → Int32) (mo : Nat → Int32) (mw : Nat → Int32) (mn : Nat → Int32) (mk : Nat → Int32) (mt : Nat → Int64) (mq : Nat → Int32) (mz : Nat → Int32) (me : Nat → Int32) (x : Int32) : zFoc (wMo cy a m0 m1 m2 m3 m4 m5 m6 m7 m8 m9 mb ms md mp mf mi mo mw mn mk mt mq mz me) 0 (a 0) (.inr (8, zMo a m0 m1 m2 m3 m4 m5 m6 m7 m8 m9)) (wMo cy a m0 m1 m2 x m4 m5 m6 m7 m8 m9 mb ms md mp mf mi mo mw mn mk mt mq mz me) (.inr (8, (zMo a m0 m1 m2 m3 m4 m5 m6 m7 m8 m9).set 7 (.int x))) := ⟨rfl, rfl⟩
theorem wMo_foc0_8 (cy : Nat → ClassId) (a : Nat → Nat) (m0 : Int32) (m1 : Int32) (m2 : Int32) (m3 : Int32) (m4 : Int32) (m5 : Int32) (m6 : Int32) (m7 : Int32) (m8 : Int32) (m9 : Int32) (mb : Nat → Int32) (ms : Nat → Int32) (md : Nat → Int32) (mp : Nat → Int32) (mf : Nat → Int32) (mi : Nat → Int32) (mo : Nat → Int32) (mw : Nat → Int32) (mn : Nat → Int32) (mk : Nat → Int32) (mt : Nat → Int64) (mq : Nat → Int32) (mz : Nat → Int32) (me : Nat → Int32) (x : Int32) : zFoc (wMo cy a m0 m1 m2 m3 m4 m5 m6 m7 m8 m9 mb ms md mp mf mi mo mw mn mk mt mq mz me) 0 (a 0) (.inr (8, zMo a m0 m1 m2 m3 m4 m5 m6 m7 m8 m9)) (wMo cy a m0 m1 m2 m3 x m5 m6 m7 m8 m9 mb ms md mp mf mi mo mw mn mk mt mq mz me) (.inr (8, (zMo a m0 m1 m2 m3 m4 m5 m6 m7 m8 m9).set 8 (.int x))) := ⟨rfl, rfl⟩
theorem wMo_foc0_18 (cy : Nat → ClassId) (a : Nat → Nat) (m0 : Int32) (m1 : Int32) (m2 : Int32) (m3 : Int32) (m4 : Int32) (m5 : Int32) (m6 : Int32) (m7 : Int32) (m8 : Int32) (m9 : Int32) (mb : Nat → Int32) (ms : Nat → Int32) (md : Nat → Int32) (mp : Nat → Int32) (mf : Nat → Int32) (mi : Nat → Int32) (mo : Nat → Int32) (mw : Nat → Int32) (mn : Nat → Int32) (mk : Nat → Int32) (mt : Nat → Int64) (mq : Nat → Int32) (mz : Nat → Int32) (me : Nat → Int32) (x : Int32) : zFoc (wMo cy a m0 m1 m2 m3 m4 m5 m6 m7 m8 m9 mb ms md mp mf mi mo mw mn mk mt mq mz me) 0 (a 0) (.inr (8, zMo a m0 m1 m2 m3 m4 m5 m6 m7 m8 m9)) (wMo cy a m0 m1 m2 m3 m4 x m6 m7 m8 m9 mb ms md mp mf mi mo mw mn mk mt mq mz me) (.inr (8, (zMo a m0 m1 m2 m3 m4 m5 m6 m7 m8 m9).set 18 (.int x))) := ⟨rfl, rfl⟩
theorem wMo_foc0_19 (cy : Nat → ClassId) (a : Nat → Nat) (m0 : Int32) (m1 : Int32) (m2 : Int32) (m3 : Int32) (m4 : Int32) (m5 : Int32) (m6 : Int32) (m7 : Int32) (m8 : Int32) (m9 : Int32) (mb : Nat → Int32) (ms : Nat → Int32) (md : Nat → Int32) (mp : Nat → Int32) (mf : Nat → Int32) (mi : Nat → Int32) (mo : Nat → Int32) (mw : Nat → Int32) (mn : Nat → Int32) (mk : Nat → Int32) (mt : Nat → Int64) (mq : Nat → Int32) (mz : Nat → Int32) (me : Nat → Int32) (x : Int32) : zFoc (wMo cy a m0 m1 m2 m3 m4 m5 m6 m7 m8 m9 mb ms md mp mf mi mo mw mn mk mt mq mz me) 0 (a 0) (.inr (8, zMo a m0 m1 m2 m3 m4 m5 m6 m7 m8 m9)) (wMo cy a m0 m1 m2 m3 m4 m5 x m7 m8 m9 mb ms md mp mf mi mo mw mn mk mt mq mz me) (.inr (8, (zMo a m0 m1 m2 m3 m4 m5 m6 m7 m8 m9).set 19 (.int x))) := ⟨rfl, rfl⟩
theorem wMo_foc0_20 (cy : Nat → ClassId) (a : Nat → Nat) (m0 : Int32) (m1 : Int32) (m2 : Int32) (m3 : Int32) (m4 : Int32) (m5 : Int32) (m6 : Int32) (m7 : Int32) (m8 : Int32) (m9 : Int32) (mb : Nat → Int32) (ms : Nat → Int32) (md : Nat → Int32) (mp : Nat → Int32) (mf : Nat → Int32) (mi : Nat → Int32) (mo : Nat → Int32) (mw : Nat → Int32) (mn : Nat → Int32) (mk : Nat → Int32) (mt : Nat → Int64) (mq : Nat → Int32) (mz : Nat → Int32) (me : Nat → Int32) (x : Int32) : zFoc (wMo cy a m0 m1 m2 m3 m4 m5 m6 m7 m8 m9 mb ms md mp mf mi mo mw mn mk mt mq mz me) 0 (a 0) (.inr (8, zMo a m0 m1 m2 m3 m4 m5 m6 m7 m8 m9)) (wMo cy a m0 m1 m2 m3 m4 m5 m6 x m8 m9 mb ms md mp mf mi mo mw mn mk mt mq mz me) (.inr (8, (zMo a m0 m1 m2 m3 m4 m5 m6 m7 m8 m9).set 20 (.int x))) := ⟨rfl, rfl⟩
theorem wMo_foc0_21 (cy : Nat → ClassId) (a : Nat → Nat) (m0 : Int32) (m1 : Int32) (m2 : Int32) (m3 : Int32) (m4 : Int32) (m5 : Int32) (m6 : Int32) (m7 : Int32) (m8 : Int32) (m9 : Int32) (mb : Nat → Int32) (ms : Nat → Int32) (md : Nat → Int32) (mp : Nat → Int32) (mf : Nat → Int32) (mi : Nat → Int32) (mo : Nat → Int32) (mw : Nat → Int32) (mn : Nat → Int32) (mk : Nat → Int32) (mt : Nat → Int64) (mq : Nat → Int32) (mz : Nat → Int32) (me : Nat → Int32) (x : Int32) : zFoc (wMo cy a m0 m1 m2 m3 m4 m5 m6 m7 m8 m9 mb ms md mp mf mi mo mw mn mk mt mq mz me) 0 (a 0) (.inr (8, zMo a m0 m1 m2 m3 m4 m5 m6 m7 m8 m9)) (wMo cy a m0 m1 m2 m3 m4 m5 m6 m7 x m9 mb ms md mp mf mi mo mw mn mk mt mq mz me) (.inr (8, (zMo a m0 m1 m2 m3 m4 m5 m6 m7 m8 m9).set 21 (.int x))) := ⟨rfl, rfl⟩
theorem wMo_foc0_23 (cy : Nat → ClassId) (a : Nat → Nat) (m0 : Int32) (m1 : Int32) (m2 : Int32) (m3 : Int32) (m4 : Int32) (m5 : Int32) (m6 : Int32) (m7 : Int32) (m8 : Int32) (m9 : Int32) (mb : Nat → Int32) (ms : Nat → Int32) (md : Nat → Int32) (mp : Nat → Int32) (mf : Nat → Int32) (mi : Nat → Int32) (mo : Nat → Int32) (mw : Nat → Int32) (mn : Nat → Int32) (mk : Nat → Int32) (mt : Nat → Int64) (mq : Nat → Int32) (mz : Nat → Int32) (me : Nat → Int32) (x : Int32) : zFoc (wMo cy a m0 m1 m2 m3 m4 m5 m6 m7 m8 m9 mb ms md mp mf mi mo mw mn mk mt mq mz me) 0 (a 0) (.inr (8, zMo a m0 m1 m2 m3 m4 m5 m6 m7 m8 m9)) (wMo cy a m0 m1 m2 m3 m4 m5 m6 m7 m8 x mb ms md mp mf mi mo mw mn mk mt mq mz me) (.inr (8, (zMo a m0 m1 m2 m3 m4 m5 m6 m7 m8 m9).set 23 (.int x))) := ⟨rfl, rfl⟩
theorem wMo_at1 (cy : Nat → ClassId) (a : Nat → Nat) (m0 : Int32) (m1 : Int32) (m2 : Int32) (m3 : Int32) (m4 : Int32) (m5 : Int32) (m6 : Int32) (m7 : Int32) (m8 : Int32) (m9 : Int32) (mb : Nat → Int32) (ms : Nat → Int32) (md : Nat → Int32) (mp : Nat → Int32) (mf : Nat → Int32) (mi : Nat → Int32) (mo : Nat → Int32) (mw : Nat → Int32) (mn : Nat → Int32) (mk : Nat → Int32) (mt : Nat → Int64) (mq : Nat → Int32) (mz : Nat → Int32) (me : Nat → Int32) : (wMo cy a m0 m1 m2 m3 m4 m5 m6 m7 m8 m9 mb ms md mp mf mi mo mw mn mk mt mq mz me)[1]? = some (a 1, .inl (cy 0, 200, .inl mb)) := rfl
theorem wMo_foc1 (cy : Nat → ClassId) (a : Nat → Nat) (m0 : Int32) (m1 : Int32) (m2 : Int32) (m3 : Int32) (m4 : Int32) (m5 : Int32) (m6 : Int32) (m7 : Int32) (m8 : Int32) (m9 : Int32) (mb : Nat → Int32) (ms : Nat → Int32) (md : Nat → Int32) (mp : Nat → Int32) (mf : Nat → Int32) (mi : Nat → Int32) (mo : Nat → Int32) (mw : Nat → Int32) (mn : Nat → Int32) (mk : Nat → Int32) (mt : Nat → Int64) (mq : Nat → Int32) (mz : Nat → Int32) (me : Nat → Int32) (f : Nat → Int32) : zFoc (wMo cy a m0 m1 m2 m3 m4 m5 m6 m7 m8 m9 mb ms md mp mf mi mo mw mn mk mt mq mz me) 1 (a 1) (.inl (cy 0, 200, .inl mb)) (wMo cy a m0 m1 m2 m3 m4 m5 m6 m7 m8 m9 f ms md mp mf mi mo mw mn mk mt mq mz me) (.inl (cy 0, 200, .inl f)) := ⟨rfl, rfl⟩
theorem wMo_at2 (cy : Nat → ClassId) (a : Nat → Nat) (m0 : Int32) (m1 : Int32) (m2 : Int32) (m3 : Int32) (m4 : Int32) (m5 : Int32) (m6 : Int32) (m7 : Int32) (m8 : Int32) (m9 : Int32) (mb : Nat → Int32) (ms : Nat → Int32) (md : Nat → Int32) (mp : Nat → Int32) (mf : Nat → Int32) (mi : Nat → Int32) (mo : Nat → Int32) (mw : Nat → Int32) (mn : Nat → Int32) (mk : Nat → Int32) (mt : Nat → Int64) (mq : Nat → Int32) (mz : Nat → Int32) (me : Nat → Int32) : (wMo cy a m0 m1 m2 m3 m4 m5 m6 m7 m8 m9 mb ms md mp mf mi mo mw mn mk mt mq mz me)[2]? = some (a 2, .inl (cy 1, 114, .inl ms)) := rfl
theorem wMo_foc2 (cy : Nat → ClassId) (a : Nat → Nat) (m0 : Int32) (m1 : Int32) (m2 : Int32) (m3 : Int32) (m4 : Int32) (m5 : Int32) (m6 : Int32) (m7 : Int32) (m8 : Int32) (m9 : Int32) (mb : Nat → Int32) (ms : Nat → Int32) (md : Nat → Int32) (mp : Nat → Int32) (mf : Nat → Int32) (mi : Nat → Int32) (mo : Nat → Int32) (mw : Nat → Int32) (mn : Nat → Int32) (mk : Nat → Int32) (mt : Nat → Int64) (mq : Nat → Int32) (mz : Nat → Int32) (me : Nat → Int32) (f : Nat → Int32) : zFoc (wMo cy a m0 m1 m2 m3 m4 m5 m6 m7 m8 m9 mb ms md mp mf mi mo mw mn mk mt mq mz me) 2 (a 2) (.inl (cy 1, 114, .inl ms)) (wMo cy a m0 m1 m2 m3 m4 m5 m6 m7 m8 m9 mb f md mp mf mi mo mw mn mk mt mq mz me) (.inl (cy 1, 114, .inl f)) := ⟨rfl, rfl⟩
theorem wMo_at3 (cy : Nat → ClassId) (a : Nat → Nat) (m0 : Int32) (m1 : Int32) (m2 : Int32) (m3 : Int32) (m4 : Int32) (m5 : Int32) (m6 : Int32) (m7 : Int32) (m8 : Int32) (m9 : Int32) (mb : Nat → Int32) (ms : Nat → Int32) (md : Nat → Int32) (mp : Nat → Int32) (mf : Nat → Int32) (mi : Nat → Int32) (mo : Nat → Int32) (mw : Nat → Int32) (mn : Nat → Int32) (mk : Nat → Int32) (mt : Nat → Int64) (mq : Nat → Int32) (mz : Nat → Int32) (me : Nat → Int32) : (wMo cy a m0 m1 m2 m3 m4 m5 m6 m7 m8 m9 mb ms md mp mf mi mo mw mn mk mt mq mz me)[3]? = some (a 3, .inl (cy 1, 114, .inl md)) := rfl
theorem wMo_foc3 (cy : Nat → ClassId) (a : Nat → Nat) (m0 : Int32) (m1 : Int32) (m2 : Int32) (m3 : Int32) (m4 : Int32) (m5 : Int32) (m6 : Int32) (m7 : Int32) (m8 : Int32) (m9 : Int32) (mb : Nat → Int32) (ms : Nat → Int32) (md : Nat → Int32) (mp : Nat → Int32) (mf : Nat → Int32) (mi : Nat → Int32) (mo : Nat → Int32) (mw : Nat → Int32) (mn : Nat → Int32) (mk : Nat → Int32) (mt : Nat → Int64) (mq : Nat → Int32) (mz : Nat → Int32) (me : Nat → Int32) (f : Nat → Int32) : zFoc (wMo cy a m0 m1 m2 m3 m4 m5 m6 m7 m8 m9 mb ms md mp mf mi mo mw mn mk mt mq mz me) 3 (a 3) (.inl (cy 1, 114, .inl md)) (wMo cy a m0 m1 m2 m3 m4 m5 m6 m7 m8 m9 mb ms f mp mf mi mo mw mn mk mt mq mz me) (.inl (cy 1, 114, .inl f)) := ⟨rfl, rfl⟩
theorem wMo_at4 (cy : Nat → ClassId) (a : Nat → Nat) (m0 : Int32) (m1 : Int32) (m2 : Int32) (m3 : Int32) (m4 : Int32) (m5 : Int32) (m6 : Int32) (m7 : Int32) (m8 : Int32) (m9 : Int32) (mb : Nat → Int32) (ms : Nat → Int32) (md : Nat → Int32) (mp : Nat → Int32) (mf : Nat → Int32) (mi : Nat → Int32) (mo : Nat → Int32) (mw : Nat → Int32) (mn : Nat → Int32) (mk : Nat → Int32) (mt : Nat → Int64) (mq : Nat → Int32) (mz : Nat → Int32) (me : Nat → Int32) : (wMo cy a m0 m1 m2 m3 m4 m5 m6 m7 m8 m9 mb ms md mp mf mi mo mw mn mk mt mq mz me)[4]? = some (a 4, .inl (cy 1, 684, .inl mp)) := rfl
theorem wMo_foc4 (cy : Nat → ClassId) (a : Nat → Nat) (m0 : Int32) (m1 : Int32) (m2 : Int32) (m3 : Int32) (m4 : Int32) (m5 : Int32) (m6 : Int32) (m7 : Int32) (m8 : Int32) (m9 : Int32) (mb : Nat → Int32) (ms : Nat → Int32) (md : Nat → Int32) (mp : Nat → Int32) (mf : Nat → Int32) (mi : Nat → Int32) (mo : Nat → Int32) (mw : Nat → Int32) (mn : Nat → Int32) (mk : Nat → Int32) (mt : Nat → Int64) (mq : Nat → Int32) (mz : Nat → Int32) (me : Nat → Int32) (f : Nat → Int32) : zFoc (wMo cy a m0 m1 m2 m3 m4 m5 m6 m7 m8 m9 mb ms md mp mf mi mo mw mn mk mt mq mz me) 4 (a 4) (.inl (cy 1, 684, .inl mp)) (wMo cy a m0 m1 m2 m3 m4 m5 m6 m7 m8 m9 mb ms md f mf mi mo mw mn mk mt mq mz me) (.inl (cy 1, 684, .inl f)) := ⟨rfl, rfl⟩
theorem wMo_at5 (cy : Nat → ClassId) (a : Nat → Nat) (m0 : Int32) (m1 : Int32) (m2 : Int32) (m3 : Int32) (m4 : Int32) (m5 : Int32) (m6 : Int32) (m7 : Int32) (m8 : Int32) (m9 : Int32) (mb : Nat → Int32) (ms : Nat → Int32) (md : Nat → Int32) (mp : Nat → Int32) (mf : Nat → Int32) (mi : Nat → Int32) (mo : Nat → Int32) (mw : Nat → Int32) (mn : Nat → Int32) (mk : Nat → Int32) (mt : Nat → Int64) (mq : Nat → Int32) (mz : Nat → Int32) (me : Nat → Int32) : (wMo cy a m0 m1 m2 m3 m4 m5 m6 m7 m8 m9 mb ms md mp mf mi mo mw mn mk mt mq mz me)[5]? = some (a 5, .inl (cy 1, 4, .inl mf)) := rfl
theorem wMo_foc5 (cy : Nat → ClassId) (a : Nat → Nat) (m0 : Int32) (m1 : Int32) (m2 : Int32) (m3 : Int32) (m4 : Int32) (m5 : Int32) (m6 : Int32) (m7 : Int32) (m8 : Int32) (m9 : Int32) (mb : Nat → Int32) (ms : Nat → Int32) (md : Nat → Int32) (mp : Nat → Int32) (mf : Nat → Int32) (mi : Nat → Int32) (mo : Nat → Int32) (mw : Nat → Int32) (mn : Nat → Int32) (mk : Nat → Int32) (mt : Nat → Int64) (mq : Nat → Int32) (mz : Nat → Int32) (me : Nat → Int32) (f : Nat → Int32) : zFoc (wMo cy a m0 m1 m2 m3 m4 m5 m6 m7 m8 m9 mb ms md mp mf mi mo mw mn mk mt mq mz me) 5 (a 5) (.inl (cy 1, 4, .inl mf)) (wMo cy a m0 m1 m2 m3 m4 m5 m6 m7 m8 m9 mb ms md mp f mi mo mw mn mk mt mq mz me) (.inl (cy 1, 4, .inl f)) := ⟨rfl, rfl⟩
theorem wMo_at6 (cy : Nat → ClassId) (a : Nat → Nat) (m0 : Int32) (m1 : Int32) (m2 : Int32) (m3 : Int32) (m4 : Int32) (m5 : Int32) (m6 : Int32) (m7 : Int32) (m8 : Int32) (m9 : Int32) (mb : Nat → Int32) (ms : Nat → Int32) (md : Nat → Int32) (mp : Nat → Int32) (mf : Nat → Int32) (mi : Nat → Int32) (mo : Nat → Int32) (mw : Nat → Int32) (mn : Nat → Int32) (mk : Nat → Int32) (mt : Nat → Int64) (mq : Nat → Int32) (mz : Nat → Int32) (me : Nat → Int32) : (wMo cy a m0 m1 m2 m3 m4 m5 m6 m7 m8 m9 mb ms md mp mf mi mo mw mn mk mt mq mz me)[6]? = some (a 6, .inl (cy 1, 4, .inl mi)) := rfl
theorem wMo_foc6 (cy : Nat → ClassId) (a : Nat → Nat) (m0 : Int32) (m1 : Int32) (m2 : Int32) (m3 : Int32) (m4 : Int32) (m5 : Int32) (m6 : Int32) (m7 : Int32) (m8 : Int32) (m9 : Int32) (mb : Nat → Int32) (ms : Nat → Int32) (md : Nat → Int32) (mp : Nat → Int32) (mf : Nat → Int32) (mi : Nat → Int32) (mo : Nat → Int32) (mw : Nat → Int32) (mn : Nat → Int32) (mk : Nat → Int32) (mt : Nat → Int64) (mq : Nat → Int32) (mz : Nat → Int32) (me : Nat → Int32) (f : Nat → Int32) : zFoc (wMo cy a m0 m1 m2 m3 m4 m5 m6 m7 m8 m9 mb ms md mp mf mi mo mw mn mk mt mq mz me) 6 (a 6) (.inl (cy 1, 4, .inl mi)) (wMo cy a m0 m1 m2 m3 m4 m5 m6 m7 m8 m9 mb ms md mp mf f mo mw mn mk mt mq mz me) (.inl (cy 1, 4, .inl f)) := ⟨rfl, rfl⟩
theorem wMo_at7 (cy : Nat → ClassId) (a : Nat → Nat) (m0 : Int32) (m1 : Int32) (m2 : Int32) (m3 : Int32) (m4 : Int32) (m5 : Int32) (m6 : Int32) (m7 : Int32) (m8 : Int32) (m9 : Int32) (mb : Nat → Int32) (ms : Nat → Int32) (md : Nat → Int32) (mp : Nat → Int32) (mf : Nat → Int32) (mi : Nat → Int32) (mo : Nat → Int32) (mw : Nat → Int32) (mn : Nat → Int32) (mk : Nat → Int32) (mt : Nat → Int64) (mq : Nat → Int32) (mz : Nat → Int32) (me : Nat → Int32) : (wMo cy a m0 m1 m2 m3 m4 m5 m6 m7 m8 m9 mb ms md mp mf mi mo mw mn mk mt mq mz me)[7]? = some (a 7, .inl (cy 1, 4, .inl mo)) := rfl
theorem wMo_foc7 (cy : Nat → ClassId) (a : Nat → Nat) (m0 : Int32) (m1 : Int32) (m2 : Int32) (m3 : Int32) (m4 : Int32) (m5 : Int32) (m6 : Int32) (m7 : Int32) (m8 : Int32) (m9 : Int32) (mb : Nat → Int32) (ms : Nat → Int32) (md : Nat → Int32) (mp : Nat → Int32) (mf : Nat → Int32) (mi : Nat → Int32) (mo : Nat → Int32) (mw : Nat → Int32) (mn : Nat → Int32) (mk : Nat → Int32) (mt : Nat → Int64) (mq : Nat → Int32) (mz : Nat → Int32) (me : Nat → Int32) (f : Nat → Int32) : zFoc (wMo cy a m0 m1 m2 m3 m4 m5 m6 m7 m8 m9 mb ms md mp mf mi mo mw mn mk mt mq mz me) 7 (a 7) (.inl (cy 1, 4, .inl mo)) (wMo cy a m0 m1 m2 m3 m4 m5 m6 m7 m8 m9 mb ms md mp mf mi f mw mn mk mt mq mz me) (.inl (cy 1, 4, .inl f)) := ⟨rfl, rfl⟩
theorem wMo_at8 (cy : Nat → ClassId) (a : Nat → Nat) (m0 : Int32) (m1 : Int32) (m2 : Int32) (m3 : Int32) (m4 : Int32) (m5 : Int32) (m6 : Int32) (m7 : Int32) (m8 : Int32) (m9 : Int32) (mb : Nat → Int32) (ms : Nat → Int32) (md : Nat → Int32) (mp : Nat → Int32) (mf : Nat → Int32) (mi : Nat → Int32) (mo : Nat → Int32) (mw : Nat → Int32) (mn : Nat → Int32) (mk : Nat → Int32) (mt : Nat → Int64) (mq : Nat → Int32) (mz : Nat → Int32) (me : Nat → Int32) : (wMo cy a m0 m1 m2 m3 m4 m5 m6 m7 m8 m9 mb ms md mp mf mi mo mw mn mk mt mq mz me)[8]? = some (a 8, .inl (cy 1, 4, .inl mw)) := rfl
theorem wMo_foc8 (cy : Nat → ClassId) (a : Nat → Nat) (m0 : Int32) (m1 : Int32) (m2 : Int32) (m3 : Int32) (m4 : Int32) (m5 : Int32) (m6 : Int32) (m7 : Int32) (m8 : Int32) (m9 : Int32) (mb : Nat → Int32) (ms : Nat → Int32) (md : Nat → Int32) (mp : Nat → Int32) (mf : Nat → Int32) (mi : Nat → Int32) (mo : Nat → Int32) (mw : Nat → Int32) (mn : Nat → Int32) (mk : Nat → Int32) (mt : Nat → Int64) (mq : Nat → Int32) (mz : Nat → Int32) (me : Nat → Int32) (f : Nat → Int32) : zFoc (wMo cy a m0 m1 m2 m3 m4 m5 m6 m7 m8 m9 mb ms md mp mf mi mo mw mn mk mt mq mz me) 8 (a 8) (.inl (cy 1, 4, .inl mw)) (wMo cy a m0 m1 m2 m3 m4 m5 m6 m7 m8 m9 mb ms md mp mf mi mo f mn mk mt mq mz me) (.inl (cy 1, 4, .inl f)) := ⟨rfl, rfl⟩
theorem wMo_at9 (cy : Nat → ClassId) (a : Nat → Nat) (m0 : Int32) (m1 : Int32) (m2 : Int32) (m3 : Int32) (m4 : Int32) (m5 : Int32) (m6 : Int32) (m7 : Int32) (m8 : Int32) (m9 : Int32) (mb : Nat → Int32) (ms : Nat → Int32) (md : Nat → Int32) (mp : Nat → Int32) (mf : Nat → Int32) (mi : Nat → Int32) (mo : Nat → Int32) (mw : Nat → Int32) (mn : Nat → Int32) (mk : Nat → Int32) (mt : Nat → Int64) (mq : Nat → Int32) (mz : Nat → Int32) (me : Nat → Int32) : (wMo cy a m0 m1 m2 m3 m4 m5 m6 m7 m8 m9 mb ms md mp mf mi mo mw mn mk mt mq mz me)[9]? = some (a 9, .inl (cy 3, 4, .inl mn)) := rfl
theorem wMo_foc9 (cy : Nat → ClassId) (a : Nat → Nat) (m0 : Int32) (m1 : Int32) (m2 : Int32) (m3 : Int32) (m4 : Int32) (m5 : Int32) (m6 : Int32) (m7 : Int32) (m8 : Int32) (m9 : Int32) (mb : Nat → Int32) (ms : Nat → Int32) (md : Nat → Int32) (mp : Nat → Int32) (mf : Nat → Int32) (mi : Nat → Int32) (mo : Nat → Int32) (mw : Nat → Int32) (mn : Nat → Int32) (mk : Nat → Int32) (mt : Nat → Int64) (mq : Nat → Int32) (mz : Nat → Int32) (me : Nat → Int32) (f : Nat → Int32) : zFoc (wMo cy a m0 m1 m2 m3 m4 m5 m6 m7 m8 m9 mb ms md mp mf mi mo mw mn mk mt mq mz me) 9 (a 9) (.inl (cy 3, 4, .inl mn)) (wMo cy a m0 m1 m2 m3 m4 m5 m6 m7 m8 m9 mb ms md mp mf mi mo mw f mk mt mq mz me) (.inl (cy 3, 4, .inl f)) := ⟨rfl, rfl⟩
theorem wMo_at10 (cy : Nat → ClassId) (a : Nat → Nat) (m0 : Int32) (m1 : Int32) (m2 : Int32) (m3 : Int32) (m4 : Int32) (m5 : Int32) (m6 : Int32) (m7 : Int32) (m8 : Int32) (m9 : Int32) (mb : Nat → Int32) (ms : Nat → Int32) (md : Nat → Int32) (mp : Nat → Int32) (mf : Nat → Int32) (mi : Nat → Int32) (mo : Nat → Int32) (mw : Nat → Int32) (mn : Nat → Int32) (mk : Nat → Int32) (mt : Nat → Int64) (mq : Nat → Int32) (mz : Nat → Int32) (me : Nat → Int32) : (wMo cy a m0 m1 m2 m3 m4 m5 m6 m7 m8 m9 mb ms md mp mf mi mo mw mn mk mt mq mz me)[10]? = some (a 10, .inl (cy 3, 4, .inl mk)) := rfl
theorem wMo_foc10 (cy : Nat → ClassId) (a : Nat → Nat) (m0 : Int32) (m1 : Int32) (m2 : Int32) (m3 : Int32) (m4 : Int32) (m5 : Int32) (m6 : Int32) (m7 : Int32) (m8 : Int32) (m9 : Int32) (mb : Nat → Int32) (ms : Nat → Int32) (md : Nat → Int32) (mp : Nat → Int32) (mf : Nat → Int32) (mi : Nat → Int32) (mo : Nat → Int32) (mw : Nat → Int32) (mn : Nat → Int32) (mk : Nat → Int32) (mt : Nat → Int64) (mq : Nat → Int32) (mz : Nat → Int32) (me : Nat → Int32) (f : Nat → Int32) : zFoc (wMo cy a m0 m1 m2 m3 m4 m5 m6 m7 m8 m9 mb ms md mp mf mi mo mw mn mk mt mq mz me) 10 (a 10) (.inl (cy 3, 4, .inl mk)) (wMo cy a m0 m1 m2 m3 m4 m5 m6 m7 m8 m9 mb ms md mp mf mi mo mw mn f mt mq mz me) (.inl (cy 3, 4, .inl f)) := ⟨rfl, rfl⟩
theorem wMo_at11 (cy : Nat → ClassId) (a : Nat → Nat) (m0 : Int32) (m1 : Int32) (m2 : Int32) (m3 : Int32) (m4 : Int32) (m5 : Int32) (m6 : Int32) (m7 : Int32) (m8 : Int32) (m9 : Int32) (mb : Nat → Int32) (ms : Nat → Int32) (md : Nat → Int32) (mp : Nat → Int32) (mf : Nat → Int32) (mi : Nat → Int32) (mo : Nat → Int32) (mw : Nat → Int32) (mn : Nat → Int32) (mk : Nat → Int32) (mt : Nat → Int64) (mq : Nat → Int32) (mz : Nat → Int32) (me : Nat → Int32) : (wMo cy a m0 m1 m2 m3 m4 m5 m6 m7 m8 m9 mb ms md mp mf mi mo mw mn mk mt mq mz me)[11]? = some (a 11, .inl (cy 2, 301, .inr (.inl mt))) := rfl
theorem wMo_foc11 (cy : Nat → ClassId) (a : Nat → Nat) (m0 : Int32) (m1 : Int32) (m2 : Int32) (m3 : Int32) (m4 : Int32) (m5 : Int32) (m6 : Int32) (m7 : Int32) (m8 : Int32) (m9 : Int32) (mb : Nat → Int32) (ms : Nat → Int32) (md : Nat → Int32) (mp : Nat → Int32) (mf : Nat → Int32) (mi : Nat → Int32) (mo : Nat → Int32) (mw : Nat → Int32) (mn : Nat → Int32) (mk : Nat → Int32) (mt : Nat → Int64) (mq : Nat → Int32) (mz : Nat → Int32) (me : Nat → Int32) (f : Nat → Int64) : zFoc (wMo cy a m0 m1 m2 m3 m4 m5 m6 m7 m8 m9 mb ms md mp mf mi mo mw mn mk mt mq mz me) 11 (a 11) (.inl (cy 2, 301, .inr (.inl mt))) (wMo cy a m0 m1 m2 m3 m4 m5 m6 m7 m8 m9 mb ms md mp mf mi mo mw mn mk f mq mz me) (.inl (cy 2, 301, .inr (.inl f))) := ⟨rfl, rfl⟩
theorem wMo_at12 (cy : Nat → ClassId) (a : Nat → Nat) (m0 : Int32) (m1 : Int32) (m2 : Int32) (m3 : Int32) (m4 : Int32) (m5 : Int32) (m6 : Int32) (m7 : Int32) (m8 : Int32) (m9 : Int32) (mb : Nat → Int32) (ms : Nat → Int32) (md : Nat → Int32) (mp : Nat → Int32) (mf : Nat → Int32) (mi : Nat → Int32) (mo : Nat → Int32) (mw : Nat → Int32) (mn : Nat → Int32) (mk : Nat → Int32) (mt : Nat → Int64) (mq : Nat → Int32) (mz : Nat → Int32) (me : Nat → Int32) : (wMo cy a m0 m1 m2 m3 m4 m5 m6 m7 m8 m9 mb ms md mp mf mi mo mw mn mk mt mq mz me)[12]? = some (a 12, .inl (cy 1, 301, .inl mq)) := rfl
theorem wMo_foc12 (cy : Nat → ClassId) (a : Nat → Nat) (m0 : Int32) (m1 : Int32) (m2 : Int32) (m3 : Int32) (m4 : Int32) (m5 : Int32) (m6 : Int32) (m7 : Int32) (m8 : Int32) (m9 : Int32) (mb : Nat → Int32) (ms : Nat → Int32) (md : Nat → Int32) (mp : Nat → Int32) (mf : Nat → Int32) (mi : Nat → Int32) (mo : Nat → Int32) (mw : Nat → Int32) (mn : Nat → Int32) (mk : Nat → Int32) (mt : Nat → Int64) (mq : Nat → Int32) (mz : Nat → Int32) (me : Nat → Int32) (f : Nat → Int32) : zFoc (wMo cy a m0 m1 m2 m3 m4 m5 m6 m7 m8 m9 mb ms md mp mf mi mo mw mn mk mt mq mz me) 12 (a 12) (.inl (cy 1, 301, .inl mq)) (wMo cy a m0 m1 m2 m3 m4 m5 m6 m7 m8 m9 mb ms md mp mf mi mo mw mn mk mt f mz me) (.inl (cy 1, 301, .inl f)) := ⟨rfl, rfl⟩
theorem wMo_at13 (cy : Nat → ClassId) (a : Nat → Nat) (m0 : Int32) (m1 : Int32) (m2 : Int32) (m3 : Int32) (m4 : Int32) (m5 : Int32) (m6 : Int32) (m7 : Int32) (m8 : Int32) (m9 : Int32) (mb : Nat → Int32) (ms : Nat → Int32) (md : Nat → Int32) (mp : Nat → Int32) (mf : Nat → Int32) (mi : Nat → Int32) (mo : Nat → Int32) (mw : Nat → Int32) (mn : Nat → Int32) (mk : Nat → Int32) (mt : Nat → Int64) (mq : Nat → Int32) (mz : Nat → Int32) (me : Nat → Int32) : (wMo cy a m0 m1 m2 m3 m4 m5 m6 m7 m8 m9 mb ms md mp mf mi mo mw mn mk mt mq mz me)[13]? = some (a 13, .inl (cy 1, 114, .inl mz)) := rfl
theorem wMo_foc13 (cy : Nat → ClassId) (a : Nat → Nat) (m0 : Int32) (m1 : Int32) (m2 : Int32) (m3 : Int32) (m4 : Int32) (m5 : Int32) (m6 : Int32) (m7 : Int32) (m8 : Int32) (m9 : Int32) (mb : Nat → Int32) (ms : Nat → Int32) (md : Nat → Int32) (mp : Nat → Int32) (mf : Nat → Int32) (mi : Nat → Int32) (mo : Nat → Int32) (mw : Nat → Int32) (mn : Nat → Int32) (mk : Nat → Int32) (mt : Nat → Int64) (mq : Nat → Int32) (mz : Nat → Int32) (me : Nat → Int32) (f : Nat → Int32) : zFoc (wMo cy a m0 m1 m2 m3 m4 m5 m6 m7 m8 m9 mb ms md mp mf mi mo mw mn mk mt mq mz me) 13 (a 13) (.inl (cy 1, 114, .inl mz)) (wMo cy a m0 m1 m2 m3 m4 m5 m6 m7 m8 m9 mb ms md mp mf mi mo mw mn mk mt mq f me) (.inl (cy 1, 114, .inl f)) := ⟨rfl, rfl⟩
theorem wMo_at14 (cy : Nat → ClassId) (a : Nat → Nat) (m0 : Int32) (m1 : Int32) (m2 : Int32) (m3 : Int32) (m4 : Int32) (m5 : Int32) (m6 : Int32) (m7 : Int32) (m8 : Int32) (m9 : Int32) (mb : Nat → Int32) (ms : Nat → Int32) (md : Nat → Int32) (mp : Nat → Int32) (mf : Nat → Int32) (mi : Nat → Int32) (mo : Nat → Int32) (mw : Nat → Int32) (mn : Nat → Int32) (mk : Nat → Int32) (mt : Nat → Int64) (mq : Nat → Int32) (mz : Nat → Int32) (me : Nat → Int32) : (wMo cy a m0 m1 m2 m3 m4 m5 m6 m7 m8 m9 mb ms md mp mf mi mo mw mn mk mt mq mz me)[14]? = some (a 14, .inl (cy 1, 4, .inl me)) := rfl
theorem wMo_foc14 (cy : Nat → ClassId) (a : Nat → Nat) (m0 : Int32) (m1 : Int32) (m2 : Int32) (m3 : Int32) (m4 : Int32) (m5 : Int32) (m6 : Int32) (m7 : Int32) (m8 : Int32) (m9 : Int32) (mb : Nat → Int32) (ms : Nat → Int32) (md : Nat → Int32) (mp : Nat → Int32) (mf : Nat → Int32) (mi : Nat → Int32) (mo : Nat → Int32) (mw : Nat → Int32) (mn : Nat → Int32) (mk : Nat → Int32) (mt : Nat → Int64) (mq : Nat → Int32) (mz : Nat → Int32) (me : Nat → Int32) (f : Nat → Int32) : zFoc (wMo cy a m0 m1 m2 m3 m4 m5 m6 m7 m8 m9 mb ms md mp mf mi mo mw mn mk mt mq mz me) 14 (a 14) (.inl (cy 1, 4, .inl me)) (wMo cy a m0 m1 m2 m3 m4 m5 m6 m7 m8 m9 mb ms md mp mf mi mo mw mn mk mt mq mz f) (.inl (cy 1, 4, .inl f)) := ⟨rfl, rfl⟩
end
