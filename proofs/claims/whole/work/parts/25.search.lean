/-! ===== 25.search: laid by a program out of the decode rows ===== -/
def j_X3_tryTaps_13 (sp : Nat → Int32) (sq : Nat → Int32) (x03 : Int32) : Option ((Nat → Int32) × (Nat → Int32) × Int32) :=
zlet x03 fun sk_1 =>
zlet (va_cpy sp sq (zn 0) (zn 0) (zn 4)) fun sq_2 =>
some (sp, sq_2, sk_1)
def j_X3_tryTaps_161 (rc85 : (Int32 × (Nat → Int32) × (Nat → Int32) × Int32) → Option ((Nat → Int32) × (Nat → Int32) × Int32)) (s85 : Int32 × (Nat → Int32) × (Nat → Int32) × Int32) (sp_8 : Nat → Int32) (sq_9 : Nat → Int32) (sk_10 : Int32) : Option ((Nat → Int32) × (Nat → Int32) × Int32) :=
zlet (s85.1 + 1) fun x11 =>
rc85 (x11, sp_8, sq_9, sk_10)
def b_X3_tryTaps_85 (rcf : (Nat → Int32) → (Nat → Int32) → Int32 → R2 → Int32 → Int32 → Int32 → Option ((Nat → Int32) × (Nat → Int32) × Int32)) (v : R2) (x01 : Int32) (x02 : Int32) (x03 : Int32) (t5 : Int32) (rc85 : (Int32 × (Nat → Int32) × (Nat → Int32) × Int32) → Option ((Nat → Int32) × (Nat → Int32) × Int32)) (s85 : Int32 × (Nat → Int32) × (Nat → Int32) × Int32) : Option ((Nat → Int32) × (Nat → Int32) × Int32) :=
if t5 < s85.1 then (
some (s85.2.1, s85.2.2.1, s85.2.2.2)) else (
zbd (f_X7_outOf x02 (1000 + (s85.1 * (v (zn x01) 0)))) fun o6 =>
zlet (x03 + (zabs (o6 - (v (zn x01) 1)))) fun x7 =>
if s85.2.2.2 ≤ x7 then (
j_X3_tryTaps_161 rc85 s85 s85.2.1 s85.2.2.1 s85.2.2.2) else (
zg (zin x01 4) (
zlet (upd s85.2.1 (zn x01) s85.1) fun sp_12 =>
zbd (f_X1_lostBehind v x01) fun o13 =>
zbd (rcf sp_12 s85.2.2.1 s85.2.2.2 v (x01 + 1) (o6 - o13) x7) fun o14 =>
j_X3_tryTaps_161 rc85 s85 o14.1 o14.2.1 o14.2.2)))
def j_X3_tryTaps_79 (rcf : (Nat → Int32) → (Nat → Int32) → Int32 → R2 → Int32 → Int32 → Int32 → Option ((Nat → Int32) × (Nat → Int32) × Int32)) (sp : Nat → Int32) (sq : Nat → Int32) (sk : Int32) (v : R2) (x01 : Int32) (x02 : Int32) (x03 : Int32) (t4 : Int32) (t5 : Int32) : Option ((Nat → Int32) × (Nat → Int32) × Int32) :=
zloop (b_X3_tryTaps_85 rcf v x01 x02 x03 t5) 1000 (t4, sp, sq, sk)
def j_X3_tryTaps_60 (rcf : (Nat → Int32) → (Nat → Int32) → Int32 → R2 → Int32 → Int32 → Int32 → Option ((Nat → Int32) × (Nat → Int32) × Int32)) (sp : Nat → Int32) (sq : Nat → Int32) (sk : Int32) (v : R2) (x01 : Int32) (x02 : Int32) (x03 : Int32) (t4 : Int32) : Option ((Nat → Int32) × (Nat → Int32) × Int32) :=
if (v (zn x01) 11) = 0 then (
j_X3_tryTaps_79 rcf sp sq sk v x01 x02 x03 t4 5) else (
j_X3_tryTaps_79 rcf sp sq sk v x01 x02 x03 t4 (v (zn x01) 7))
def F_X3_tryTaps (rcf : (Nat → Int32) → (Nat → Int32) → Int32 → R2 → Int32 → Int32 → Int32 → Option ((Nat → Int32) × (Nat → Int32) × Int32)) (sp : Nat → Int32) (sq : Nat → Int32) (sk : Int32) (v : R2) (x01 : Int32) (x02 : Int32) (x03 : Int32) : Option ((Nat → Int32) × (Nat → Int32) × Int32) :=
if (v 9 0) ≤ x01 then (
j_X3_tryTaps_13 sp sq x03) else (
if x01 < (4 : Int32) then (
zg (zin x01 4) (
if (v (zn x01) 11) = 0 then (
j_X3_tryTaps_60 rcf sp sq sk v x01 x02 x03 (-5)) else (
j_X3_tryTaps_60 rcf sp sq sk v x01 x02 x03 (v (zn x01) 7)))) else (
j_X3_tryTaps_13 sp sq x03))
def f_X3_tryTaps : Nat → (Nat → Int32) → (Nat → Int32) → Int32 → R2 → Int32 → Int32 → Int32 → Option ((Nat → Int32) × (Nat → Int32) × Int32)
  | 0 => fun _ _ _ _ _ _ _ => none
  | n + 1 => F_X3_tryTaps (f_X3_tryTaps n)
set_option maxHeartbeats 4000000 in
set_option maxRecDepth 100000 in
theorem cs_X3_tryTaps_1 (l : Launch) (G : va_G) (cy : Nat → ClassId) (st : Nat → Nat) (rcf : (Nat → Int32) → (Nat → Int32) → Int32 → R2 → Int32 → Int32 → Int32 → Option ((Nat → Int32) × (Nat → Int32) × Int32)) (hM : ∀ (a : Nat → Nat) (b : Nat → Nat) (sp : Nat → Int32) (sq : Nat → Int32) (sk : Int32) (v : R2) (x01 : Int32) (x02 : Int32) (x03 : Int32) (o : (Nat → Int32) × (Nat → Int32) × Int32), rcf sp sq sk v x01 x02 x03 = some o → zMv l yX3_tryTaps wsX3_tryTaps (zR 3) G cy st [.ref (a 0), .ref (b 0), .int x01, .int x02, .int x03] ((wSe cy a sp sq sk) ++ (wLn cy b v)) ((wSe cy a o.1 o.2.1 o.2.2) ++ (wLn cy b v))) (a : Nat → Nat) (b : Nat → Nat) (sp : Nat → Int32) (sq : Nat → Int32) (sk : Int32) (v : R2) (x01 : Int32) (x02 : Int32) (x03 : Int32) (o : (Nat → Int32) × (Nat → Int32) × Int32) (hF : F_X3_tryTaps rcf sp sq sk v x01 x02 x03 = some o) : zMv l yX3_tryTaps wsX3_tryTaps (zR 4) G cy st [.ref (a 0), .ref (b 0), .int x01, .int x02, .int x03] ((wSe cy a sp sq sk) ++ (wLn cy b v)) ((wSe cy a o.1 o.2.1 o.2.2) ++ (wLn cy b v)) := by
  refine zM_of (cc := cX3_tryTaps) (maxL := 11) (ret := none) (Qc := fun A => zQv G cy A ((wSe cy a o.1 o.2.1 o.2.2) ++ (wLn cy b v))) (by decide) rfl (Nat.le_of_ble_eq_true rfl) ?_
  intro p e s m below meth c A ls hx hb hml hr hlocks hown hts hK hSE hA hP hD hS hl
  have hown : s.vm.findClass RX3 = some m.cls := hown
  have hl : lv_has ls 11 [(0, .ref (a 0)), (1, .ref (b 0)), (2, .int x01), (3, .int x02), (4, .int x03)] := hl
  have k32 := hts (.fieldLink RX3 32 "TapCascade$Line" "size" "I") (by decide +kernel)
  have iX1 : ∀ w ∈ wsX10, w ∈ wsX3_tryTaps := fun w h => List.mem_cons_of_mem _ (List.mem_append_left _ (List.mem_append_left _ (List.mem_append_right _ h)))
  have k19 := hts (.fieldLink RX3 19 "TapCascade$Search" "leastOff" "I") (by decide +kernel)
  have iX3 : ∀ w ∈ wsX30, w ∈ wsX3_tryTaps := fun w h => List.mem_cons_of_mem _ (List.mem_append_left _ (List.mem_append_right _ h))
  have k9 := hts (.fieldLink RX3 9 "TapCascade$Search" "taps" "[I") (by decide +kernel)
  have k15 := hts (.fieldLink RX3 15 "TapCascade$Search" "bestTaps" "[I") (by decide +kernel)
  have k35 := hts (.methodLink RX3 35 arraycopyName) (by decide +kernel)
  have kAn := hts (.native arraycopyName) (by decide +kernel)
  have kAs := hts (.static arraycopyName) (by decide +kernel)
  have kAi := hts (.initialized "java/lang/System") (by decide +kernel)
  have k41 := hts (.fieldLink RX3 41 "TapCascade$Line" "stages" "[LTapCascade$Stage;") (by decide +kernel)
  have k45 := hts (.fieldLink RX3 45 "TapCascade$Stage" "stuck" "Z") (by decide +kernel)
  have iX4 : ∀ w ∈ wsX40, w ∈ wsX3_tryTaps := fun w h => List.mem_cons_of_mem _ (List.mem_append_right _ h)
  have k54 := hts (.fieldLink RX3 54 "TapCascade$Stage" "step" "I") (by decide +kernel)
  have kNi := hts (.initialized RX7) (by decide +kernel)
  have kNs57 := hts (.static yX7_outOf) (by decide +kernel)
  have k61 := hts (.fieldLink RX3 61 "TapCascade$Stage" "target" "I") (by decide +kernel)
  have k64 := hts (.methodLink RX3 64 Lib.Math.abs.name) (by decide +kernel)
  have k64s := hts (.static Lib.Math.abs.name) (by decide +kernel)
  have kMi := hts (.initialized "java/lang/Math") (by decide +kernel)
  have k64c := hts (.code Lib.Math.abs.name Lib.Math.abs.code 1 (some .int)) (by decide +kernel)
  have k51 := hts (.fieldLink RX3 51 "TapCascade$Stage" "tap" "I") (by decide +kernel)
  unfold F_X3_tryTaps at hF
  refine lv_iload_n hx hb dX3_tryTaps_0 rfl (lv_at hl 2 rfl) ?_
  refine lv_aload_n hx hb dX3_tryTaps_1 rfl (lv_at hl 1 rfl) ?_
  refine va_get (ci := 1) (C := RX1) (T := TX1) (N := 6) (fs := (zLn b v)) (v := .int (v 9 0)) hx hb hts iX1 hown hK hP _ (zat_r (wSe_len cy a sp sq sk) (wLn_at0 cy b v)) rfl 3 (by decide) k32 (fun _ h9 => h9) rfl dX3_tryTaps_2 ?_
  have J13 : ∀ (H : Heap) (locs : List Loc) (ls : Array Slot), va_P G vwCl ((wSe cy a sp sq sk) ++ (wLn cy b v)) H → va_D A ((wSe cy a sp sq sk) ++ (wLn cy b v)) → va_S A s.heap H locs → lv_has ls 11 [(0, .ref (a 0)), (4, .int x03)] → j_X3_tryTaps_13 sp sq x03 = some o → W p l e (zR 4) s m ([.ref (a 0), .ref (b 0), .int x01, .int x02, .int x03] : List Value).toArray below meth c H locs 0 0 (MQ below (zQv G cy A ((wSe cy a o.1 o.2.1 o.2.2) ++ (wLn cy b v))) ([.ref (a 0), .ref (b 0), .int x01, .int x02, .int x03] : List Value).toArray s 0 0 A) (F0 m 13 ls []) := by
    intro H locs ls hP hD hS hl hF
    unfold j_X3_tryTaps_13 at hF
    refine lv_aload_n hx hb dX3_tryTaps_13 rfl (lv_at hl 0 rfl) ?_
    refine lv_iload hx hb dX3_tryTaps_14 (lv_at hl 1 rfl) ?_
    refine z_puti (ci := 3) (C := RX3) (T := TX3) (N := 3) (fs := (zSe a sk)) (x := x03) (wf := (fun y => ((wSe cy a sp sq y) ++ (wLn cy b v)))) hx hb hts iX3 tyX3 tyX3_ok nmX3 hown hK hP hD hS _ 2 (zFoc_l (wSe_foc0_2 cy a sp sq sk x03)) rfl (by decide) k19 (fun _ h9 => h9) rfl (by decide +kernel) (Nat.le_of_ble_eq_true rfl) hF dX3_tryTaps_16 (fun sk_1 hF H locs hP hD hS => ?_)
    refine lv_aload_n hx hb dX3_tryTaps_19 rfl (lv_at hl 0 rfl) ?_
    refine va_get (ci := 3) (C := RX3) (T := TX3) (N := 3) (fs := (zSe a sk_1)) (v := .ref (a 1)) hx hb hts iX3 hown hK hP _ (zat_l (wSe_at0 cy a sp sq sk_1)) rfl 0 (by decide) k9 (fun _ h9 => h9) rfl dX3_tryTaps_20 ?_
    refine lv_iconst (v := 0) hx hb dX3_tryTaps_23 (by decide) ?_
    refine lv_aload_n hx hb dX3_tryTaps_24 rfl (lv_at hl 0 rfl) ?_
    refine va_get (ci := 3) (C := RX3) (T := TX3) (N := 3) (fs := (zSe a sk_1)) (v := .ref (a 2)) hx hb hts iX3 hown hK hP _ (zat_l (wSe_at0 cy a sp sq sk_1)) rfl 1 (by decide) k15 (fun _ h9 => h9) rfl dX3_tryTaps_25 ?_
    refine lv_iconst (v := 0) hx hb dX3_tryTaps_28 (by decide) ?_
    refine lv_iconst (v := 4) hx hb dX3_tryTaps_29 (by decide) ?_
    refine z_copyi (wf := (fun y => ((wSe cy a sp y sk_1) ++ (wLn cy b v)))) (f := sp) (g0 := sq) (sp := 0) (dp := 0) (n := 4) hx hb (hml.trans hl.1.symm) hown k35 kAn kAs kAi hK hP hD hS _ _ 1 (zat_l (wSe_at1 cy a sp sq sk_1)) (zFoc_l (wSe_foc2 cy a sp sq sk_1 _)) rfl rfl (by decide) (by decide) (by decide) (by decide) (by decide) hF (by decide) (Nat.le_of_ble_eq_true rfl) dX3_tryTaps_30 (fun sq_2 hF H locs hP hD hS => ?_)
    refine z_vret (o := o) (o1 := (sp, sq_2, sk_1)) (wf := (fun o => ((wSe cy a o.1 o.2.1 o.2.2) ++ (wLn cy b v)))) hx hb hr hlocks hK ?_ ?_ hS ?_ dX3_tryTaps_33
    · exact hP
    · exact hD
    · exact hF
  refine zi_ge (tgt := 13) hx hb hF dX3_tryTaps_5 (by decide) (fun hF => ?_) (fun hF => ?_)
  · exact J13 _ _ ls hP hD hS (lv_sub hl [0, 4] rfl) hF
  · refine lv_iload_n hx hb dX3_tryTaps_8 rfl (lv_at hl 2 rfl) ?_
    refine lv_iconst (v := 4) hx hb dX3_tryTaps_9 (by decide) ?_
    refine zi_lt (tgt := 34) hx hb hF dX3_tryTaps_10 (by decide) (fun hF => ?_) (fun hF => ?_)
    · refine lv_aload_n hx hb dX3_tryTaps_34 rfl (lv_at hl 1 rfl) ?_
      refine va_get (ci := 1) (C := RX1) (T := TX1) (N := 6) (fs := (zLn b v)) (v := .ref (b 1)) hx hb hts iX1 hown hK hP _ (zat_r (wSe_len cy a sp sq sk) (wLn_at0 cy b v)) rfl 0 (by decide) k41 (fun _ h9 => h9) rfl dX3_tryTaps_35 ?_
      refine lv_iload_n hx hb dX3_tryTaps_38 rfl (lv_at hl 2 rfl) ?_
      refine z_aald (ad := (fun j => b (2 + j))) (n := 4) hx hb hK hP _ 5 (zat_r (wSe_len cy a sp sq sk) (wLn_at1 cy b v)) rfl hF dX3_tryTaps_39 (fun h3 hF => ?_)
      refine lv_astore (lv' := [(5, .ref (b (2 + zn x01))), (0, .ref (a 0)), (1, .ref (b 0)), (2, .int x01), (3, .int x02), (4, .int x03)]) hx hb dX3_tryTaps_40 hl (by decide) rfl (fun ls hl => ?_)
      refine lv_aload hx hb dX3_tryTaps_42 (lv_at hl 0 rfl) ?_
      refine va_get (ci := 4) (C := RX4) (T := TX4) (N := 15) (fs := (zSt (v (zn x01)))) (v := .int (v (zn x01) 11)) hx hb hts iX4 hown hK hP _ (zat_r (wSe_len cy a sp sq sk) (wLn_atS cy b v h3)) rfl 11 (by decide) k45 (fun _ h9 => h9) rfl dX3_tryTaps_44 ?_
      have J60 : ∀ (t4 : Int32) (H : Heap) (locs : List Loc) (ls : Array Slot), va_P G vwCl ((wSe cy a sp sq sk) ++ (wLn cy b v)) H → va_D A ((wSe cy a sp sq sk) ++ (wLn cy b v)) → va_S A s.heap H locs → lv_has ls 11 [(0, .ref (a 0)), (1, .ref (b 0)), (2, .int x01), (3, .int x02), (4, .int x03), (5, .ref (b (2 + zn x01)))] → j_X3_tryTaps_60 rcf sp sq sk v x01 x02 x03 t4 = some o → W p l e (zR 4) s m ([.ref (a 0), .ref (b 0), .int x01, .int x02, .int x03] : List Value).toArray below meth c H locs 0 0 (MQ below (zQv G cy A ((wSe cy a o.1 o.2.1 o.2.2) ++ (wLn cy b v))) ([.ref (a 0), .ref (b 0), .int x01, .int x02, .int x03] : List Value).toArray s 0 0 A) (F0 m 60 ls [.int t4]) := by
        intro t4 H locs ls hP hD hS hl hF
        unfold j_X3_tryTaps_60 at hF
        refine lv_istore (lv' := [(6, .int t4), (0, .ref (a 0)), (1, .ref (b 0)), (2, .int x01), (3, .int x02), (4, .int x03), (5, .ref (b (2 + zn x01)))]) hx hb dX3_tryTaps_60 hl (by decide) rfl (fun ls hl => ?_)
        refine lv_aload hx hb dX3_tryTaps_62 (lv_at hl 6 rfl) ?_
        refine va_get (ci := 4) (C := RX4) (T := TX4) (N := 15) (fs := (zSt (v (zn x01)))) (v := .int (v (zn x01) 11)) hx hb hts iX4 hown hK hP _ (zat_r (wSe_len cy a sp sq sk) (wLn_atS cy b v h3)) rfl 11 (by decide) k45 (fun _ h9 => h9) rfl dX3_tryTaps_64 ?_
        have J79 : ∀ (t5 : Int32) (H : Heap) (locs : List Loc) (ls : Array Slot), va_P G vwCl ((wSe cy a sp sq sk) ++ (wLn cy b v)) H → va_D A ((wSe cy a sp sq sk) ++ (wLn cy b v)) → va_S A s.heap H locs → lv_has ls 11 [(0, .ref (a 0)), (1, .ref (b 0)), (2, .int x01), (3, .int x02), (4, .int x03), (5, .ref (b (2 + zn x01))), (6, .int t4)] → j_X3_tryTaps_79 rcf sp sq sk v x01 x02 x03 t4 t5 = some o → W p l e (zR 4) s m ([.ref (a 0), .ref (b 0), .int x01, .int x02, .int x03] : List Value).toArray below meth c H locs 0 0 (MQ below (zQv G cy A ((wSe cy a o.1 o.2.1 o.2.2) ++ (wLn cy b v))) ([.ref (a 0), .ref (b 0), .int x01, .int x02, .int x03] : List Value).toArray s 0 0 A) (F0 m 79 ls [.int t5]) := by
          intro t5 H locs ls hP hD hS hl hF
          unfold j_X3_tryTaps_79 at hF
          refine lv_istore (lv' := [(7, .int t5), (0, .ref (a 0)), (1, .ref (b 0)), (2, .int x01), (3, .int x02), (4, .int x03), (5, .ref (b (2 + zn x01))), (6, .int t4)]) hx hb dX3_tryTaps_79 hl (by decide) rfl (fun ls hl => ?_)
          refine lv_iload hx hb dX3_tryTaps_81 (lv_at hl 7 rfl) ?_
          refine lv_istore (lv' := [(8, .int t4), (7, .int t5), (0, .ref (a 0)), (1, .ref (b 0)), (2, .int x01), (3, .int x02), (4, .int x03), (5, .ref (b (2 + zn x01))), (6, .int t4)]) hx hb dX3_tryTaps_83 hl (by decide) rfl (fun ls hl => ?_)
          have L85 : ∀ (n : Nat) (s85 : Int32 × (Nat → Int32) × (Nat → Int32) × Int32) (H : Heap) (locs : List Loc) (ls : Array Slot), va_P G vwCl ((wSe cy a s85.2.1 s85.2.2.1 s85.2.2.2) ++ (wLn cy b v)) H → va_D A ((wSe cy a s85.2.1 s85.2.2.1 s85.2.2.2) ++ (wLn cy b v)) → va_S A s.heap H locs → lv_has ls 11 [(0, .ref (a 0)), (1, .ref (b 0)), (2, .int x01), (3, .int x02), (4, .int x03), (5, .ref (b (2 + zn x01))), (7, .int t5), (8, .int s85.1)] → zloop (b_X3_tryTaps_85 rcf v x01 x02 x03 t5) n s85 = some o → W p l e (zR 4) s m ([.ref (a 0), .ref (b 0), .int x01, .int x02, .int x03] : List Value).toArray below meth c H locs 0 0 (MQ below (zQv G cy A ((wSe cy a o.1 o.2.1 o.2.2) ++ (wLn cy b v))) ([.ref (a 0), .ref (b 0), .int x01, .int x02, .int x03] : List Value).toArray s 0 0 A) (F0 m 85 ls []) := by
            intro n
            induction n with
            | zero => exact fun s85 H locs ls _ _ _ _ hF => (zloop_0 hF).elim
            | succ n ih85 =>
              intro s85 H locs ls hP hD hS hl hF
              have hF : b_X3_tryTaps_85 rcf v x01 x02 x03 t5 (zloop (b_X3_tryTaps_85 rcf v x01 x02 x03 t5) n) s85 = some o := hF
              generalize zloop (b_X3_tryTaps_85 rcf v x01 x02 x03 t5) n = rc85 at ih85 hF
              unfold b_X3_tryTaps_85 at hF
              refine lv_iload hx hb dX3_tryTaps_85 (lv_at hl 7 rfl) ?_
              refine lv_iload hx hb dX3_tryTaps_87 (lv_at hl 6 rfl) ?_
              refine zi_gt (tgt := 167) hx hb hF dX3_tryTaps_89 (by decide) (fun hF => ?_) (fun hF => ?_)
              · refine z_vret (o := o) (o1 := (s85.2.1, s85.2.2.1, s85.2.2.2)) (wf := (fun o => ((wSe cy a o.1 o.2.1 o.2.2) ++ (wLn cy b v)))) hx hb hr hlocks hK ?_ ?_ hS ?_ dX3_tryTaps_167
                · exact hP
                · exact hD
                · exact hF
              · refine lv_iload_n hx hb dX3_tryTaps_92 rfl (lv_at hl 3 rfl) ?_
                refine lv_sipush (v := 1000) hx hb dX3_tryTaps_93 (by decide) ?_
                refine lv_iload hx hb dX3_tryTaps_96 (lv_at hl 7 rfl) ?_
                refine lv_aload hx hb dX3_tryTaps_98 (lv_at hl 5 rfl) ?_
                refine va_get (ci := 4) (C := RX4) (T := TX4) (N := 15) (fs := (zSt (v (zn x01)))) (v := .int (v (zn x01) 0)) hx hb hts iX4 hown hK hP _ (zat_r (wSe_len cy a s85.2.1 s85.2.2.1 s85.2.2.2) (wLn_atS cy b v h3)) rfl 0 (by decide) k54 (fun _ h9 => h9) rfl dX3_tryTaps_100 ?_
                refine lv_imul hx hb dX3_tryTaps_103 ?_
                refine lv_iadd hx hb dX3_tryTaps_104 ?_
                refine z_cNi (As := [.int x02, .int (1000 + (s85.1 * (v (zn x01) 0)))]) (rest := []) (wc := ([] : va_W)) (wcf := fun o' => ([] : va_W)) (wf := fun o' => ((wSe cy a s85.2.1 s85.2.2.1 s85.2.2.2) ++ (wLn cy b v))) (rf := fun o' => o') hF (fun o' hz => c_X7_outOf l G cy st x02 (1000 + (s85.1 * (v (zn x01) 0))) o' hz) (fun o' => zCut_nil) ⟨hx, hb, hml, hown, hts⟩ ⟨va_cnB 2 hts gX3_tryTaps_X7_outOf_n57 rfl rfl rfl hSE.2.2.1.2.2.2.2.2 kNi (by decide +kernel) ⟨by decide, by decide⟩, kNs57, trivial⟩ hK hSE hA hP hD hS rfl hl.1 rfl (Nat.le_of_ble_eq_true rfl) dX3_tryTaps_105 ⟨Nat.le_refl _, Nat.le_refl _⟩ (fun o6 hF H locs hP hD hS => ?_)
                refine lv_istore (lv' := [(9, .int o6), (0, .ref (a 0)), (1, .ref (b 0)), (2, .int x01), (3, .int x02), (4, .int x03), (5, .ref (b (2 + zn x01))), (7, .int t5), (8, .int s85.1)]) hx hb dX3_tryTaps_108 hl (by decide) rfl (fun ls hl => ?_)
                refine lv_iload hx hb dX3_tryTaps_110 (lv_at hl 5 rfl) ?_
                refine lv_iload hx hb dX3_tryTaps_112 (lv_at hl 0 rfl) ?_
                refine lv_aload hx hb dX3_tryTaps_114 (lv_at hl 6 rfl) ?_
                refine va_get (ci := 4) (C := RX4) (T := TX4) (N := 15) (fs := (zSt (v (zn x01)))) (v := .int (v (zn x01) 1)) hx hb hts iX4 hown hK hP _ (zat_r (wSe_len cy a s85.2.1 s85.2.2.1 s85.2.2.2) (wLn_atS cy b v h3)) rfl 1 (by decide) k61 (fun _ h9 => h9) rfl dX3_tryTaps_116 ?_
                refine lv_isub hx hb dX3_tryTaps_119 ?_
                refine va_mabs hx hb (hml.trans hl.1.symm) hown k64 k64s kMi k64c (by decide) (Nat.le_of_ble_eq_true rfl) (Nat.zero_le _) (Nat.zero_le _) dX3_tryTaps_120 ?_
                refine lv_iadd hx hb dX3_tryTaps_123 ?_
                refine z_leti hF (fun x7 hF => ?_)
                refine lv_istore (lv' := [(10, .int x7), (9, .int o6), (0, .ref (a 0)), (1, .ref (b 0)), (2, .int x01), (3, .int x02), (4, .int x03), (5, .ref (b (2 + zn x01))), (7, .int t5), (8, .int s85.1)]) hx hb dX3_tryTaps_124 hl (by decide) rfl (fun ls hl => ?_)
                refine lv_iload hx hb dX3_tryTaps_126 (lv_at hl 0 rfl) ?_
                refine lv_aload_n hx hb dX3_tryTaps_128 rfl (lv_at hl 2 rfl) ?_
                refine va_get (ci := 3) (C := RX3) (T := TX3) (N := 3) (fs := (zSe a s85.2.2.2)) (v := .int s85.2.2.2) hx hb hts iX3 hown hK hP _ (zat_l (wSe_at0 cy a s85.2.1 s85.2.2.1 s85.2.2.2)) rfl 2 (by decide) k19 (fun _ h9 => h9) rfl dX3_tryTaps_129 ?_
                have J161 : ∀ (sp_8 : Nat → Int32) (sq_9 : Nat → Int32) (sk_10 : Int32) (H : Heap) (locs : List Loc) (ls : Array Slot), va_P G vwCl ((wSe cy a sp_8 sq_9 sk_10) ++ (wLn cy b v)) H → va_D A ((wSe cy a sp_8 sq_9 sk_10) ++ (wLn cy b v)) → va_S A s.heap H locs → lv_has ls 11 [(0, .ref (a 0)), (1, .ref (b 0)), (2, .int x01), (3, .int x02), (4, .int x03), (5, .ref (b (2 + zn x01))), (7, .int t5), (8, .int s85.1)] → j_X3_tryTaps_161 rc85 s85 sp_8 sq_9 sk_10 = some o → W p l e (zR 4) s m ([.ref (a 0), .ref (b 0), .int x01, .int x02, .int x03] : List Value).toArray below meth c H locs 0 0 (MQ below (zQv G cy A ((wSe cy a o.1 o.2.1 o.2.2) ++ (wLn cy b v))) ([.ref (a 0), .ref (b 0), .int x01, .int x02, .int x03] : List Value).toArray s 0 0 A) (F0 m 161 ls []) := by
                  intro sp_8 sq_9 sk_10 H locs ls hP hD hS hl hF
                  unfold j_X3_tryTaps_161 at hF
                  refine z_name hF (fun x11 ex11 hF => ?_)
                  refine lv_iinc (v := x11) (lv' := [(8, .int x11), (0, .ref (a 0)), (1, .ref (b 0)), (2, .int x01), (3, .int x02), (4, .int x03), (5, .ref (b (2 + zn x01))), (7, .int t5)]) hx hb dX3_tryTaps_161 hl (k := 7) rfl (by rw [ex11]; rfl) (by decide) rfl (fun ls hl => ?_)
                  refine lv_goto (tgt := 85) hx hb dX3_tryTaps_164 (by decide) ?_
                  exact ih85 (x11, sp_8, sq_9, sk_10) _ _ ls hP hD hS (lv_sub hl [1, 2, 3, 4, 5, 6, 7, 0] rfl) hF
                refine zi_ge (tgt := 161) hx hb hF dX3_tryTaps_132 (by decide) (fun hF => ?_) (fun hF => ?_)
                · exact J161 s85.2.1 s85.2.2.1 s85.2.2.2 _ _ ls hP hD hS (lv_sub hl [2, 3, 4, 5, 6, 7, 8, 9] rfl) hF
                · refine lv_aload_n hx hb dX3_tryTaps_135 rfl (lv_at hl 2 rfl) ?_
                  refine va_get (ci := 3) (C := RX3) (T := TX3) (N := 3) (fs := (zSe a s85.2.2.2)) (v := .ref (a 1)) hx hb hts iX3 hown hK hP _ (zat_l (wSe_at0 cy a s85.2.1 s85.2.2.1 s85.2.2.2)) rfl 0 (by decide) k9 (fun _ h9 => h9) rfl dX3_tryTaps_136 ?_
                  refine lv_iload_n hx hb dX3_tryTaps_139 rfl (lv_at hl 4 rfl) ?_
                  refine lv_iload hx hb dX3_tryTaps_140 (lv_at hl 9 rfl) ?_
                  refine z_iast (n := 4) (f := s85.2.1) (i := x01) (x := s85.1) (wf := (fun y => ((wSe cy a y s85.2.2.1 s85.2.2.2) ++ (wLn cy b v)))) hx hb hK hP hD hS _ 1 (zFoc_l (wSe_foc1 cy a s85.2.1 s85.2.2.1 s85.2.2.2 _)) rfl hF dX3_tryTaps_142 (fun sp_12 hF H locs hP hD hS => ?_)
                  refine lv_aload_n hx hb dX3_tryTaps_143 rfl (lv_at hl 2 rfl) ?_
                  refine lv_aload_n hx hb dX3_tryTaps_144 rfl (lv_at hl 3 rfl) ?_
                  refine lv_iload_n hx hb dX3_tryTaps_145 rfl (lv_at hl 4 rfl) ?_
                  refine lv_iconst (v := 1) hx hb dX3_tryTaps_146 (by decide) ?_
                  refine lv_iadd hx hb dX3_tryTaps_147 ?_
                  refine lv_iload hx hb dX3_tryTaps_148 (lv_at hl 1 rfl) ?_
                  refine lv_aload_n hx hb dX3_tryTaps_150 rfl (lv_at hl 3 rfl) ?_
                  refine lv_iload_n hx hb dX3_tryTaps_151 rfl (lv_at hl 4 rfl) ?_
                  refine z_cVi (b := b 0) (As := [.int x01]) (rest := [.int o6, .int (x01 + 1), .ref (b 0), .ref (a 0)]) (wc := (wLn cy b v)) (wcf := fun o' => (wLn cy b v)) (wf := fun o' => ((wSe cy a sp_12 s85.2.2.1 s85.2.2.2) ++ (wLn cy b v))) (rf := fun o' => o') hF (fun o' hz => c_X1_lostBehind l G cy st b v x01 o' hz) (fun o' => (zCut_r zCut_all)) ⟨hx, hb, hml, hown, hts⟩ (cwV 1 hts gX3_tryTaps_X1_lostBehind rfl rfl rfl (by decide +kernel) ⟨by decide, by decide⟩) (ci := 1) (q0 := 0) rfl (wLn_at0 cy b v) hK hSE hA hP hD hS rfl hl.1 rfl (Nat.le_of_ble_eq_true rfl) dX3_tryTaps_152 ⟨Nat.le_refl _, Nat.le_refl _⟩ (fun o13 hF H locs hP hD hS => ?_)
                  refine lv_isub hx hb dX3_tryTaps_155 ?_
                  refine lv_iload hx hb dX3_tryTaps_156 (lv_at hl 0 rfl) ?_
                  refine z_cSv (As := [.ref (a 0), .ref (b 0), .int (x01 + 1), .int (o6 - o13), .int x7]) (rest := []) (wc := ((wSe cy a sp_12 s85.2.2.1 s85.2.2.2) ++ (wLn cy b v))) (wcf := fun o' => ((wSe cy a o'.1 o'.2.1 o'.2.2) ++ (wLn cy b v))) (wf := fun o' => ((wSe cy a o'.1 o'.2.1 o'.2.2) ++ (wLn cy b v))) hF (fun o' hz => hM a b sp_12 s85.2.2.1 s85.2.2.2 v (x01 + 1) (o6 - o13) x7 o' hz) (fun o' => (zCut_b zCut_all zCut_all)) ⟨hx, hb, hml, hown, hts⟩ (va_cwS 5 hts gX3_tryTaps_X3_tryTaps rfl rfl rfl (by decide +kernel) ⟨by decide, by decide⟩) hK hSE hA hP hD hS rfl hl.1 rfl (Nat.le_of_ble_eq_true rfl) dX3_tryTaps_158 ⟨Nat.le_refl _, Nat.le_refl _⟩ (fun o14 hF H locs hP hD hS => ?_)
                  exact J161 o14.1 o14.2.1 o14.2.2 _ _ ls hP hD hS (lv_sub hl [2, 3, 4, 5, 6, 7, 8, 9] rfl) hF
          exact L85 1000 (t4, sp, sq, sk) _ _ ls hP hD hS (lv_sub hl [2, 3, 4, 5, 6, 7, 1, 0] rfl) hF
        refine zf_eq (tgt := 78) hx hb hF dX3_tryTaps_67 (by decide) (fun hF => ?_) (fun hF => ?_)
        · refine lv_iconst (v := 5) hx hb dX3_tryTaps_78 (by decide) ?_
          exact J79 5 _ _ ls hP hD hS (lv_sub hl [1, 2, 3, 4, 5, 6, 0] rfl) hF
        · refine lv_aload hx hb dX3_tryTaps_70 (lv_at hl 6 rfl) ?_
          refine va_get (ci := 4) (C := RX4) (T := TX4) (N := 15) (fs := (zSt (v (zn x01)))) (v := .int (v (zn x01) 7)) hx hb hts iX4 hown hK hP _ (zat_r (wSe_len cy a sp sq sk) (wLn_atS cy b v h3)) rfl 7 (by decide) k51 (fun _ h9 => h9) rfl dX3_tryTaps_72 ?_
          refine lv_goto (tgt := 79) hx hb dX3_tryTaps_75 (by decide) ?_
          exact J79 (v (zn x01) 7) _ _ ls hP hD hS (lv_sub hl [1, 2, 3, 4, 5, 6, 0] rfl) hF
      refine zf_eq (tgt := 58) hx hb hF dX3_tryTaps_47 (by decide) (fun hF => ?_) (fun hF => ?_)
      · refine lv_bipush (v := (-5)) hx hb dX3_tryTaps_58 (by decide) ?_
        exact J60 (-5) _ _ ls hP hD hS (lv_sub hl [1, 2, 3, 4, 5, 0] rfl) hF
      · refine lv_aload hx hb dX3_tryTaps_50 (lv_at hl 0 rfl) ?_
        refine va_get (ci := 4) (C := RX4) (T := TX4) (N := 15) (fs := (zSt (v (zn x01)))) (v := .int (v (zn x01) 7)) hx hb hts iX4 hown hK hP _ (zat_r (wSe_len cy a sp sq sk) (wLn_atS cy b v h3)) rfl 7 (by decide) k51 (fun _ h9 => h9) rfl dX3_tryTaps_52 ?_
        refine lv_goto (tgt := 60) hx hb dX3_tryTaps_55 (by decide) ?_
        exact J60 (v (zn x01) 7) _ _ ls hP hD hS (lv_sub hl [1, 2, 3, 4, 5, 0] rfl) hF
    · exact J13 _ _ ls hP hD hS (lv_sub hl [0, 4] rfl) hF
theorem c_X3_tryTaps_1 (l : Launch) (G : va_G) (cy : Nat → ClassId) (st : Nat → Nat) (a : Nat → Nat) (b : Nat → Nat) (sp : Nat → Int32) (sq : Nat → Int32) (sk : Int32) (v : R2) (x01 : Int32) (x02 : Int32) (x03 : Int32) (o : (Nat → Int32) × (Nat → Int32) × Int32) (hF : f_X3_tryTaps 1 sp sq sk v x01 x02 x03 = some o) : zMv l yX3_tryTaps wsX3_tryTaps (zR 4) G cy st [.ref (a 0), .ref (b 0), .int x01, .int x02, .int x03] ((wSe cy a sp sq sk) ++ (wLn cy b v)) ((wSe cy a o.1 o.2.1 o.2.2) ++ (wLn cy b v)) := cs_X3_tryTaps_1 l G cy st (f_X3_tryTaps 0) (fun _ _ _ _ _ _ _ _ _ _ h => absurd h (fun h => nomatch h)) a b sp sq sk v x01 x02 x03 o hF
set_option maxHeartbeats 4000000 in
set_option maxRecDepth 100000 in
theorem cs_X3_tryTaps_2 (l : Launch) (G : va_G) (cy : Nat → ClassId) (st : Nat → Nat) (rcf : (Nat → Int32) → (Nat → Int32) → Int32 → R2 → Int32 → Int32 → Int32 → Option ((Nat → Int32) × (Nat → Int32) × Int32)) (hM : ∀ (a : Nat → Nat) (b : Nat → Nat) (sp : Nat → Int32) (sq : Nat → Int32) (sk : Int32) (v : R2) (x01 : Int32) (x02 : Int32) (x03 : Int32) (o : (Nat → Int32) × (Nat → Int32) × Int32), rcf sp sq sk v x01 x02 x03 = some o → zMv l yX3_tryTaps wsX3_tryTaps (zR 4) G cy st [.ref (a 0), .ref (b 0), .int x01, .int x02, .int x03] ((wSe cy a sp sq sk) ++ (wLn cy b v)) ((wSe cy a o.1 o.2.1 o.2.2) ++ (wLn cy b v))) (a : Nat → Nat) (b : Nat → Nat) (sp : Nat → Int32) (sq : Nat → Int32) (sk : Int32) (v : R2) (x01 : Int32) (x02 : Int32) (x03 : Int32) (o : (Nat → Int32) × (Nat → Int32) × Int32) (hF : F_X3_tryTaps rcf sp sq sk v x01 x02 x03 = some o) : zMv l yX3_tryTaps wsX3_tryTaps (zR 5) G cy st [.ref (a 0), .ref (b 0), .int x01, .int x02, .int x03] ((wSe cy a sp sq sk) ++ (wLn cy b v)) ((wSe cy a o.1 o.2.1 o.2.2) ++ (wLn cy b v)) := by
  refine zM_of (cc := cX3_tryTaps) (maxL := 11) (ret := none) (Qc := fun A => zQv G cy A ((wSe cy a o.1 o.2.1 o.2.2) ++ (wLn cy b v))) (by decide) rfl (Nat.le_of_ble_eq_true rfl) ?_
  intro p e s m below meth c A ls hx hb hml hr hlocks hown hts hK hSE hA hP hD hS hl
  have hown : s.vm.findClass RX3 = some m.cls := hown
  have hl : lv_has ls 11 [(0, .ref (a 0)), (1, .ref (b 0)), (2, .int x01), (3, .int x02), (4, .int x03)] := hl
  have k32 := hts (.fieldLink RX3 32 "TapCascade$Line" "size" "I") (by decide +kernel)
  have iX1 : ∀ w ∈ wsX10, w ∈ wsX3_tryTaps := fun w h => List.mem_cons_of_mem _ (List.mem_append_left _ (List.mem_append_left _ (List.mem_append_right _ h)))
  have k19 := hts (.fieldLink RX3 19 "TapCascade$Search" "leastOff" "I") (by decide +kernel)
  have iX3 : ∀ w ∈ wsX30, w ∈ wsX3_tryTaps := fun w h => List.mem_cons_of_mem _ (List.mem_append_left _ (List.mem_append_right _ h))
  have k9 := hts (.fieldLink RX3 9 "TapCascade$Search" "taps" "[I") (by decide +kernel)
  have k15 := hts (.fieldLink RX3 15 "TapCascade$Search" "bestTaps" "[I") (by decide +kernel)
  have k35 := hts (.methodLink RX3 35 arraycopyName) (by decide +kernel)
  have kAn := hts (.native arraycopyName) (by decide +kernel)
  have kAs := hts (.static arraycopyName) (by decide +kernel)
  have kAi := hts (.initialized "java/lang/System") (by decide +kernel)
  have k41 := hts (.fieldLink RX3 41 "TapCascade$Line" "stages" "[LTapCascade$Stage;") (by decide +kernel)
  have k45 := hts (.fieldLink RX3 45 "TapCascade$Stage" "stuck" "Z") (by decide +kernel)
  have iX4 : ∀ w ∈ wsX40, w ∈ wsX3_tryTaps := fun w h => List.mem_cons_of_mem _ (List.mem_append_right _ h)
  have k54 := hts (.fieldLink RX3 54 "TapCascade$Stage" "step" "I") (by decide +kernel)
  have kNi := hts (.initialized RX7) (by decide +kernel)
  have kNs57 := hts (.static yX7_outOf) (by decide +kernel)
  have k61 := hts (.fieldLink RX3 61 "TapCascade$Stage" "target" "I") (by decide +kernel)
  have k64 := hts (.methodLink RX3 64 Lib.Math.abs.name) (by decide +kernel)
  have k64s := hts (.static Lib.Math.abs.name) (by decide +kernel)
  have kMi := hts (.initialized "java/lang/Math") (by decide +kernel)
  have k64c := hts (.code Lib.Math.abs.name Lib.Math.abs.code 1 (some .int)) (by decide +kernel)
  have k51 := hts (.fieldLink RX3 51 "TapCascade$Stage" "tap" "I") (by decide +kernel)
  unfold F_X3_tryTaps at hF
  refine lv_iload_n hx hb dX3_tryTaps_0 rfl (lv_at hl 2 rfl) ?_
  refine lv_aload_n hx hb dX3_tryTaps_1 rfl (lv_at hl 1 rfl) ?_
  refine va_get (ci := 1) (C := RX1) (T := TX1) (N := 6) (fs := (zLn b v)) (v := .int (v 9 0)) hx hb hts iX1 hown hK hP _ (zat_r (wSe_len cy a sp sq sk) (wLn_at0 cy b v)) rfl 3 (by decide) k32 (fun _ h9 => h9) rfl dX3_tryTaps_2 ?_
  have J13 : ∀ (H : Heap) (locs : List Loc) (ls : Array Slot), va_P G vwCl ((wSe cy a sp sq sk) ++ (wLn cy b v)) H → va_D A ((wSe cy a sp sq sk) ++ (wLn cy b v)) → va_S A s.heap H locs → lv_has ls 11 [(0, .ref (a 0)), (4, .int x03)] → j_X3_tryTaps_13 sp sq x03 = some o → W p l e (zR 5) s m ([.ref (a 0), .ref (b 0), .int x01, .int x02, .int x03] : List Value).toArray below meth c H locs 0 0 (MQ below (zQv G cy A ((wSe cy a o.1 o.2.1 o.2.2) ++ (wLn cy b v))) ([.ref (a 0), .ref (b 0), .int x01, .int x02, .int x03] : List Value).toArray s 0 0 A) (F0 m 13 ls []) := by
    intro H locs ls hP hD hS hl hF
    unfold j_X3_tryTaps_13 at hF
    refine lv_aload_n hx hb dX3_tryTaps_13 rfl (lv_at hl 0 rfl) ?_
    refine lv_iload hx hb dX3_tryTaps_14 (lv_at hl 1 rfl) ?_
    refine z_puti (ci := 3) (C := RX3) (T := TX3) (N := 3) (fs := (zSe a sk)) (x := x03) (wf := (fun y => ((wSe cy a sp sq y) ++ (wLn cy b v)))) hx hb hts iX3 tyX3 tyX3_ok nmX3 hown hK hP hD hS _ 2 (zFoc_l (wSe_foc0_2 cy a sp sq sk x03)) rfl (by decide) k19 (fun _ h9 => h9) rfl (by decide +kernel) (Nat.le_of_ble_eq_true rfl) hF dX3_tryTaps_16 (fun sk_1 hF H locs hP hD hS => ?_)
    refine lv_aload_n hx hb dX3_tryTaps_19 rfl (lv_at hl 0 rfl) ?_
    refine va_get (ci := 3) (C := RX3) (T := TX3) (N := 3) (fs := (zSe a sk_1)) (v := .ref (a 1)) hx hb hts iX3 hown hK hP _ (zat_l (wSe_at0 cy a sp sq sk_1)) rfl 0 (by decide) k9 (fun _ h9 => h9) rfl dX3_tryTaps_20 ?_
    refine lv_iconst (v := 0) hx hb dX3_tryTaps_23 (by decide) ?_
    refine lv_aload_n hx hb dX3_tryTaps_24 rfl (lv_at hl 0 rfl) ?_
    refine va_get (ci := 3) (C := RX3) (T := TX3) (N := 3) (fs := (zSe a sk_1)) (v := .ref (a 2)) hx hb hts iX3 hown hK hP _ (zat_l (wSe_at0 cy a sp sq sk_1)) rfl 1 (by decide) k15 (fun _ h9 => h9) rfl dX3_tryTaps_25 ?_
    refine lv_iconst (v := 0) hx hb dX3_tryTaps_28 (by decide) ?_
    refine lv_iconst (v := 4) hx hb dX3_tryTaps_29 (by decide) ?_
    refine z_copyi (wf := (fun y => ((wSe cy a sp y sk_1) ++ (wLn cy b v)))) (f := sp) (g0 := sq) (sp := 0) (dp := 0) (n := 4) hx hb (hml.trans hl.1.symm) hown k35 kAn kAs kAi hK hP hD hS _ _ 1 (zat_l (wSe_at1 cy a sp sq sk_1)) (zFoc_l (wSe_foc2 cy a sp sq sk_1 _)) rfl rfl (by decide) (by decide) (by decide) (by decide) (by decide) hF (by decide) (Nat.le_of_ble_eq_true rfl) dX3_tryTaps_30 (fun sq_2 hF H locs hP hD hS => ?_)
    refine z_vret (o := o) (o1 := (sp, sq_2, sk_1)) (wf := (fun o => ((wSe cy a o.1 o.2.1 o.2.2) ++ (wLn cy b v)))) hx hb hr hlocks hK ?_ ?_ hS ?_ dX3_tryTaps_33
    · exact hP
    · exact hD
    · exact hF
  refine zi_ge (tgt := 13) hx hb hF dX3_tryTaps_5 (by decide) (fun hF => ?_) (fun hF => ?_)
  · exact J13 _ _ ls hP hD hS (lv_sub hl [0, 4] rfl) hF
  · refine lv_iload_n hx hb dX3_tryTaps_8 rfl (lv_at hl 2 rfl) ?_
    refine lv_iconst (v := 4) hx hb dX3_tryTaps_9 (by decide) ?_
    refine zi_lt (tgt := 34) hx hb hF dX3_tryTaps_10 (by decide) (fun hF => ?_) (fun hF => ?_)
    · refine lv_aload_n hx hb dX3_tryTaps_34 rfl (lv_at hl 1 rfl) ?_
      refine va_get (ci := 1) (C := RX1) (T := TX1) (N := 6) (fs := (zLn b v)) (v := .ref (b 1)) hx hb hts iX1 hown hK hP _ (zat_r (wSe_len cy a sp sq sk) (wLn_at0 cy b v)) rfl 0 (by decide) k41 (fun _ h9 => h9) rfl dX3_tryTaps_35 ?_
      refine lv_iload_n hx hb dX3_tryTaps_38 rfl (lv_at hl 2 rfl) ?_
      refine z_aald (ad := (fun j => b (2 + j))) (n := 4) hx hb hK hP _ 5 (zat_r (wSe_len cy a sp sq sk) (wLn_at1 cy b v)) rfl hF dX3_tryTaps_39 (fun h3 hF => ?_)
      refine lv_astore (lv' := [(5, .ref (b (2 + zn x01))), (0, .ref (a 0)), (1, .ref (b 0)), (2, .int x01), (3, .int x02), (4, .int x03)]) hx hb dX3_tryTaps_40 hl (by decide) rfl (fun ls hl => ?_)
      refine lv_aload hx hb dX3_tryTaps_42 (lv_at hl 0 rfl) ?_
      refine va_get (ci := 4) (C := RX4) (T := TX4) (N := 15) (fs := (zSt (v (zn x01)))) (v := .int (v (zn x01) 11)) hx hb hts iX4 hown hK hP _ (zat_r (wSe_len cy a sp sq sk) (wLn_atS cy b v h3)) rfl 11 (by decide) k45 (fun _ h9 => h9) rfl dX3_tryTaps_44 ?_
      have J60 : ∀ (t4 : Int32) (H : Heap) (locs : List Loc) (ls : Array Slot), va_P G vwCl ((wSe cy a sp sq sk) ++ (wLn cy b v)) H → va_D A ((wSe cy a sp sq sk) ++ (wLn cy b v)) → va_S A s.heap H locs → lv_has ls 11 [(0, .ref (a 0)), (1, .ref (b 0)), (2, .int x01), (3, .int x02), (4, .int x03), (5, .ref (b (2 + zn x01)))] → j_X3_tryTaps_60 rcf sp sq sk v x01 x02 x03 t4 = some o → W p l e (zR 5) s m ([.ref (a 0), .ref (b 0), .int x01, .int x02, .int x03] : List Value).toArray below meth c H locs 0 0 (MQ below (zQv G cy A ((wSe cy a o.1 o.2.1 o.2.2) ++ (wLn cy b v))) ([.ref (a 0), .ref (b 0), .int x01, .int x02, .int x03] : List Value).toArray s 0 0 A) (F0 m 60 ls [.int t4]) := by
        intro t4 H locs ls hP hD hS hl hF
        unfold j_X3_tryTaps_60 at hF
        refine lv_istore (lv' := [(6, .int t4), (0, .ref (a 0)), (1, .ref (b 0)), (2, .int x01), (3, .int x02), (4, .int x03), (5, .ref (b (2 + zn x01)))]) hx hb dX3_tryTaps_60 hl (by decide) rfl (fun ls hl => ?_)
        refine lv_aload hx hb dX3_tryTaps_62 (lv_at hl 6 rfl) ?_
        refine va_get (ci := 4) (C := RX4) (T := TX4) (N := 15) (fs := (zSt (v (zn x01)))) (v := .int (v (zn x01) 11)) hx hb hts iX4 hown hK hP _ (zat_r (wSe_len cy a sp sq sk) (wLn_atS cy b v h3)) rfl 11 (by decide) k45 (fun _ h9 => h9) rfl dX3_tryTaps_64 ?_
        have J79 : ∀ (t5 : Int32) (H : Heap) (locs : List Loc) (ls : Array Slot), va_P G vwCl ((wSe cy a sp sq sk) ++ (wLn cy b v)) H → va_D A ((wSe cy a sp sq sk) ++ (wLn cy b v)) → va_S A s.heap H locs → lv_has ls 11 [(0, .ref (a 0)), (1, .ref (b 0)), (2, .int x01), (3, .int x02), (4, .int x03), (5, .ref (b (2 + zn x01))), (6, .int t4)] → j_X3_tryTaps_79 rcf sp sq sk v x01 x02 x03 t4 t5 = some o → W p l e (zR 5) s m ([.ref (a 0), .ref (b 0), .int x01, .int x02, .int x03] : List Value).toArray below meth c H locs 0 0 (MQ below (zQv G cy A ((wSe cy a o.1 o.2.1 o.2.2) ++ (wLn cy b v))) ([.ref (a 0), .ref (b 0), .int x01, .int x02, .int x03] : List Value).toArray s 0 0 A) (F0 m 79 ls [.int t5]) := by
          intro t5 H locs ls hP hD hS hl hF
          unfold j_X3_tryTaps_79 at hF
          refine lv_istore (lv' := [(7, .int t5), (0, .ref (a 0)), (1, .ref (b 0)), (2, .int x01), (3, .int x02), (4, .int x03), (5, .ref (b (2 + zn x01))), (6, .int t4)]) hx hb dX3_tryTaps_79 hl (by decide) rfl (fun ls hl => ?_)
          refine lv_iload hx hb dX3_tryTaps_81 (lv_at hl 7 rfl) ?_
          refine lv_istore (lv' := [(8, .int t4), (7, .int t5), (0, .ref (a 0)), (1, .ref (b 0)), (2, .int x01), (3, .int x02), (4, .int x03), (5, .ref (b (2 + zn x01))), (6, .int t4)]) hx hb dX3_tryTaps_83 hl (by decide) rfl (fun ls hl => ?_)
          have L85 : ∀ (n : Nat) (s85 : Int32 × (Nat → Int32) × (Nat → Int32) × Int32) (H : Heap) (locs : List Loc) (ls : Array Slot), va_P G vwCl ((wSe cy a s85.2.1 s85.2.2.1 s85.2.2.2) ++ (wLn cy b v)) H → va_D A ((wSe cy a s85.2.1 s85.2.2.1 s85.2.2.2) ++ (wLn cy b v)) → va_S A s.heap H locs → lv_has ls 11 [(0, .ref (a 0)), (1, .ref (b 0)), (2, .int x01), (3, .int x02), (4, .int x03), (5, .ref (b (2 + zn x01))), (7, .int t5), (8, .int s85.1)] → zloop (b_X3_tryTaps_85 rcf v x01 x02 x03 t5) n s85 = some o → W p l e (zR 5) s m ([.ref (a 0), .ref (b 0), .int x01, .int x02, .int x03] : List Value).toArray below meth c H locs 0 0 (MQ below (zQv G cy A ((wSe cy a o.1 o.2.1 o.2.2) ++ (wLn cy b v))) ([.ref (a 0), .ref (b 0), .int x01, .int x02, .int x03] : List Value).toArray s 0 0 A) (F0 m 85 ls []) := by
            intro n
            induction n with
            | zero => exact fun s85 H locs ls _ _ _ _ hF => (zloop_0 hF).elim
            | succ n ih85 =>
              intro s85 H locs ls hP hD hS hl hF
              have hF : b_X3_tryTaps_85 rcf v x01 x02 x03 t5 (zloop (b_X3_tryTaps_85 rcf v x01 x02 x03 t5) n) s85 = some o := hF
              generalize zloop (b_X3_tryTaps_85 rcf v x01 x02 x03 t5) n = rc85 at ih85 hF
              unfold b_X3_tryTaps_85 at hF
              refine lv_iload hx hb dX3_tryTaps_85 (lv_at hl 7 rfl) ?_
              refine lv_iload hx hb dX3_tryTaps_87 (lv_at hl 6 rfl) ?_
              refine zi_gt (tgt := 167) hx hb hF dX3_tryTaps_89 (by decide) (fun hF => ?_) (fun hF => ?_)
              · refine z_vret (o := o) (o1 := (s85.2.1, s85.2.2.1, s85.2.2.2)) (wf := (fun o => ((wSe cy a o.1 o.2.1 o.2.2) ++ (wLn cy b v)))) hx hb hr hlocks hK ?_ ?_ hS ?_ dX3_tryTaps_167
                · exact hP
                · exact hD
                · exact hF
              · refine lv_iload_n hx hb dX3_tryTaps_92 rfl (lv_at hl 3 rfl) ?_
                refine lv_sipush (v := 1000) hx hb dX3_tryTaps_93 (by decide) ?_
                refine lv_iload hx hb dX3_tryTaps_96 (lv_at hl 7 rfl) ?_
                refine lv_aload hx hb dX3_tryTaps_98 (lv_at hl 5 rfl) ?_
                refine va_get (ci := 4) (C := RX4) (T := TX4) (N := 15) (fs := (zSt (v (zn x01)))) (v := .int (v (zn x01) 0)) hx hb hts iX4 hown hK hP _ (zat_r (wSe_len cy a s85.2.1 s85.2.2.1 s85.2.2.2) (wLn_atS cy b v h3)) rfl 0 (by decide) k54 (fun _ h9 => h9) rfl dX3_tryTaps_100 ?_
                refine lv_imul hx hb dX3_tryTaps_103 ?_
                refine lv_iadd hx hb dX3_tryTaps_104 ?_
                refine z_cNi (As := [.int x02, .int (1000 + (s85.1 * (v (zn x01) 0)))]) (rest := []) (wc := ([] : va_W)) (wcf := fun o' => ([] : va_W)) (wf := fun o' => ((wSe cy a s85.2.1 s85.2.2.1 s85.2.2.2) ++ (wLn cy b v))) (rf := fun o' => o') hF (fun o' hz => c_X7_outOf l G cy st x02 (1000 + (s85.1 * (v (zn x01) 0))) o' hz) (fun o' => zCut_nil) ⟨hx, hb, hml, hown, hts⟩ ⟨va_cnB 2 hts gX3_tryTaps_X7_outOf_n57 rfl rfl rfl hSE.2.2.1.2.2.2.2.2 kNi (by decide +kernel) ⟨by decide, by decide⟩, kNs57, trivial⟩ hK hSE hA hP hD hS rfl hl.1 rfl (Nat.le_of_ble_eq_true rfl) dX3_tryTaps_105 ⟨Nat.le_refl _, Nat.le_refl _⟩ (fun o6 hF H locs hP hD hS => ?_)
                refine lv_istore (lv' := [(9, .int o6), (0, .ref (a 0)), (1, .ref (b 0)), (2, .int x01), (3, .int x02), (4, .int x03), (5, .ref (b (2 + zn x01))), (7, .int t5), (8, .int s85.1)]) hx hb dX3_tryTaps_108 hl (by decide) rfl (fun ls hl => ?_)
                refine lv_iload hx hb dX3_tryTaps_110 (lv_at hl 5 rfl) ?_
                refine lv_iload hx hb dX3_tryTaps_112 (lv_at hl 0 rfl) ?_
                refine lv_aload hx hb dX3_tryTaps_114 (lv_at hl 6 rfl) ?_
                refine va_get (ci := 4) (C := RX4) (T := TX4) (N := 15) (fs := (zSt (v (zn x01)))) (v := .int (v (zn x01) 1)) hx hb hts iX4 hown hK hP _ (zat_r (wSe_len cy a s85.2.1 s85.2.2.1 s85.2.2.2) (wLn_atS cy b v h3)) rfl 1 (by decide) k61 (fun _ h9 => h9) rfl dX3_tryTaps_116 ?_
                refine lv_isub hx hb dX3_tryTaps_119 ?_
                refine va_mabs hx hb (hml.trans hl.1.symm) hown k64 k64s kMi k64c (by decide) (Nat.le_of_ble_eq_true rfl) (Nat.zero_le _) (Nat.zero_le _) dX3_tryTaps_120 ?_
                refine lv_iadd hx hb dX3_tryTaps_123 ?_
                refine z_leti hF (fun x7 hF => ?_)
                refine lv_istore (lv' := [(10, .int x7), (9, .int o6), (0, .ref (a 0)), (1, .ref (b 0)), (2, .int x01), (3, .int x02), (4, .int x03), (5, .ref (b (2 + zn x01))), (7, .int t5), (8, .int s85.1)]) hx hb dX3_tryTaps_124 hl (by decide) rfl (fun ls hl => ?_)
                refine lv_iload hx hb dX3_tryTaps_126 (lv_at hl 0 rfl) ?_
                refine lv_aload_n hx hb dX3_tryTaps_128 rfl (lv_at hl 2 rfl) ?_
                refine va_get (ci := 3) (C := RX3) (T := TX3) (N := 3) (fs := (zSe a s85.2.2.2)) (v := .int s85.2.2.2) hx hb hts iX3 hown hK hP _ (zat_l (wSe_at0 cy a s85.2.1 s85.2.2.1 s85.2.2.2)) rfl 2 (by decide) k19 (fun _ h9 => h9) rfl dX3_tryTaps_129 ?_
                have J161 : ∀ (sp_8 : Nat → Int32) (sq_9 : Nat → Int32) (sk_10 : Int32) (H : Heap) (locs : List Loc) (ls : Array Slot), va_P G vwCl ((wSe cy a sp_8 sq_9 sk_10) ++ (wLn cy b v)) H → va_D A ((wSe cy a sp_8 sq_9 sk_10) ++ (wLn cy b v)) → va_S A s.heap H locs → lv_has ls 11 [(0, .ref (a 0)), (1, .ref (b 0)), (2, .int x01), (3, .int x02), (4, .int x03), (5, .ref (b (2 + zn x01))), (7, .int t5), (8, .int s85.1)] → j_X3_tryTaps_161 rc85 s85 sp_8 sq_9 sk_10 = some o → W p l e (zR 5) s m ([.ref (a 0), .ref (b 0), .int x01, .int x02, .int x03] : List Value).toArray below meth c H locs 0 0 (MQ below (zQv G cy A ((wSe cy a o.1 o.2.1 o.2.2) ++ (wLn cy b v))) ([.ref (a 0), .ref (b 0), .int x01, .int x02, .int x03] : List Value).toArray s 0 0 A) (F0 m 161 ls []) := by
                  intro sp_8 sq_9 sk_10 H locs ls hP hD hS hl hF
                  unfold j_X3_tryTaps_161 at hF
                  refine z_name hF (fun x11 ex11 hF => ?_)
                  refine lv_iinc (v := x11) (lv' := [(8, .int x11), (0, .ref (a 0)), (1, .ref (b 0)), (2, .int x01), (3, .int x02), (4, .int x03), (5, .ref (b (2 + zn x01))), (7, .int t5)]) hx hb dX3_tryTaps_161 hl (k := 7) rfl (by rw [ex11]; rfl) (by decide) rfl (fun ls hl => ?_)
                  refine lv_goto (tgt := 85) hx hb dX3_tryTaps_164 (by decide) ?_
                  exact ih85 (x11, sp_8, sq_9, sk_10) _ _ ls hP hD hS (lv_sub hl [1, 2, 3, 4, 5, 6, 7, 0] rfl) hF
                refine zi_ge (tgt := 161) hx hb hF dX3_tryTaps_132 (by decide) (fun hF => ?_) (fun hF => ?_)
                · exact J161 s85.2.1 s85.2.2.1 s85.2.2.2 _ _ ls hP hD hS (lv_sub hl [2, 3, 4, 5, 6, 7, 8, 9] rfl) hF
                · refine lv_aload_n hx hb dX3_tryTaps_135 rfl (lv_at hl 2 rfl) ?_
                  refine va_get (ci := 3) (C := RX3) (T := TX3) (N := 3) (fs := (zSe a s85.2.2.2)) (v := .ref (a 1)) hx hb hts iX3 hown hK hP _ (zat_l (wSe_at0 cy a s85.2.1 s85.2.2.1 s85.2.2.2)) rfl 0 (by decide) k9 (fun _ h9 => h9) rfl dX3_tryTaps_136 ?_
                  refine lv_iload_n hx hb dX3_tryTaps_139 rfl (lv_at hl 4 rfl) ?_
                  refine lv_iload hx hb dX3_tryTaps_140 (lv_at hl 9 rfl) ?_
                  refine z_iast (n := 4) (f := s85.2.1) (i := x01) (x := s85.1) (wf := (fun y => ((wSe cy a y s85.2.2.1 s85.2.2.2) ++ (wLn cy b v)))) hx hb hK hP hD hS _ 1 (zFoc_l (wSe_foc1 cy a s85.2.1 s85.2.2.1 s85.2.2.2 _)) rfl hF dX3_tryTaps_142 (fun sp_12 hF H locs hP hD hS => ?_)
                  refine lv_aload_n hx hb dX3_tryTaps_143 rfl (lv_at hl 2 rfl) ?_
                  refine lv_aload_n hx hb dX3_tryTaps_144 rfl (lv_at hl 3 rfl) ?_
                  refine lv_iload_n hx hb dX3_tryTaps_145 rfl (lv_at hl 4 rfl) ?_
                  refine lv_iconst (v := 1) hx hb dX3_tryTaps_146 (by decide) ?_
                  refine lv_iadd hx hb dX3_tryTaps_147 ?_
                  refine lv_iload hx hb dX3_tryTaps_148 (lv_at hl 1 rfl) ?_
                  refine lv_aload_n hx hb dX3_tryTaps_150 rfl (lv_at hl 3 rfl) ?_
                  refine lv_iload_n hx hb dX3_tryTaps_151 rfl (lv_at hl 4 rfl) ?_
                  refine z_cVi (b := b 0) (As := [.int x01]) (rest := [.int o6, .int (x01 + 1), .ref (b 0), .ref (a 0)]) (wc := (wLn cy b v)) (wcf := fun o' => (wLn cy b v)) (wf := fun o' => ((wSe cy a sp_12 s85.2.2.1 s85.2.2.2) ++ (wLn cy b v))) (rf := fun o' => o') hF (fun o' hz => c_X1_lostBehind l G cy st b v x01 o' hz) (fun o' => (zCut_r zCut_all)) ⟨hx, hb, hml, hown, hts⟩ (cwV 1 hts gX3_tryTaps_X1_lostBehind rfl rfl rfl (by decide +kernel) ⟨by decide, by decide⟩) (ci := 1) (q0 := 0) rfl (wLn_at0 cy b v) hK hSE hA hP hD hS rfl hl.1 rfl (Nat.le_of_ble_eq_true rfl) dX3_tryTaps_152 ⟨Nat.le_refl _, Nat.le_refl _⟩ (fun o13 hF H locs hP hD hS => ?_)
                  refine lv_isub hx hb dX3_tryTaps_155 ?_
                  refine lv_iload hx hb dX3_tryTaps_156 (lv_at hl 0 rfl) ?_
                  refine z_cSv (As := [.ref (a 0), .ref (b 0), .int (x01 + 1), .int (o6 - o13), .int x7]) (rest := []) (wc := ((wSe cy a sp_12 s85.2.2.1 s85.2.2.2) ++ (wLn cy b v))) (wcf := fun o' => ((wSe cy a o'.1 o'.2.1 o'.2.2) ++ (wLn cy b v))) (wf := fun o' => ((wSe cy a o'.1 o'.2.1 o'.2.2) ++ (wLn cy b v))) hF (fun o' hz => hM a b sp_12 s85.2.2.1 s85.2.2.2 v (x01 + 1) (o6 - o13) x7 o' hz) (fun o' => (zCut_b zCut_all zCut_all)) ⟨hx, hb, hml, hown, hts⟩ (va_cwS 5 hts gX3_tryTaps_X3_tryTaps rfl rfl rfl (by decide +kernel) ⟨by decide, by decide⟩) hK hSE hA hP hD hS rfl hl.1 rfl (Nat.le_of_ble_eq_true rfl) dX3_tryTaps_158 ⟨Nat.le_refl _, Nat.le_refl _⟩ (fun o14 hF H locs hP hD hS => ?_)
                  exact J161 o14.1 o14.2.1 o14.2.2 _ _ ls hP hD hS (lv_sub hl [2, 3, 4, 5, 6, 7, 8, 9] rfl) hF
          exact L85 1000 (t4, sp, sq, sk) _ _ ls hP hD hS (lv_sub hl [2, 3, 4, 5, 6, 7, 1, 0] rfl) hF
        refine zf_eq (tgt := 78) hx hb hF dX3_tryTaps_67 (by decide) (fun hF => ?_) (fun hF => ?_)
        · refine lv_iconst (v := 5) hx hb dX3_tryTaps_78 (by decide) ?_
          exact J79 5 _ _ ls hP hD hS (lv_sub hl [1, 2, 3, 4, 5, 6, 0] rfl) hF
        · refine lv_aload hx hb dX3_tryTaps_70 (lv_at hl 6 rfl) ?_
          refine va_get (ci := 4) (C := RX4) (T := TX4) (N := 15) (fs := (zSt (v (zn x01)))) (v := .int (v (zn x01) 7)) hx hb hts iX4 hown hK hP _ (zat_r (wSe_len cy a sp sq sk) (wLn_atS cy b v h3)) rfl 7 (by decide) k51 (fun _ h9 => h9) rfl dX3_tryTaps_72 ?_
          refine lv_goto (tgt := 79) hx hb dX3_tryTaps_75 (by decide) ?_
          exact J79 (v (zn x01) 7) _ _ ls hP hD hS (lv_sub hl [1, 2, 3, 4, 5, 6, 0] rfl) hF
      refine zf_eq (tgt := 58) hx hb hF dX3_tryTaps_47 (by decide) (fun hF => ?_) (fun hF => ?_)
      · refine lv_bipush (v := (-5)) hx hb dX3_tryTaps_58 (by decide) ?_
        exact J60 (-5) _ _ ls hP hD hS (lv_sub hl [1, 2, 3, 4, 5, 0] rfl) hF
      · refine lv_aload hx hb dX3_tryTaps_50 (lv_at hl 0 rfl) ?_
        refine va_get (ci := 4) (C := RX4) (T := TX4) (N := 15) (fs := (zSt (v (zn x01)))) (v := .int (v (zn x01) 7)) hx hb hts iX4 hown hK hP _ (zat_r (wSe_len cy a sp sq sk) (wLn_atS cy b v h3)) rfl 7 (by decide) k51 (fun _ h9 => h9) rfl dX3_tryTaps_52 ?_
        refine lv_goto (tgt := 60) hx hb dX3_tryTaps_55 (by decide) ?_
        exact J60 (v (zn x01) 7) _ _ ls hP hD hS (lv_sub hl [1, 2, 3, 4, 5, 0] rfl) hF
    · exact J13 _ _ ls hP hD hS (lv_sub hl [0, 4] rfl) hF
theorem c_X3_tryTaps_2 (l : Launch) (G : va_G) (cy : Nat → ClassId) (st : Nat → Nat) (a : Nat → Nat) (b : Nat → Nat) (sp : Nat → Int32) (sq : Nat → Int32) (sk : Int32) (v : R2) (x01 : Int32) (x02 : Int32) (x03 : Int32) (o : (Nat → Int32) × (Nat → Int32) × Int32) (hF : f_X3_tryTaps 2 sp sq sk v x01 x02 x03 = some o) : zMv l yX3_tryTaps wsX3_tryTaps (zR 5) G cy st [.ref (a 0), .ref (b 0), .int x01, .int x02, .int x03] ((wSe cy a sp sq sk) ++ (wLn cy b v)) ((wSe cy a o.1 o.2.1 o.2.2) ++ (wLn cy b v)) := cs_X3_tryTaps_2 l G cy st (f_X3_tryTaps 1) (fun a b sp sq sk v x01 x02 x03 o h => c_X3_tryTaps_1 l G cy st a b sp sq sk v x01 x02 x03 o h) a b sp sq sk v x01 x02 x03 o hF
set_option maxHeartbeats 4000000 in
set_option maxRecDepth 100000 in
theorem cs_X3_tryTaps_3 (l : Launch) (G : va_G) (cy : Nat → ClassId) (st : Nat → Nat) (rcf : (Nat → Int32) → (Nat → Int32) → Int32 → R2 → Int32 → Int32 → Int32 → Option ((Nat → Int32) × (Nat → Int32) × Int32)) (hM : ∀ (a : Nat → Nat) (b : Nat → Nat) (sp : Nat → Int32) (sq : Nat → Int32) (sk : Int32) (v : R2) (x01 : Int32) (x02 : Int32) (x03 : Int32) (o : (Nat → Int32) × (Nat → Int32) × Int32), rcf sp sq sk v x01 x02 x03 = some o → zMv l yX3_tryTaps wsX3_tryTaps (zR 5) G cy st [.ref (a 0), .ref (b 0), .int x01, .int x02, .int x03] ((wSe cy a sp sq sk) ++ (wLn cy b v)) ((wSe cy a o.1 o.2.1 o.2.2) ++ (wLn cy b v))) (a : Nat → Nat) (b : Nat → Nat) (sp : Nat → Int32) (sq : Nat → Int32) (sk : Int32) (v : R2) (x01 : Int32) (x02 : Int32) (x03 : Int32) (o : (Nat → Int32) × (Nat → Int32) × Int32) (hF : F_X3_tryTaps rcf sp sq sk v x01 x02 x03 = some o) : zMv l yX3_tryTaps wsX3_tryTaps (zR 6) G cy st [.ref (a 0), .ref (b 0), .int x01, .int x02, .int x03] ((wSe cy a sp sq sk) ++ (wLn cy b v)) ((wSe cy a o.1 o.2.1 o.2.2) ++ (wLn cy b v)) := by
  refine zM_of (cc := cX3_tryTaps) (maxL := 11) (ret := none) (Qc := fun A => zQv G cy A ((wSe cy a o.1 o.2.1 o.2.2) ++ (wLn cy b v))) (by decide) rfl (Nat.le_of_ble_eq_true rfl) ?_
  intro p e s m below meth c A ls hx hb hml hr hlocks hown hts hK hSE hA hP hD hS hl
  have hown : s.vm.findClass RX3 = some m.cls := hown
  have hl : lv_has ls 11 [(0, .ref (a 0)), (1, .ref (b 0)), (2, .int x01), (3, .int x02), (4, .int x03)] := hl
  have k32 := hts (.fieldLink RX3 32 "TapCascade$Line" "size" "I") (by decide +kernel)
  have iX1 : ∀ w ∈ wsX10, w ∈ wsX3_tryTaps := fun w h => List.mem_cons_of_mem _ (List.mem_append_left _ (List.mem_append_left _ (List.mem_append_right _ h)))
  have k19 := hts (.fieldLink RX3 19 "TapCascade$Search" "leastOff" "I") (by decide +kernel)
  have iX3 : ∀ w ∈ wsX30, w ∈ wsX3_tryTaps := fun w h => List.mem_cons_of_mem _ (List.mem_append_left _ (List.mem_append_right _ h))
  have k9 := hts (.fieldLink RX3 9 "TapCascade$Search" "taps" "[I") (by decide +kernel)
  have k15 := hts (.fieldLink RX3 15 "TapCascade$Search" "bestTaps" "[I") (by decide +kernel)
  have k35 := hts (.methodLink RX3 35 arraycopyName) (by decide +kernel)
  have kAn := hts (.native arraycopyName) (by decide +kernel)
  have kAs := hts (.static arraycopyName) (by decide +kernel)
  have kAi := hts (.initialized "java/lang/System") (by decide +kernel)
  have k41 := hts (.fieldLink RX3 41 "TapCascade$Line" "stages" "[LTapCascade$Stage;") (by decide +kernel)
  have k45 := hts (.fieldLink RX3 45 "TapCascade$Stage" "stuck" "Z") (by decide +kernel)
  have iX4 : ∀ w ∈ wsX40, w ∈ wsX3_tryTaps := fun w h => List.mem_cons_of_mem _ (List.mem_append_right _ h)
  have k54 := hts (.fieldLink RX3 54 "TapCascade$Stage" "step" "I") (by decide +kernel)
  have kNi := hts (.initialized RX7) (by decide +kernel)
  have kNs57 := hts (.static yX7_outOf) (by decide +kernel)
  have k61 := hts (.fieldLink RX3 61 "TapCascade$Stage" "target" "I") (by decide +kernel)
  have k64 := hts (.methodLink RX3 64 Lib.Math.abs.name) (by decide +kernel)
  have k64s := hts (.static Lib.Math.abs.name) (by decide +kernel)
  have kMi := hts (.initialized "java/lang/Math") (by decide +kernel)
  have k64c := hts (.code Lib.Math.abs.name Lib.Math.abs.code 1 (some .int)) (by decide +kernel)
  have k51 := hts (.fieldLink RX3 51 "TapCascade$Stage" "tap" "I") (by decide +kernel)
  unfold F_X3_tryTaps at hF
  refine lv_iload_n hx hb dX3_tryTaps_0 rfl (lv_at hl 2 rfl) ?_
  refine lv_aload_n hx hb dX3_tryTaps_1 rfl (lv_at hl 1 rfl) ?_
  refine va_get (ci := 1) (C := RX1) (T := TX1) (N := 6) (fs := (zLn b v)) (v := .int (v 9 0)) hx hb hts iX1 hown hK hP _ (zat_r (wSe_len cy a sp sq sk) (wLn_at0 cy b v)) rfl 3 (by decide) k32 (fun _ h9 => h9) rfl dX3_tryTaps_2 ?_
  have J13 : ∀ (H : Heap) (locs : List Loc) (ls : Array Slot), va_P G vwCl ((wSe cy a sp sq sk) ++ (wLn cy b v)) H → va_D A ((wSe cy a sp sq sk) ++ (wLn cy b v)) → va_S A s.heap H locs → lv_has ls 11 [(0, .ref (a 0)), (4, .int x03)] → j_X3_tryTaps_13 sp sq x03 = some o → W p l e (zR 6) s m ([.ref (a 0), .ref (b 0), .int x01, .int x02, .int x03] : List Value).toArray below meth c H locs 0 0 (MQ below (zQv G cy A ((wSe cy a o.1 o.2.1 o.2.2) ++ (wLn cy b v))) ([.ref (a 0), .ref (b 0), .int x01, .int x02, .int x03] : List Value).toArray s 0 0 A) (F0 m 13 ls []) := by
    intro H locs ls hP hD hS hl hF
    unfold j_X3_tryTaps_13 at hF
    refine lv_aload_n hx hb dX3_tryTaps_13 rfl (lv_at hl 0 rfl) ?_
    refine lv_iload hx hb dX3_tryTaps_14 (lv_at hl 1 rfl) ?_
    refine z_puti (ci := 3) (C := RX3) (T := TX3) (N := 3) (fs := (zSe a sk)) (x := x03) (wf := (fun y => ((wSe cy a sp sq y) ++ (wLn cy b v)))) hx hb hts iX3 tyX3 tyX3_ok nmX3 hown hK hP hD hS _ 2 (zFoc_l (wSe_foc0_2 cy a sp sq sk x03)) rfl (by decide) k19 (fun _ h9 => h9) rfl (by decide +kernel) (Nat.le_of_ble_eq_true rfl) hF dX3_tryTaps_16 (fun sk_1 hF H locs hP hD hS => ?_)
    refine lv_aload_n hx hb dX3_tryTaps_19 rfl (lv_at hl 0 rfl) ?_
    refine va_get (ci := 3) (C := RX3) (T := TX3) (N := 3) (fs := (zSe a sk_1)) (v := .ref (a 1)) hx hb hts iX3 hown hK hP _ (zat_l (wSe_at0 cy a sp sq sk_1)) rfl 0 (by decide) k9 (fun _ h9 => h9) rfl dX3_tryTaps_20 ?_
    refine lv_iconst (v := 0) hx hb dX3_tryTaps_23 (by decide) ?_
    refine lv_aload_n hx hb dX3_tryTaps_24 rfl (lv_at hl 0 rfl) ?_
    refine va_get (ci := 3) (C := RX3) (T := TX3) (N := 3) (fs := (zSe a sk_1)) (v := .ref (a 2)) hx hb hts iX3 hown hK hP _ (zat_l (wSe_at0 cy a sp sq sk_1)) rfl 1 (by decide) k15 (fun _ h9 => h9) rfl dX3_tryTaps_25 ?_
    refine lv_iconst (v := 0) hx hb dX3_tryTaps_28 (by decide) ?_
    refine lv_iconst (v := 4) hx hb dX3_tryTaps_29 (by decide) ?_
    refine z_copyi (wf := (fun y => ((wSe cy a sp y sk_1) ++ (wLn cy b v)))) (f := sp) (g0 := sq) (sp := 0) (dp := 0) (n := 4) hx hb (hml.trans hl.1.symm) hown k35 kAn kAs kAi hK hP hD hS _ _ 1 (zat_l (wSe_at1 cy a sp sq sk_1)) (zFoc_l (wSe_foc2 cy a sp sq sk_1 _)) rfl rfl (by decide) (by decide) (by decide) (by decide) (by decide) hF (by decide) (Nat.le_of_ble_eq_true rfl) dX3_tryTaps_30 (fun sq_2 hF H locs hP hD hS => ?_)
    refine z_vret (o := o) (o1 := (sp, sq_2, sk_1)) (wf := (fun o => ((wSe cy a o.1 o.2.1 o.2.2) ++ (wLn cy b v)))) hx hb hr hlocks hK ?_ ?_ hS ?_ dX3_tryTaps_33
    · exact hP
    · exact hD
    · exact hF
  refine zi_ge (tgt := 13) hx hb hF dX3_tryTaps_5 (by decide) (fun hF => ?_) (fun hF => ?_)
  · exact J13 _ _ ls hP hD hS (lv_sub hl [0, 4] rfl) hF
  · refine lv_iload_n hx hb dX3_tryTaps_8 rfl (lv_at hl 2 rfl) ?_
    refine lv_iconst (v := 4) hx hb dX3_tryTaps_9 (by decide) ?_
    refine zi_lt (tgt := 34) hx hb hF dX3_tryTaps_10 (by decide) (fun hF => ?_) (fun hF => ?_)
    · refine lv_aload_n hx hb dX3_tryTaps_34 rfl (lv_at hl 1 rfl) ?_
      refine va_get (ci := 1) (C := RX1) (T := TX1) (N := 6) (fs := (zLn b v)) (v := .ref (b 1)) hx hb hts iX1 hown hK hP _ (zat_r (wSe_len cy a sp sq sk) (wLn_at0 cy b v)) rfl 0 (by decide) k41 (fun _ h9 => h9) rfl dX3_tryTaps_35 ?_
      refine lv_iload_n hx hb dX3_tryTaps_38 rfl (lv_at hl 2 rfl) ?_
      refine z_aald (ad := (fun j => b (2 + j))) (n := 4) hx hb hK hP _ 5 (zat_r (wSe_len cy a sp sq sk) (wLn_at1 cy b v)) rfl hF dX3_tryTaps_39 (fun h3 hF => ?_)
      refine lv_astore (lv' := [(5, .ref (b (2 + zn x01))), (0, .ref (a 0)), (1, .ref (b 0)), (2, .int x01), (3, .int x02), (4, .int x03)]) hx hb dX3_tryTaps_40 hl (by decide) rfl (fun ls hl => ?_)
      refine lv_aload hx hb dX3_tryTaps_42 (lv_at hl 0 rfl) ?_
      refine va_get (ci := 4) (C := RX4) (T := TX4) (N := 15) (fs := (zSt (v (zn x01)))) (v := .int (v (zn x01) 11)) hx hb hts iX4 hown hK hP _ (zat_r (wSe_len cy a sp sq sk) (wLn_atS cy b v h3)) rfl 11 (by decide) k45 (fun _ h9 => h9) rfl dX3_tryTaps_44 ?_
      have J60 : ∀ (t4 : Int32) (H : Heap) (locs : List Loc) (ls : Array Slot), va_P G vwCl ((wSe cy a sp sq sk) ++ (wLn cy b v)) H → va_D A ((wSe cy a sp sq sk) ++ (wLn cy b v)) → va_S A s.heap H locs → lv_has ls 11 [(0, .ref (a 0)), (1, .ref (b 0)), (2, .int x01), (3, .int x02), (4, .int x03), (5, .ref (b (2 + zn x01)))] → j_X3_tryTaps_60 rcf sp sq sk v x01 x02 x03 t4 = some o → W p l e (zR 6) s m ([.ref (a 0), .ref (b 0), .int x01, .int x02, .int x03] : List Value).toArray below meth c H locs 0 0 (MQ below (zQv G cy A ((wSe cy a o.1 o.2.1 o.2.2) ++ (wLn cy b v))) ([.ref (a 0), .ref (b 0), .int x01, .int x02, .int x03] : List Value).toArray s 0 0 A) (F0 m 60 ls [.int t4]) := by
        intro t4 H locs ls hP hD hS hl hF
        unfold j_X3_tryTaps_60 at hF
        refine lv_istore (lv' := [(6, .int t4), (0, .ref (a 0)), (1, .ref (b 0)), (2, .int x01), (3, .int x02), (4, .int x03), (5, .ref (b (2 + zn x01)))]) hx hb dX3_tryTaps_60 hl (by decide) rfl (fun ls hl => ?_)
        refine lv_aload hx hb dX3_tryTaps_62 (lv_at hl 6 rfl) ?_
        refine va_get (ci := 4) (C := RX4) (T := TX4) (N := 15) (fs := (zSt (v (zn x01)))) (v := .int (v (zn x01) 11)) hx hb hts iX4 hown hK hP _ (zat_r (wSe_len cy a sp sq sk) (wLn_atS cy b v h3)) rfl 11 (by decide) k45 (fun _ h9 => h9) rfl dX3_tryTaps_64 ?_
        have J79 : ∀ (t5 : Int32) (H : Heap) (locs : List Loc) (ls : Array Slot), va_P G vwCl ((wSe cy a sp sq sk) ++ (wLn cy b v)) H → va_D A ((wSe cy a sp sq sk) ++ (wLn cy b v)) → va_S A s.heap H locs → lv_has ls 11 [(0, .ref (a 0)), (1, .ref (b 0)), (2, .int x01), (3, .int x02), (4, .int x03), (5, .ref (b (2 + zn x01))), (6, .int t4)] → j_X3_tryTaps_79 rcf sp sq sk v x01 x02 x03 t4 t5 = some o → W p l e (zR 6) s m ([.ref (a 0), .ref (b 0), .int x01, .int x02, .int x03] : List Value).toArray below meth c H locs 0 0 (MQ below (zQv G cy A ((wSe cy a o.1 o.2.1 o.2.2) ++ (wLn cy b v))) ([.ref (a 0), .ref (b 0), .int x01, .int x02, .int x03] : List Value).toArray s 0 0 A) (F0 m 79 ls [.int t5]) := by
          intro t5 H locs ls hP hD hS hl hF
          unfold j_X3_tryTaps_79 at hF
          refine lv_istore (lv' := [(7, .int t5), (0, .ref (a 0)), (1, .ref (b 0)), (2, .int x01), (3, .int x02), (4, .int x03), (5, .ref (b (2 + zn x01))), (6, .int t4)]) hx hb dX3_tryTaps_79 hl (by decide) rfl (fun ls hl => ?_)
          refine lv_iload hx hb dX3_tryTaps_81 (lv_at hl 7 rfl) ?_
          refine lv_istore (lv' := [(8, .int t4), (7, .int t5), (0, .ref (a 0)), (1, .ref (b 0)), (2, .int x01), (3, .int x02), (4, .int x03), (5, .ref (b (2 + zn x01))), (6, .int t4)]) hx hb dX3_tryTaps_83 hl (by decide) rfl (fun ls hl => ?_)
          have L85 : ∀ (n : Nat) (s85 : Int32 × (Nat → Int32) × (Nat → Int32) × Int32) (H : Heap) (locs : List Loc) (ls : Array Slot), va_P G vwCl ((wSe cy a s85.2.1 s85.2.2.1 s85.2.2.2) ++ (wLn cy b v)) H → va_D A ((wSe cy a s85.2.1 s85.2.2.1 s85.2.2.2) ++ (wLn cy b v)) → va_S A s.heap H locs → lv_has ls 11 [(0, .ref (a 0)), (1, .ref (b 0)), (2, .int x01), (3, .int x02), (4, .int x03), (5, .ref (b (2 + zn x01))), (7, .int t5), (8, .int s85.1)] → zloop (b_X3_tryTaps_85 rcf v x01 x02 x03 t5) n s85 = some o → W p l e (zR 6) s m ([.ref (a 0), .ref (b 0), .int x01, .int x02, .int x03] : List Value).toArray below meth c H locs 0 0 (MQ below (zQv G cy A ((wSe cy a o.1 o.2.1 o.2.2) ++ (wLn cy b v))) ([.ref (a 0), .ref (b 0), .int x01, .int x02, .int x03] : List Value).toArray s 0 0 A) (F0 m 85 ls []) := by
            intro n
            induction n with
            | zero => exact fun s85 H locs ls _ _ _ _ hF => (zloop_0 hF).elim
            | succ n ih85 =>
              intro s85 H locs ls hP hD hS hl hF
              have hF : b_X3_tryTaps_85 rcf v x01 x02 x03 t5 (zloop (b_X3_tryTaps_85 rcf v x01 x02 x03 t5) n) s85 = some o := hF
              generalize zloop (b_X3_tryTaps_85 rcf v x01 x02 x03 t5) n = rc85 at ih85 hF
              unfold b_X3_tryTaps_85 at hF
              refine lv_iload hx hb dX3_tryTaps_85 (lv_at hl 7 rfl) ?_
              refine lv_iload hx hb dX3_tryTaps_87 (lv_at hl 6 rfl) ?_
              refine zi_gt (tgt := 167) hx hb hF dX3_tryTaps_89 (by decide) (fun hF => ?_) (fun hF => ?_)
              · refine z_vret (o := o) (o1 := (s85.2.1, s85.2.2.1, s85.2.2.2)) (wf := (fun o => ((wSe cy a o.1 o.2.1 o.2.2) ++ (wLn cy b v)))) hx hb hr hlocks hK ?_ ?_ hS ?_ dX3_tryTaps_167
                · exact hP
                · exact hD
                · exact hF
              · refine lv_iload_n hx hb dX3_tryTaps_92 rfl (lv_at hl 3 rfl) ?_
                refine lv_sipush (v := 1000) hx hb dX3_tryTaps_93 (by decide) ?_
                refine lv_iload hx hb dX3_tryTaps_96 (lv_at hl 7 rfl) ?_
                refine lv_aload hx hb dX3_tryTaps_98 (lv_at hl 5 rfl) ?_
                refine va_get (ci := 4) (C := RX4) (T := TX4) (N := 15) (fs := (zSt (v (zn x01)))) (v := .int (v (zn x01) 0)) hx hb hts iX4 hown hK hP _ (zat_r (wSe_len cy a s85.2.1 s85.2.2.1 s85.2.2.2) (wLn_atS cy b v h3)) rfl 0 (by decide) k54 (fun _ h9 => h9) rfl dX3_tryTaps_100 ?_
                refine lv_imul hx hb dX3_tryTaps_103 ?_
                refine lv_iadd hx hb dX3_tryTaps_104 ?_
                refine z_cNi (As := [.int x02, .int (1000 + (s85.1 * (v (zn x01) 0)))]) (rest := []) (wc := ([] : va_W)) (wcf := fun o' => ([] : va_W)) (wf := fun o' => ((wSe cy a s85.2.1 s85.2.2.1 s85.2.2.2) ++ (wLn cy b v))) (rf := fun o' => o') hF (fun o' hz => c_X7_outOf l G cy st x02 (1000 + (s85.1 * (v (zn x01) 0))) o' hz) (fun o' => zCut_nil) ⟨hx, hb, hml, hown, hts⟩ ⟨va_cnB 2 hts gX3_tryTaps_X7_outOf_n57 rfl rfl rfl hSE.2.2.1.2.2.2.2.2 kNi (by decide +kernel) ⟨by decide, by decide⟩, kNs57, trivial⟩ hK hSE hA hP hD hS rfl hl.1 rfl (Nat.le_of_ble_eq_true rfl) dX3_tryTaps_105 ⟨Nat.le_refl _, Nat.le_refl _⟩ (fun o6 hF H locs hP hD hS => ?_)
                refine lv_istore (lv' := [(9, .int o6), (0, .ref (a 0)), (1, .ref (b 0)), (2, .int x01), (3, .int x02), (4, .int x03), (5, .ref (b (2 + zn x01))), (7, .int t5), (8, .int s85.1)]) hx hb dX3_tryTaps_108 hl (by decide) rfl (fun ls hl => ?_)
                refine lv_iload hx hb dX3_tryTaps_110 (lv_at hl 5 rfl) ?_
                refine lv_iload hx hb dX3_tryTaps_112 (lv_at hl 0 rfl) ?_
                refine lv_aload hx hb dX3_tryTaps_114 (lv_at hl 6 rfl) ?_
                refine va_get (ci := 4) (C := RX4) (T := TX4) (N := 15) (fs := (zSt (v (zn x01)))) (v := .int (v (zn x01) 1)) hx hb hts iX4 hown hK hP _ (zat_r (wSe_len cy a s85.2.1 s85.2.2.1 s85.2.2.2) (wLn_atS cy b v h3)) rfl 1 (by decide) k61 (fun _ h9 => h9) rfl dX3_tryTaps_116 ?_
                refine lv_isub hx hb dX3_tryTaps_119 ?_
                refine va_mabs hx hb (hml.trans hl.1.symm) hown k64 k64s kMi k64c (by decide) (Nat.le_of_ble_eq_true rfl) (Nat.zero_le _) (Nat.zero_le _) dX3_tryTaps_120 ?_
                refine lv_iadd hx hb dX3_tryTaps_123 ?_
                refine z_leti hF (fun x7 hF => ?_)
                refine lv_istore (lv' := [(10, .int x7), (9, .int o6), (0, .ref (a 0)), (1, .ref (b 0)), (2, .int x01), (3, .int x02), (4, .int x03), (5, .ref (b (2 + zn x01))), (7, .int t5), (8, .int s85.1)]) hx hb dX3_tryTaps_124 hl (by decide) rfl (fun ls hl => ?_)
                refine lv_iload hx hb dX3_tryTaps_126 (lv_at hl 0 rfl) ?_
                refine lv_aload_n hx hb dX3_tryTaps_128 rfl (lv_at hl 2 rfl) ?_
                refine va_get (ci := 3) (C := RX3) (T := TX3) (N := 3) (fs := (zSe a s85.2.2.2)) (v := .int s85.2.2.2) hx hb hts iX3 hown hK hP _ (zat_l (wSe_at0 cy a s85.2.1 s85.2.2.1 s85.2.2.2)) rfl 2 (by decide) k19 (fun _ h9 => h9) rfl dX3_tryTaps_129 ?_
                have J161 : ∀ (sp_8 : Nat → Int32) (sq_9 : Nat → Int32) (sk_10 : Int32) (H : Heap) (locs : List Loc) (ls : Array Slot), va_P G vwCl ((wSe cy a sp_8 sq_9 sk_10) ++ (wLn cy b v)) H → va_D A ((wSe cy a sp_8 sq_9 sk_10) ++ (wLn cy b v)) → va_S A s.heap H locs → lv_has ls 11 [(0, .ref (a 0)), (1, .ref (b 0)), (2, .int x01), (3, .int x02), (4, .int x03), (5, .ref (b (2 + zn x01))), (7, .int t5), (8, .int s85.1)] → j_X3_tryTaps_161 rc85 s85 sp_8 sq_9 sk_10 = some o → W p l e (zR 6) s m ([.ref (a 0), .ref (b 0), .int x01, .int x02, .int x03] : List Value).toArray below meth c H locs 0 0 (MQ below (zQv G cy A ((wSe cy a o.1 o.2.1 o.2.2) ++ (wLn cy b v))) ([.ref (a 0), .ref (b 0), .int x01, .int x02, .int x03] : List Value).toArray s 0 0 A) (F0 m 161 ls []) := by
                  intro sp_8 sq_9 sk_10 H locs ls hP hD hS hl hF
                  unfold j_X3_tryTaps_161 at hF
                  refine z_name hF (fun x11 ex11 hF => ?_)
                  refine lv_iinc (v := x11) (lv' := [(8, .int x11), (0, .ref (a 0)), (1, .ref (b 0)), (2, .int x01), (3, .int x02), (4, .int x03), (5, .ref (b (2 + zn x01))), (7, .int t5)]) hx hb dX3_tryTaps_161 hl (k := 7) rfl (by rw [ex11]; rfl) (by decide) rfl (fun ls hl => ?_)
                  refine lv_goto (tgt := 85) hx hb dX3_tryTaps_164 (by decide) ?_
                  exact ih85 (x11, sp_8, sq_9, sk_10) _ _ ls hP hD hS (lv_sub hl [1, 2, 3, 4, 5, 6, 7, 0] rfl) hF
                refine zi_ge (tgt := 161) hx hb hF dX3_tryTaps_132 (by decide) (fun hF => ?_) (fun hF => ?_)
                · exact J161 s85.2.1 s85.2.2.1 s85.2.2.2 _ _ ls hP hD hS (lv_sub hl [2, 3, 4, 5, 6, 7, 8, 9] rfl) hF
                · refine lv_aload_n hx hb dX3_tryTaps_135 rfl (lv_at hl 2 rfl) ?_
                  refine va_get (ci := 3) (C := RX3) (T := TX3) (N := 3) (fs := (zSe a s85.2.2.2)) (v := .ref (a 1)) hx hb hts iX3 hown hK hP _ (zat_l (wSe_at0 cy a s85.2.1 s85.2.2.1 s85.2.2.2)) rfl 0 (by decide) k9 (fun _ h9 => h9) rfl dX3_tryTaps_136 ?_
                  refine lv_iload_n hx hb dX3_tryTaps_139 rfl (lv_at hl 4 rfl) ?_
                  refine lv_iload hx hb dX3_tryTaps_140 (lv_at hl 9 rfl) ?_
                  refine z_iast (n := 4) (f := s85.2.1) (i := x01) (x := s85.1) (wf := (fun y => ((wSe cy a y s85.2.2.1 s85.2.2.2) ++ (wLn cy b v)))) hx hb hK hP hD hS _ 1 (zFoc_l (wSe_foc1 cy a s85.2.1 s85.2.2.1 s85.2.2.2 _)) rfl hF dX3_tryTaps_142 (fun sp_12 hF H locs hP hD hS => ?_)
                  refine lv_aload_n hx hb dX3_tryTaps_143 rfl (lv_at hl 2 rfl) ?_
                  refine lv_aload_n hx hb dX3_tryTaps_144 rfl (lv_at hl 3 rfl) ?_
                  refine lv_iload_n hx hb dX3_tryTaps_145 rfl (lv_at hl 4 rfl) ?_
                  refine lv_iconst (v := 1) hx hb dX3_tryTaps_146 (by decide) ?_
                  refine lv_iadd hx hb dX3_tryTaps_147 ?_
                  refine lv_iload hx hb dX3_tryTaps_148 (lv_at hl 1 rfl) ?_
                  refine lv_aload_n hx hb dX3_tryTaps_150 rfl (lv_at hl 3 rfl) ?_
                  refine lv_iload_n hx hb dX3_tryTaps_151 rfl (lv_at hl 4 rfl) ?_
                  refine z_cVi (b := b 0) (As := [.int x01]) (rest := [.int o6, .int (x01 + 1), .ref (b 0), .ref (a 0)]) (wc := (wLn cy b v)) (wcf := fun o' => (wLn cy b v)) (wf := fun o' => ((wSe cy a sp_12 s85.2.2.1 s85.2.2.2) ++ (wLn cy b v))) (rf := fun o' => o') hF (fun o' hz => c_X1_lostBehind l G cy st b v x01 o' hz) (fun o' => (zCut_r zCut_all)) ⟨hx, hb, hml, hown, hts⟩ (cwV 1 hts gX3_tryTaps_X1_lostBehind rfl rfl rfl (by decide +kernel) ⟨by decide, by decide⟩) (ci := 1) (q0 := 0) rfl (wLn_at0 cy b v) hK hSE hA hP hD hS rfl hl.1 rfl (Nat.le_of_ble_eq_true rfl) dX3_tryTaps_152 ⟨Nat.le_refl _, Nat.le_refl _⟩ (fun o13 hF H locs hP hD hS => ?_)
                  refine lv_isub hx hb dX3_tryTaps_155 ?_
                  refine lv_iload hx hb dX3_tryTaps_156 (lv_at hl 0 rfl) ?_
                  refine z_cSv (As := [.ref (a 0), .ref (b 0), .int (x01 + 1), .int (o6 - o13), .int x7]) (rest := []) (wc := ((wSe cy a sp_12 s85.2.2.1 s85.2.2.2) ++ (wLn cy b v))) (wcf := fun o' => ((wSe cy a o'.1 o'.2.1 o'.2.2) ++ (wLn cy b v))) (wf := fun o' => ((wSe cy a o'.1 o'.2.1 o'.2.2) ++ (wLn cy b v))) hF (fun o' hz => hM a b sp_12 s85.2.2.1 s85.2.2.2 v (x01 + 1) (o6 - o13) x7 o' hz) (fun o' => (zCut_b zCut_all zCut_all)) ⟨hx, hb, hml, hown, hts⟩ (va_cwS 5 hts gX3_tryTaps_X3_tryTaps rfl rfl rfl (by decide +kernel) ⟨by decide, by decide⟩) hK hSE hA hP hD hS rfl hl.1 rfl (Nat.le_of_ble_eq_true rfl) dX3_tryTaps_158 ⟨Nat.le_refl _, Nat.le_refl _⟩ (fun o14 hF H locs hP hD hS => ?_)
                  exact J161 o14.1 o14.2.1 o14.2.2 _ _ ls hP hD hS (lv_sub hl [2, 3, 4, 5, 6, 7, 8, 9] rfl) hF
          exact L85 1000 (t4, sp, sq, sk) _ _ ls hP hD hS (lv_sub hl [2, 3, 4, 5, 6, 7, 1, 0] rfl) hF
        refine zf_eq (tgt := 78) hx hb hF dX3_tryTaps_67 (by decide) (fun hF => ?_) (fun hF => ?_)
        · refine lv_iconst (v := 5) hx hb dX3_tryTaps_78 (by decide) ?_
          exact J79 5 _ _ ls hP hD hS (lv_sub hl [1, 2, 3, 4, 5, 6, 0] rfl) hF
        · refine lv_aload hx hb dX3_tryTaps_70 (lv_at hl 6 rfl) ?_
          refine va_get (ci := 4) (C := RX4) (T := TX4) (N := 15) (fs := (zSt (v (zn x01)))) (v := .int (v (zn x01) 7)) hx hb hts iX4 hown hK hP _ (zat_r (wSe_len cy a sp sq sk) (wLn_atS cy b v h3)) rfl 7 (by decide) k51 (fun _ h9 => h9) rfl dX3_tryTaps_72 ?_
          refine lv_goto (tgt := 79) hx hb dX3_tryTaps_75 (by decide) ?_
          exact J79 (v (zn x01) 7) _ _ ls hP hD hS (lv_sub hl [1, 2, 3, 4, 5, 6, 0] rfl) hF
      refine zf_eq (tgt := 58) hx hb hF dX3_tryTaps_47 (by decide) (fun hF => ?_) (fun hF => ?_)
      · refine lv_bipush (v := (-5)) hx hb dX3_tryTaps_58 (by decide) ?_
        exact J60 (-5) _ _ ls hP hD hS (lv_sub hl [1, 2, 3, 4, 5, 0] rfl) hF
      · refine lv_aload hx hb dX3_tryTaps_50 (lv_at hl 0 rfl) ?_
        refine va_get (ci := 4) (C := RX4) (T := TX4) (N := 15) (fs := (zSt (v (zn x01)))) (v := .int (v (zn x01) 7)) hx hb hts iX4 hown hK hP _ (zat_r (wSe_len cy a sp sq sk) (wLn_atS cy b v h3)) rfl 7 (by decide) k51 (fun _ h9 => h9) rfl dX3_tryTaps_52 ?_
        refine lv_goto (tgt := 60) hx hb dX3_tryTaps_55 (by decide) ?_
        exact J60 (v (zn x01) 7) _ _ ls hP hD hS (lv_sub hl [1, 2, 3, 4, 5, 0] rfl) hF
    · exact J13 _ _ ls hP hD hS (lv_sub hl [0, 4] rfl) hF
theorem c_X3_tryTaps_3 (l : Launch) (G : va_G) (cy : Nat → ClassId) (st : Nat → Nat) (a : Nat → Nat) (b : Nat → Nat) (sp : Nat → Int32) (sq : Nat → Int32) (sk : Int32) (v : R2) (x01 : Int32) (x02 : Int32) (x03 : Int32) (o : (Nat → Int32) × (Nat → Int32) × Int32) (hF : f_X3_tryTaps 3 sp sq sk v x01 x02 x03 = some o) : zMv l yX3_tryTaps wsX3_tryTaps (zR 6) G cy st [.ref (a 0), .ref (b 0), .int x01, .int x02, .int x03] ((wSe cy a sp sq sk) ++ (wLn cy b v)) ((wSe cy a o.1 o.2.1 o.2.2) ++ (wLn cy b v)) := cs_X3_tryTaps_3 l G cy st (f_X3_tryTaps 2) (fun a b sp sq sk v x01 x02 x03 o h => c_X3_tryTaps_2 l G cy st a b sp sq sk v x01 x02 x03 o h) a b sp sq sk v x01 x02 x03 o hF
set_option maxHeartbeats 4000000 in
set_option maxRecDepth 100000 in
theorem cs_X3_tryTaps_4 (l : Launch) (G : va_G) (cy : Nat → ClassId) (st : Nat → Nat) (rcf : (Nat → Int32) → (Nat → Int32) → Int32 → R2 → Int32 → Int32 → Int32 → Option ((Nat → Int32) × (Nat → Int32) × Int32)) (hM : ∀ (a : Nat → Nat) (b : Nat → Nat) (sp : Nat → Int32) (sq : Nat → Int32) (sk : Int32) (v : R2) (x01 : Int32) (x02 : Int32) (x03 : Int32) (o : (Nat → Int32) × (Nat → Int32) × Int32), rcf sp sq sk v x01 x02 x03 = some o → zMv l yX3_tryTaps wsX3_tryTaps (zR 6) G cy st [.ref (a 0), .ref (b 0), .int x01, .int x02, .int x03] ((wSe cy a sp sq sk) ++ (wLn cy b v)) ((wSe cy a o.1 o.2.1 o.2.2) ++ (wLn cy b v))) (a : Nat → Nat) (b : Nat → Nat) (sp : Nat → Int32) (sq : Nat → Int32) (sk : Int32) (v : R2) (x01 : Int32) (x02 : Int32) (x03 : Int32) (o : (Nat → Int32) × (Nat → Int32) × Int32) (hF : F_X3_tryTaps rcf sp sq sk v x01 x02 x03 = some o) : zMv l yX3_tryTaps wsX3_tryTaps (zR 7) G cy st [.ref (a 0), .ref (b 0), .int x01, .int x02, .int x03] ((wSe cy a sp sq sk) ++ (wLn cy b v)) ((wSe cy a o.1 o.2.1 o.2.2) ++ (wLn cy b v)) := by
  refine zM_of (cc := cX3_tryTaps) (maxL := 11) (ret := none) (Qc := fun A => zQv G cy A ((wSe cy a o.1 o.2.1 o.2.2) ++ (wLn cy b v))) (by decide) rfl (Nat.le_of_ble_eq_true rfl) ?_
  intro p e s m below meth c A ls hx hb hml hr hlocks hown hts hK hSE hA hP hD hS hl
  have hown : s.vm.findClass RX3 = some m.cls := hown
  have hl : lv_has ls 11 [(0, .ref (a 0)), (1, .ref (b 0)), (2, .int x01), (3, .int x02), (4, .int x03)] := hl
  have k32 := hts (.fieldLink RX3 32 "TapCascade$Line" "size" "I") (by decide +kernel)
  have iX1 : ∀ w ∈ wsX10, w ∈ wsX3_tryTaps := fun w h => List.mem_cons_of_mem _ (List.mem_append_left _ (List.mem_append_left _ (List.mem_append_right _ h)))
  have k19 := hts (.fieldLink RX3 19 "TapCascade$Search" "leastOff" "I") (by decide +kernel)
  have iX3 : ∀ w ∈ wsX30, w ∈ wsX3_tryTaps := fun w h => List.mem_cons_of_mem _ (List.mem_append_left _ (List.mem_append_right _ h))
  have k9 := hts (.fieldLink RX3 9 "TapCascade$Search" "taps" "[I") (by decide +kernel)
  have k15 := hts (.fieldLink RX3 15 "TapCascade$Search" "bestTaps" "[I") (by decide +kernel)
  have k35 := hts (.methodLink RX3 35 arraycopyName) (by decide +kernel)
  have kAn := hts (.native arraycopyName) (by decide +kernel)
  have kAs := hts (.static arraycopyName) (by decide +kernel)
  have kAi := hts (.initialized "java/lang/System") (by decide +kernel)
  have k41 := hts (.fieldLink RX3 41 "TapCascade$Line" "stages" "[LTapCascade$Stage;") (by decide +kernel)
  have k45 := hts (.fieldLink RX3 45 "TapCascade$Stage" "stuck" "Z") (by decide +kernel)
  have iX4 : ∀ w ∈ wsX40, w ∈ wsX3_tryTaps := fun w h => List.mem_cons_of_mem _ (List.mem_append_right _ h)
  have k54 := hts (.fieldLink RX3 54 "TapCascade$Stage" "step" "I") (by decide +kernel)
  have kNi := hts (.initialized RX7) (by decide +kernel)
  have kNs57 := hts (.static yX7_outOf) (by decide +kernel)
  have k61 := hts (.fieldLink RX3 61 "TapCascade$Stage" "target" "I") (by decide +kernel)
  have k64 := hts (.methodLink RX3 64 Lib.Math.abs.name) (by decide +kernel)
  have k64s := hts (.static Lib.Math.abs.name) (by decide +kernel)
  have kMi := hts (.initialized "java/lang/Math") (by decide +kernel)
  have k64c := hts (.code Lib.Math.abs.name Lib.Math.abs.code 1 (some .int)) (by decide +kernel)
  have k51 := hts (.fieldLink RX3 51 "TapCascade$Stage" "tap" "I") (by decide +kernel)
  unfold F_X3_tryTaps at hF
  refine lv_iload_n hx hb dX3_tryTaps_0 rfl (lv_at hl 2 rfl) ?_
  refine lv_aload_n hx hb dX3_tryTaps_1 rfl (lv_at hl 1 rfl) ?_
  refine va_get (ci := 1) (C := RX1) (T := TX1) (N := 6) (fs := (zLn b v)) (v := .int (v 9 0)) hx hb hts iX1 hown hK hP _ (zat_r (wSe_len cy a sp sq sk) (wLn_at0 cy b v)) rfl 3 (by decide) k32 (fun _ h9 => h9) rfl dX3_tryTaps_2 ?_
  have J13 : ∀ (H : Heap) (locs : List Loc) (ls : Array Slot), va_P G vwCl ((wSe cy a sp sq sk) ++ (wLn cy b v)) H → va_D A ((wSe cy a sp sq sk) ++ (wLn cy b v)) → va_S A s.heap H locs → lv_has ls 11 [(0, .ref (a 0)), (4, .int x03)] → j_X3_tryTaps_13 sp sq x03 = some o → W p l e (zR 7) s m ([.ref (a 0), .ref (b 0), .int x01, .int x02, .int x03] : List Value).toArray below meth c H locs 0 0 (MQ below (zQv G cy A ((wSe cy a o.1 o.2.1 o.2.2) ++ (wLn cy b v))) ([.ref (a 0), .ref (b 0), .int x01, .int x02, .int x03] : List Value).toArray s 0 0 A) (F0 m 13 ls []) := by
    intro H locs ls hP hD hS hl hF
    unfold j_X3_tryTaps_13 at hF
    refine lv_aload_n hx hb dX3_tryTaps_13 rfl (lv_at hl 0 rfl) ?_
    refine lv_iload hx hb dX3_tryTaps_14 (lv_at hl 1 rfl) ?_
    refine z_puti (ci := 3) (C := RX3) (T := TX3) (N := 3) (fs := (zSe a sk)) (x := x03) (wf := (fun y => ((wSe cy a sp sq y) ++ (wLn cy b v)))) hx hb hts iX3 tyX3 tyX3_ok nmX3 hown hK hP hD hS _ 2 (zFoc_l (wSe_foc0_2 cy a sp sq sk x03)) rfl (by decide) k19 (fun _ h9 => h9) rfl (by decide +kernel) (Nat.le_of_ble_eq_true rfl) hF dX3_tryTaps_16 (fun sk_1 hF H locs hP hD hS => ?_)
    refine lv_aload_n hx hb dX3_tryTaps_19 rfl (lv_at hl 0 rfl) ?_
    refine va_get (ci := 3) (C := RX3) (T := TX3) (N := 3) (fs := (zSe a sk_1)) (v := .ref (a 1)) hx hb hts iX3 hown hK hP _ (zat_l (wSe_at0 cy a sp sq sk_1)) rfl 0 (by decide) k9 (fun _ h9 => h9) rfl dX3_tryTaps_20 ?_
    refine lv_iconst (v := 0) hx hb dX3_tryTaps_23 (by decide) ?_
    refine lv_aload_n hx hb dX3_tryTaps_24 rfl (lv_at hl 0 rfl) ?_
    refine va_get (ci := 3) (C := RX3) (T := TX3) (N := 3) (fs := (zSe a sk_1)) (v := .ref (a 2)) hx hb hts iX3 hown hK hP _ (zat_l (wSe_at0 cy a sp sq sk_1)) rfl 1 (by decide) k15 (fun _ h9 => h9) rfl dX3_tryTaps_25 ?_
    refine lv_iconst (v := 0) hx hb dX3_tryTaps_28 (by decide) ?_
    refine lv_iconst (v := 4) hx hb dX3_tryTaps_29 (by decide) ?_
    refine z_copyi (wf := (fun y => ((wSe cy a sp y sk_1) ++ (wLn cy b v)))) (f := sp) (g0 := sq) (sp := 0) (dp := 0) (n := 4) hx hb (hml.trans hl.1.symm) hown k35 kAn kAs kAi hK hP hD hS _ _ 1 (zat_l (wSe_at1 cy a sp sq sk_1)) (zFoc_l (wSe_foc2 cy a sp sq sk_1 _)) rfl rfl (by decide) (by decide) (by decide) (by decide) (by decide) hF (by decide) (Nat.le_of_ble_eq_true rfl) dX3_tryTaps_30 (fun sq_2 hF H locs hP hD hS => ?_)
    refine z_vret (o := o) (o1 := (sp, sq_2, sk_1)) (wf := (fun o => ((wSe cy a o.1 o.2.1 o.2.2) ++ (wLn cy b v)))) hx hb hr hlocks hK ?_ ?_ hS ?_ dX3_tryTaps_33
    · exact hP
    · exact hD
    · exact hF
  refine zi_ge (tgt := 13) hx hb hF dX3_tryTaps_5 (by decide) (fun hF => ?_) (fun hF => ?_)
  · exact J13 _ _ ls hP hD hS (lv_sub hl [0, 4] rfl) hF
  · refine lv_iload_n hx hb dX3_tryTaps_8 rfl (lv_at hl 2 rfl) ?_
    refine lv_iconst (v := 4) hx hb dX3_tryTaps_9 (by decide) ?_
    refine zi_lt (tgt := 34) hx hb hF dX3_tryTaps_10 (by decide) (fun hF => ?_) (fun hF => ?_)
    · refine lv_aload_n hx hb dX3_tryTaps_34 rfl (lv_at hl 1 rfl) ?_
      refine va_get (ci := 1) (C := RX1) (T := TX1) (N := 6) (fs := (zLn b v)) (v := .ref (b 1)) hx hb hts iX1 hown hK hP _ (zat_r (wSe_len cy a sp sq sk) (wLn_at0 cy b v)) rfl 0 (by decide) k41 (fun _ h9 => h9) rfl dX3_tryTaps_35 ?_
      refine lv_iload_n hx hb dX3_tryTaps_38 rfl (lv_at hl 2 rfl) ?_
      refine z_aald (ad := (fun j => b (2 + j))) (n := 4) hx hb hK hP _ 5 (zat_r (wSe_len cy a sp sq sk) (wLn_at1 cy b v)) rfl hF dX3_tryTaps_39 (fun h3 hF => ?_)
      refine lv_astore (lv' := [(5, .ref (b (2 + zn x01))), (0, .ref (a 0)), (1, .ref (b 0)), (2, .int x01), (3, .int x02), (4, .int x03)]) hx hb dX3_tryTaps_40 hl (by decide) rfl (fun ls hl => ?_)
      refine lv_aload hx hb dX3_tryTaps_42 (lv_at hl 0 rfl) ?_
      refine va_get (ci := 4) (C := RX4) (T := TX4) (N := 15) (fs := (zSt (v (zn x01)))) (v := .int (v (zn x01) 11)) hx hb hts iX4 hown hK hP _ (zat_r (wSe_len cy a sp sq sk) (wLn_atS cy b v h3)) rfl 11 (by decide) k45 (fun _ h9 => h9) rfl dX3_tryTaps_44 ?_
      have J60 : ∀ (t4 : Int32) (H : Heap) (locs : List Loc) (ls : Array Slot), va_P G vwCl ((wSe cy a sp sq sk) ++ (wLn cy b v)) H → va_D A ((wSe cy a sp sq sk) ++ (wLn cy b v)) → va_S A s.heap H locs → lv_has ls 11 [(0, .ref (a 0)), (1, .ref (b 0)), (2, .int x01), (3, .int x02), (4, .int x03), (5, .ref (b (2 + zn x01)))] → j_X3_tryTaps_60 rcf sp sq sk v x01 x02 x03 t4 = some o → W p l e (zR 7) s m ([.ref (a 0), .ref (b 0), .int x01, .int x02, .int x03] : List Value).toArray below meth c H locs 0 0 (MQ below (zQv G cy A ((wSe cy a o.1 o.2.1 o.2.2) ++ (wLn cy b v))) ([.ref (a 0), .ref (b 0), .int x01, .int x02, .int x03] : List Value).toArray s 0 0 A) (F0 m 60 ls [.int t4]) := by
        intro t4 H locs ls hP hD hS hl hF
        unfold j_X3_tryTaps_60 at hF
        refine lv_istore (lv' := [(6, .int t4), (0, .ref (a 0)), (1, .ref (b 0)), (2, .int x01), (3, .int x02), (4, .int x03), (5, .ref (b (2 + zn x01)))]) hx hb dX3_tryTaps_60 hl (by decide) rfl (fun ls hl => ?_)
        refine lv_aload hx hb dX3_tryTaps_62 (lv_at hl 6 rfl) ?_
        refine va_get (ci := 4) (C := RX4) (T := TX4) (N := 15) (fs := (zSt (v (zn x01)))) (v := .int (v (zn x01) 11)) hx hb hts iX4 hown hK hP _ (zat_r (wSe_len cy a sp sq sk) (wLn_atS cy b v h3)) rfl 11 (by decide) k45 (fun _ h9 => h9) rfl dX3_tryTaps_64 ?_
        have J79 : ∀ (t5 : Int32) (H : Heap) (locs : List Loc) (ls : Array Slot), va_P G vwCl ((wSe cy a sp sq sk) ++ (wLn cy b v)) H → va_D A ((wSe cy a sp sq sk) ++ (wLn cy b v)) → va_S A s.heap H locs → lv_has ls 11 [(0, .ref (a 0)), (1, .ref (b 0)), (2, .int x01), (3, .int x02), (4, .int x03), (5, .ref (b (2 + zn x01))), (6, .int t4)] → j_X3_tryTaps_79 rcf sp sq sk v x01 x02 x03 t4 t5 = some o → W p l e (zR 7) s m ([.ref (a 0), .ref (b 0), .int x01, .int x02, .int x03] : List Value).toArray below meth c H locs 0 0 (MQ below (zQv G cy A ((wSe cy a o.1 o.2.1 o.2.2) ++ (wLn cy b v))) ([.ref (a 0), .ref (b 0), .int x01, .int x02, .int x03] : List Value).toArray s 0 0 A) (F0 m 79 ls [.int t5]) := by
          intro t5 H locs ls hP hD hS hl hF
          unfold j_X3_tryTaps_79 at hF
          refine lv_istore (lv' := [(7, .int t5), (0, .ref (a 0)), (1, .ref (b 0)), (2, .int x01), (3, .int x02), (4, .int x03), (5, .ref (b (2 + zn x01))), (6, .int t4)]) hx hb dX3_tryTaps_79 hl (by decide) rfl (fun ls hl => ?_)
          refine lv_iload hx hb dX3_tryTaps_81 (lv_at hl 7 rfl) ?_
          refine lv_istore (lv' := [(8, .int t4), (7, .int t5), (0, .ref (a 0)), (1, .ref (b 0)), (2, .int x01), (3, .int x02), (4, .int x03), (5, .ref (b (2 + zn x01))), (6, .int t4)]) hx hb dX3_tryTaps_83 hl (by decide) rfl (fun ls hl => ?_)
          have L85 : ∀ (n : Nat) (s85 : Int32 × (Nat → Int32) × (Nat → Int32) × Int32) (H : Heap) (locs : List Loc) (ls : Array Slot), va_P G vwCl ((wSe cy a s85.2.1 s85.2.2.1 s85.2.2.2) ++ (wLn cy b v)) H → va_D A ((wSe cy a s85.2.1 s85.2.2.1 s85.2.2.2) ++ (wLn cy b v)) → va_S A s.heap H locs → lv_has ls 11 [(0, .ref (a 0)), (1, .ref (b 0)), (2, .int x01), (3, .int x02), (4, .int x03), (5, .ref (b (2 + zn x01))), (7, .int t5), (8, .int s85.1)] → zloop (b_X3_tryTaps_85 rcf v x01 x02 x03 t5) n s85 = some o → W p l e (zR 7) s m ([.ref (a 0), .ref (b 0), .int x01, .int x02, .int x03] : List Value).toArray below meth c H locs 0 0 (MQ below (zQv G cy A ((wSe cy a o.1 o.2.1 o.2.2) ++ (wLn cy b v))) ([.ref (a 0), .ref (b 0), .int x01, .int x02, .int x03] : List Value).toArray s 0 0 A) (F0 m 85 ls []) := by
            intro n
            induction n with
            | zero => exact fun s85 H locs ls _ _ _ _ hF => (zloop_0 hF).elim
            | succ n ih85 =>
              intro s85 H locs ls hP hD hS hl hF
              have hF : b_X3_tryTaps_85 rcf v x01 x02 x03 t5 (zloop (b_X3_tryTaps_85 rcf v x01 x02 x03 t5) n) s85 = some o := hF
              generalize zloop (b_X3_tryTaps_85 rcf v x01 x02 x03 t5) n = rc85 at ih85 hF
              unfold b_X3_tryTaps_85 at hF
              refine lv_iload hx hb dX3_tryTaps_85 (lv_at hl 7 rfl) ?_
              refine lv_iload hx hb dX3_tryTaps_87 (lv_at hl 6 rfl) ?_
              refine zi_gt (tgt := 167) hx hb hF dX3_tryTaps_89 (by decide) (fun hF => ?_) (fun hF => ?_)
              · refine z_vret (o := o) (o1 := (s85.2.1, s85.2.2.1, s85.2.2.2)) (wf := (fun o => ((wSe cy a o.1 o.2.1 o.2.2) ++ (wLn cy b v)))) hx hb hr hlocks hK ?_ ?_ hS ?_ dX3_tryTaps_167
                · exact hP
                · exact hD
                · exact hF
              · refine lv_iload_n hx hb dX3_tryTaps_92 rfl (lv_at hl 3 rfl) ?_
                refine lv_sipush (v := 1000) hx hb dX3_tryTaps_93 (by decide) ?_
                refine lv_iload hx hb dX3_tryTaps_96 (lv_at hl 7 rfl) ?_
                refine lv_aload hx hb dX3_tryTaps_98 (lv_at hl 5 rfl) ?_
                refine va_get (ci := 4) (C := RX4) (T := TX4) (N := 15) (fs := (zSt (v (zn x01)))) (v := .int (v (zn x01) 0)) hx hb hts iX4 hown hK hP _ (zat_r (wSe_len cy a s85.2.1 s85.2.2.1 s85.2.2.2) (wLn_atS cy b v h3)) rfl 0 (by decide) k54 (fun _ h9 => h9) rfl dX3_tryTaps_100 ?_
                refine lv_imul hx hb dX3_tryTaps_103 ?_
                refine lv_iadd hx hb dX3_tryTaps_104 ?_
                refine z_cNi (As := [.int x02, .int (1000 + (s85.1 * (v (zn x01) 0)))]) (rest := []) (wc := ([] : va_W)) (wcf := fun o' => ([] : va_W)) (wf := fun o' => ((wSe cy a s85.2.1 s85.2.2.1 s85.2.2.2) ++ (wLn cy b v))) (rf := fun o' => o') hF (fun o' hz => c_X7_outOf l G cy st x02 (1000 + (s85.1 * (v (zn x01) 0))) o' hz) (fun o' => zCut_nil) ⟨hx, hb, hml, hown, hts⟩ ⟨va_cnB 2 hts gX3_tryTaps_X7_outOf_n57 rfl rfl rfl hSE.2.2.1.2.2.2.2.2 kNi (by decide +kernel) ⟨by decide, by decide⟩, kNs57, trivial⟩ hK hSE hA hP hD hS rfl hl.1 rfl (Nat.le_of_ble_eq_true rfl) dX3_tryTaps_105 ⟨Nat.le_refl _, Nat.le_refl _⟩ (fun o6 hF H locs hP hD hS => ?_)
                refine lv_istore (lv' := [(9, .int o6), (0, .ref (a 0)), (1, .ref (b 0)), (2, .int x01), (3, .int x02), (4, .int x03), (5, .ref (b (2 + zn x01))), (7, .int t5), (8, .int s85.1)]) hx hb dX3_tryTaps_108 hl (by decide) rfl (fun ls hl => ?_)
                refine lv_iload hx hb dX3_tryTaps_110 (lv_at hl 5 rfl) ?_
                refine lv_iload hx hb dX3_tryTaps_112 (lv_at hl 0 rfl) ?_
                refine lv_aload hx hb dX3_tryTaps_114 (lv_at hl 6 rfl) ?_
                refine va_get (ci := 4) (C := RX4) (T := TX4) (N := 15) (fs := (zSt (v (zn x01)))) (v := .int (v (zn x01) 1)) hx hb hts iX4 hown hK hP _ (zat_r (wSe_len cy a s85.2.1 s85.2.2.1 s85.2.2.2) (wLn_atS cy b v h3)) rfl 1 (by decide) k61 (fun _ h9 => h9) rfl dX3_tryTaps_116 ?_
                refine lv_isub hx hb dX3_tryTaps_119 ?_
                refine va_mabs hx hb (hml.trans hl.1.symm) hown k64 k64s kMi k64c (by decide) (Nat.le_of_ble_eq_true rfl) (Nat.zero_le _) (Nat.zero_le _) dX3_tryTaps_120 ?_
                refine lv_iadd hx hb dX3_tryTaps_123 ?_
                refine z_leti hF (fun x7 hF => ?_)
                refine lv_istore (lv' := [(10, .int x7), (9, .int o6), (0, .ref (a 0)), (1, .ref (b 0)), (2, .int x01), (3, .int x02), (4, .int x03), (5, .ref (b (2 + zn x01))), (7, .int t5), (8, .int s85.1)]) hx hb dX3_tryTaps_124 hl (by decide) rfl (fun ls hl => ?_)
                refine lv_iload hx hb dX3_tryTaps_126 (lv_at hl 0 rfl) ?_
                refine lv_aload_n hx hb dX3_tryTaps_128 rfl (lv_at hl 2 rfl) ?_
                refine va_get (ci := 3) (C := RX3) (T := TX3) (N := 3) (fs := (zSe a s85.2.2.2)) (v := .int s85.2.2.2) hx hb hts iX3 hown hK hP _ (zat_l (wSe_at0 cy a s85.2.1 s85.2.2.1 s85.2.2.2)) rfl 2 (by decide) k19 (fun _ h9 => h9) rfl dX3_tryTaps_129 ?_
                have J161 : ∀ (sp_8 : Nat → Int32) (sq_9 : Nat → Int32) (sk_10 : Int32) (H : Heap) (locs : List Loc) (ls : Array Slot), va_P G vwCl ((wSe cy a sp_8 sq_9 sk_10) ++ (wLn cy b v)) H → va_D A ((wSe cy a sp_8 sq_9 sk_10) ++ (wLn cy b v)) → va_S A s.heap H locs → lv_has ls 11 [(0, .ref (a 0)), (1, .ref (b 0)), (2, .int x01), (3, .int x02), (4, .int x03), (5, .ref (b (2 + zn x01))), (7, .int t5), (8, .int s85.1)] → j_X3_tryTaps_161 rc85 s85 sp_8 sq_9 sk_10 = some o → W p l e (zR 7) s m ([.ref (a 0), .ref (b 0), .int x01, .int x02, .int x03] : List Value).toArray below meth c H locs 0 0 (MQ below (zQv G cy A ((wSe cy a o.1 o.2.1 o.2.2) ++ (wLn cy b v))) ([.ref (a 0), .ref (b 0), .int x01, .int x02, .int x03] : List Value).toArray s 0 0 A) (F0 m 161 ls []) := by
                  intro sp_8 sq_9 sk_10 H locs ls hP hD hS hl hF
                  unfold j_X3_tryTaps_161 at hF
                  refine z_name hF (fun x11 ex11 hF => ?_)
                  refine lv_iinc (v := x11) (lv' := [(8, .int x11), (0, .ref (a 0)), (1, .ref (b 0)), (2, .int x01), (3, .int x02), (4, .int x03), (5, .ref (b (2 + zn x01))), (7, .int t5)]) hx hb dX3_tryTaps_161 hl (k := 7) rfl (by rw [ex11]; rfl) (by decide) rfl (fun ls hl => ?_)
                  refine lv_goto (tgt := 85) hx hb dX3_tryTaps_164 (by decide) ?_
                  exact ih85 (x11, sp_8, sq_9, sk_10) _ _ ls hP hD hS (lv_sub hl [1, 2, 3, 4, 5, 6, 7, 0] rfl) hF
                refine zi_ge (tgt := 161) hx hb hF dX3_tryTaps_132 (by decide) (fun hF => ?_) (fun hF => ?_)
                · exact J161 s85.2.1 s85.2.2.1 s85.2.2.2 _ _ ls hP hD hS (lv_sub hl [2, 3, 4, 5, 6, 7, 8, 9] rfl) hF
                · refine lv_aload_n hx hb dX3_tryTaps_135 rfl (lv_at hl 2 rfl) ?_
                  refine va_get (ci := 3) (C := RX3) (T := TX3) (N := 3) (fs := (zSe a s85.2.2.2)) (v := .ref (a 1)) hx hb hts iX3 hown hK hP _ (zat_l (wSe_at0 cy a s85.2.1 s85.2.2.1 s85.2.2.2)) rfl 0 (by decide) k9 (fun _ h9 => h9) rfl dX3_tryTaps_136 ?_
                  refine lv_iload_n hx hb dX3_tryTaps_139 rfl (lv_at hl 4 rfl) ?_
                  refine lv_iload hx hb dX3_tryTaps_140 (lv_at hl 9 rfl) ?_
                  refine z_iast (n := 4) (f := s85.2.1) (i := x01) (x := s85.1) (wf := (fun y => ((wSe cy a y s85.2.2.1 s85.2.2.2) ++ (wLn cy b v)))) hx hb hK hP hD hS _ 1 (zFoc_l (wSe_foc1 cy a s85.2.1 s85.2.2.1 s85.2.2.2 _)) rfl hF dX3_tryTaps_142 (fun sp_12 hF H locs hP hD hS => ?_)
                  refine lv_aload_n hx hb dX3_tryTaps_143 rfl (lv_at hl 2 rfl) ?_
                  refine lv_aload_n hx hb dX3_tryTaps_144 rfl (lv_at hl 3 rfl) ?_
                  refine lv_iload_n hx hb dX3_tryTaps_145 rfl (lv_at hl 4 rfl) ?_
                  refine lv_iconst (v := 1) hx hb dX3_tryTaps_146 (by decide) ?_
                  refine lv_iadd hx hb dX3_tryTaps_147 ?_
                  refine lv_iload hx hb dX3_tryTaps_148 (lv_at hl 1 rfl) ?_
                  refine lv_aload_n hx hb dX3_tryTaps_150 rfl (lv_at hl 3 rfl) ?_
                  refine lv_iload_n hx hb dX3_tryTaps_151 rfl (lv_at hl 4 rfl) ?_
                  refine z_cVi (b := b 0) (As := [.int x01]) (rest := [.int o6, .int (x01 + 1), .ref (b 0), .ref (a 0)]) (wc := (wLn cy b v)) (wcf := fun o' => (wLn cy b v)) (wf := fun o' => ((wSe cy a sp_12 s85.2.2.1 s85.2.2.2) ++ (wLn cy b v))) (rf := fun o' => o') hF (fun o' hz => c_X1_lostBehind l G cy st b v x01 o' hz) (fun o' => (zCut_r zCut_all)) ⟨hx, hb, hml, hown, hts⟩ (cwV 1 hts gX3_tryTaps_X1_lostBehind rfl rfl rfl (by decide +kernel) ⟨by decide, by decide⟩) (ci := 1) (q0 := 0) rfl (wLn_at0 cy b v) hK hSE hA hP hD hS rfl hl.1 rfl (Nat.le_of_ble_eq_true rfl) dX3_tryTaps_152 ⟨Nat.le_refl _, Nat.le_refl _⟩ (fun o13 hF H locs hP hD hS => ?_)
                  refine lv_isub hx hb dX3_tryTaps_155 ?_
                  refine lv_iload hx hb dX3_tryTaps_156 (lv_at hl 0 rfl) ?_
                  refine z_cSv (As := [.ref (a 0), .ref (b 0), .int (x01 + 1), .int (o6 - o13), .int x7]) (rest := []) (wc := ((wSe cy a sp_12 s85.2.2.1 s85.2.2.2) ++ (wLn cy b v))) (wcf := fun o' => ((wSe cy a o'.1 o'.2.1 o'.2.2) ++ (wLn cy b v))) (wf := fun o' => ((wSe cy a o'.1 o'.2.1 o'.2.2) ++ (wLn cy b v))) hF (fun o' hz => hM a b sp_12 s85.2.2.1 s85.2.2.2 v (x01 + 1) (o6 - o13) x7 o' hz) (fun o' => (zCut_b zCut_all zCut_all)) ⟨hx, hb, hml, hown, hts⟩ (va_cwS 5 hts gX3_tryTaps_X3_tryTaps rfl rfl rfl (by decide +kernel) ⟨by decide, by decide⟩) hK hSE hA hP hD hS rfl hl.1 rfl (Nat.le_of_ble_eq_true rfl) dX3_tryTaps_158 ⟨Nat.le_refl _, Nat.le_refl _⟩ (fun o14 hF H locs hP hD hS => ?_)
                  exact J161 o14.1 o14.2.1 o14.2.2 _ _ ls hP hD hS (lv_sub hl [2, 3, 4, 5, 6, 7, 8, 9] rfl) hF
          exact L85 1000 (t4, sp, sq, sk) _ _ ls hP hD hS (lv_sub hl [2, 3, 4, 5, 6, 7, 1, 0] rfl) hF
        refine zf_eq (tgt := 78) hx hb hF dX3_tryTaps_67 (by decide) (fun hF => ?_) (fun hF => ?_)
        · refine lv_iconst (v := 5) hx hb dX3_tryTaps_78 (by decide) ?_
          exact J79 5 _ _ ls hP hD hS (lv_sub hl [1, 2, 3, 4, 5, 6, 0] rfl) hF
        · refine lv_aload hx hb dX3_tryTaps_70 (lv_at hl 6 rfl) ?_
          refine va_get (ci := 4) (C := RX4) (T := TX4) (N := 15) (fs := (zSt (v (zn x01)))) (v := .int (v (zn x01) 7)) hx hb hts iX4 hown hK hP _ (zat_r (wSe_len cy a sp sq sk) (wLn_atS cy b v h3)) rfl 7 (by decide) k51 (fun _ h9 => h9) rfl dX3_tryTaps_72 ?_
          refine lv_goto (tgt := 79) hx hb dX3_tryTaps_75 (by decide) ?_
          exact J79 (v (zn x01) 7) _ _ ls hP hD hS (lv_sub hl [1, 2, 3, 4, 5, 6, 0] rfl) hF
      refine zf_eq (tgt := 58) hx hb hF dX3_tryTaps_47 (by decide) (fun hF => ?_) (fun hF => ?_)
      · refine lv_bipush (v := (-5)) hx hb dX3_tryTaps_58 (by decide) ?_
        exact J60 (-5) _ _ ls hP hD hS (lv_sub hl [1, 2, 3, 4, 5, 0] rfl) hF
      · refine lv_aload hx hb dX3_tryTaps_50 (lv_at hl 0 rfl) ?_
        refine va_get (ci := 4) (C := RX4) (T := TX4) (N := 15) (fs := (zSt (v (zn x01)))) (v := .int (v (zn x01) 7)) hx hb hts iX4 hown hK hP _ (zat_r (wSe_len cy a sp sq sk) (wLn_atS cy b v h3)) rfl 7 (by decide) k51 (fun _ h9 => h9) rfl dX3_tryTaps_52 ?_
        refine lv_goto (tgt := 60) hx hb dX3_tryTaps_55 (by decide) ?_
        exact J60 (v (zn x01) 7) _ _ ls hP hD hS (lv_sub hl [1, 2, 3, 4, 5, 0] rfl) hF
    · exact J13 _ _ ls hP hD hS (lv_sub hl [0, 4] rfl) hF
theorem c_X3_tryTaps_4 (l : Launch) (G : va_G) (cy : Nat → ClassId) (st : Nat → Nat) (a : Nat → Nat) (b : Nat → Nat) (sp : Nat → Int32) (sq : Nat → Int32) (sk : Int32) (v : R2) (x01 : Int32) (x02 : Int32) (x03 : Int32) (o : (Nat → Int32) × (Nat → Int32) × Int32) (hF : f_X3_tryTaps 4 sp sq sk v x01 x02 x03 = some o) : zMv l yX3_tryTaps wsX3_tryTaps (zR 7) G cy st [.ref (a 0), .ref (b 0), .int x01, .int x02, .int x03] ((wSe cy a sp sq sk) ++ (wLn cy b v)) ((wSe cy a o.1 o.2.1 o.2.2) ++ (wLn cy b v)) := cs_X3_tryTaps_4 l G cy st (f_X3_tryTaps 3) (fun a b sp sq sk v x01 x02 x03 o h => c_X3_tryTaps_3 l G cy st a b sp sq sk v x01 x02 x03 o h) a b sp sq sk v x01 x02 x03 o hF
set_option maxHeartbeats 4000000 in
set_option maxRecDepth 100000 in
theorem cs_X3_tryTaps_5 (l : Launch) (G : va_G) (cy : Nat → ClassId) (st : Nat → Nat) (rcf : (Nat → Int32) → (Nat → Int32) → Int32 → R2 → Int32 → Int32 → Int32 → Option ((Nat → Int32) × (Nat → Int32) × Int32)) (hM : ∀ (a : Nat → Nat) (b : Nat → Nat) (sp : Nat → Int32) (sq : Nat → Int32) (sk : Int32) (v : R2) (x01 : Int32) (x02 : Int32) (x03 : Int32) (o : (Nat → Int32) × (Nat → Int32) × Int32), rcf sp sq sk v x01 x02 x03 = some o → zMv l yX3_tryTaps wsX3_tryTaps (zR 7) G cy st [.ref (a 0), .ref (b 0), .int x01, .int x02, .int x03] ((wSe cy a sp sq sk) ++ (wLn cy b v)) ((wSe cy a o.1 o.2.1 o.2.2) ++ (wLn cy b v))) (a : Nat → Nat) (b : Nat → Nat) (sp : Nat → Int32) (sq : Nat → Int32) (sk : Int32) (v : R2) (x01 : Int32) (x02 : Int32) (x03 : Int32) (o : (Nat → Int32) × (Nat → Int32) × Int32) (hF : F_X3_tryTaps rcf sp sq sk v x01 x02 x03 = some o) : zMv l yX3_tryTaps wsX3_tryTaps (zR 8) G cy st [.ref (a 0), .ref (b 0), .int x01, .int x02, .int x03] ((wSe cy a sp sq sk) ++ (wLn cy b v)) ((wSe cy a o.1 o.2.1 o.2.2) ++ (wLn cy b v)) := by
  refine zM_of (cc := cX3_tryTaps) (maxL := 11) (ret := none) (Qc := fun A => zQv G cy A ((wSe cy a o.1 o.2.1 o.2.2) ++ (wLn cy b v))) (by decide) rfl (Nat.le_of_ble_eq_true rfl) ?_
  intro p e s m below meth c A ls hx hb hml hr hlocks hown hts hK hSE hA hP hD hS hl
  have hown : s.vm.findClass RX3 = some m.cls := hown
  have hl : lv_has ls 11 [(0, .ref (a 0)), (1, .ref (b 0)), (2, .int x01), (3, .int x02), (4, .int x03)] := hl
  have k32 := hts (.fieldLink RX3 32 "TapCascade$Line" "size" "I") (by decide +kernel)
  have iX1 : ∀ w ∈ wsX10, w ∈ wsX3_tryTaps := fun w h => List.mem_cons_of_mem _ (List.mem_append_left _ (List.mem_append_left _ (List.mem_append_right _ h)))
  have k19 := hts (.fieldLink RX3 19 "TapCascade$Search" "leastOff" "I") (by decide +kernel)
  have iX3 : ∀ w ∈ wsX30, w ∈ wsX3_tryTaps := fun w h => List.mem_cons_of_mem _ (List.mem_append_left _ (List.mem_append_right _ h))
  have k9 := hts (.fieldLink RX3 9 "TapCascade$Search" "taps" "[I") (by decide +kernel)
  have k15 := hts (.fieldLink RX3 15 "TapCascade$Search" "bestTaps" "[I") (by decide +kernel)
  have k35 := hts (.methodLink RX3 35 arraycopyName) (by decide +kernel)
  have kAn := hts (.native arraycopyName) (by decide +kernel)
  have kAs := hts (.static arraycopyName) (by decide +kernel)
  have kAi := hts (.initialized "java/lang/System") (by decide +kernel)
  have k41 := hts (.fieldLink RX3 41 "TapCascade$Line" "stages" "[LTapCascade$Stage;") (by decide +kernel)
  have k45 := hts (.fieldLink RX3 45 "TapCascade$Stage" "stuck" "Z") (by decide +kernel)
  have iX4 : ∀ w ∈ wsX40, w ∈ wsX3_tryTaps := fun w h => List.mem_cons_of_mem _ (List.mem_append_right _ h)
  have k54 := hts (.fieldLink RX3 54 "TapCascade$Stage" "step" "I") (by decide +kernel)
  have kNi := hts (.initialized RX7) (by decide +kernel)
  have kNs57 := hts (.static yX7_outOf) (by decide +kernel)
  have k61 := hts (.fieldLink RX3 61 "TapCascade$Stage" "target" "I") (by decide +kernel)
  have k64 := hts (.methodLink RX3 64 Lib.Math.abs.name) (by decide +kernel)
  have k64s := hts (.static Lib.Math.abs.name) (by decide +kernel)
  have kMi := hts (.initialized "java/lang/Math") (by decide +kernel)
  have k64c := hts (.code Lib.Math.abs.name Lib.Math.abs.code 1 (some .int)) (by decide +kernel)
  have k51 := hts (.fieldLink RX3 51 "TapCascade$Stage" "tap" "I") (by decide +kernel)
  unfold F_X3_tryTaps at hF
  refine lv_iload_n hx hb dX3_tryTaps_0 rfl (lv_at hl 2 rfl) ?_
  refine lv_aload_n hx hb dX3_tryTaps_1 rfl (lv_at hl 1 rfl) ?_
  refine va_get (ci := 1) (C := RX1) (T := TX1) (N := 6) (fs := (zLn b v)) (v := .int (v 9 0)) hx hb hts iX1 hown hK hP _ (zat_r (wSe_len cy a sp sq sk) (wLn_at0 cy b v)) rfl 3 (by decide) k32 (fun _ h9 => h9) rfl dX3_tryTaps_2 ?_
  have J13 : ∀ (H : Heap) (locs : List Loc) (ls : Array Slot), va_P G vwCl ((wSe cy a sp sq sk) ++ (wLn cy b v)) H → va_D A ((wSe cy a sp sq sk) ++ (wLn cy b v)) → va_S A s.heap H locs → lv_has ls 11 [(0, .ref (a 0)), (4, .int x03)] → j_X3_tryTaps_13 sp sq x03 = some o → W p l e (zR 8) s m ([.ref (a 0), .ref (b 0), .int x01, .int x02, .int x03] : List Value).toArray below meth c H locs 0 0 (MQ below (zQv G cy A ((wSe cy a o.1 o.2.1 o.2.2) ++ (wLn cy b v))) ([.ref (a 0), .ref (b 0), .int x01, .int x02, .int x03] : List Value).toArray s 0 0 A) (F0 m 13 ls []) := by
    intro H locs ls hP hD hS hl hF
    unfold j_X3_tryTaps_13 at hF
    refine lv_aload_n hx hb dX3_tryTaps_13 rfl (lv_at hl 0 rfl) ?_
    refine lv_iload hx hb dX3_tryTaps_14 (lv_at hl 1 rfl) ?_
    refine z_puti (ci := 3) (C := RX3) (T := TX3) (N := 3) (fs := (zSe a sk)) (x := x03) (wf := (fun y => ((wSe cy a sp sq y) ++ (wLn cy b v)))) hx hb hts iX3 tyX3 tyX3_ok nmX3 hown hK hP hD hS _ 2 (zFoc_l (wSe_foc0_2 cy a sp sq sk x03)) rfl (by decide) k19 (fun _ h9 => h9) rfl (by decide +kernel) (Nat.le_of_ble_eq_true rfl) hF dX3_tryTaps_16 (fun sk_1 hF H locs hP hD hS => ?_)
    refine lv_aload_n hx hb dX3_tryTaps_19 rfl (lv_at hl 0 rfl) ?_
    refine va_get (ci := 3) (C := RX3) (T := TX3) (N := 3) (fs := (zSe a sk_1)) (v := .ref (a 1)) hx hb hts iX3 hown hK hP _ (zat_l (wSe_at0 cy a sp sq sk_1)) rfl 0 (by decide) k9 (fun _ h9 => h9) rfl dX3_tryTaps_20 ?_
    refine lv_iconst (v := 0) hx hb dX3_tryTaps_23 (by decide) ?_
    refine lv_aload_n hx hb dX3_tryTaps_24 rfl (lv_at hl 0 rfl) ?_
    refine va_get (ci := 3) (C := RX3) (T := TX3) (N := 3) (fs := (zSe a sk_1)) (v := .ref (a 2)) hx hb hts iX3 hown hK hP _ (zat_l (wSe_at0 cy a sp sq sk_1)) rfl 1 (by decide) k15 (fun _ h9 => h9) rfl dX3_tryTaps_25 ?_
    refine lv_iconst (v := 0) hx hb dX3_tryTaps_28 (by decide) ?_
    refine lv_iconst (v := 4) hx hb dX3_tryTaps_29 (by decide) ?_
    refine z_copyi (wf := (fun y => ((wSe cy a sp y sk_1) ++ (wLn cy b v)))) (f := sp) (g0 := sq) (sp := 0) (dp := 0) (n := 4) hx hb (hml.trans hl.1.symm) hown k35 kAn kAs kAi hK hP hD hS _ _ 1 (zat_l (wSe_at1 cy a sp sq sk_1)) (zFoc_l (wSe_foc2 cy a sp sq sk_1 _)) rfl rfl (by decide) (by decide) (by decide) (by decide) (by decide) hF (by decide) (Nat.le_of_ble_eq_true rfl) dX3_tryTaps_30 (fun sq_2 hF H locs hP hD hS => ?_)
    refine z_vret (o := o) (o1 := (sp, sq_2, sk_1)) (wf := (fun o => ((wSe cy a o.1 o.2.1 o.2.2) ++ (wLn cy b v)))) hx hb hr hlocks hK ?_ ?_ hS ?_ dX3_tryTaps_33
    · exact hP
    · exact hD
    · exact hF
  refine zi_ge (tgt := 13) hx hb hF dX3_tryTaps_5 (by decide) (fun hF => ?_) (fun hF => ?_)
  · exact J13 _ _ ls hP hD hS (lv_sub hl [0, 4] rfl) hF
  · refine lv_iload_n hx hb dX3_tryTaps_8 rfl (lv_at hl 2 rfl) ?_
    refine lv_iconst (v := 4) hx hb dX3_tryTaps_9 (by decide) ?_
    refine zi_lt (tgt := 34) hx hb hF dX3_tryTaps_10 (by decide) (fun hF => ?_) (fun hF => ?_)
    · refine lv_aload_n hx hb dX3_tryTaps_34 rfl (lv_at hl 1 rfl) ?_
      refine va_get (ci := 1) (C := RX1) (T := TX1) (N := 6) (fs := (zLn b v)) (v := .ref (b 1)) hx hb hts iX1 hown hK hP _ (zat_r (wSe_len cy a sp sq sk) (wLn_at0 cy b v)) rfl 0 (by decide) k41 (fun _ h9 => h9) rfl dX3_tryTaps_35 ?_
      refine lv_iload_n hx hb dX3_tryTaps_38 rfl (lv_at hl 2 rfl) ?_
      refine z_aald (ad := (fun j => b (2 + j))) (n := 4) hx hb hK hP _ 5 (zat_r (wSe_len cy a sp sq sk) (wLn_at1 cy b v)) rfl hF dX3_tryTaps_39 (fun h3 hF => ?_)
      refine lv_astore (lv' := [(5, .ref (b (2 + zn x01))), (0, .ref (a 0)), (1, .ref (b 0)), (2, .int x01), (3, .int x02), (4, .int x03)]) hx hb dX3_tryTaps_40 hl (by decide) rfl (fun ls hl => ?_)
      refine lv_aload hx hb dX3_tryTaps_42 (lv_at hl 0 rfl) ?_
      refine va_get (ci := 4) (C := RX4) (T := TX4) (N := 15) (fs := (zSt (v (zn x01)))) (v := .int (v (zn x01) 11)) hx hb hts iX4 hown hK hP _ (zat_r (wSe_len cy a sp sq sk) (wLn_atS cy b v h3)) rfl 11 (by decide) k45 (fun _ h9 => h9) rfl dX3_tryTaps_44 ?_
      have J60 : ∀ (t4 : Int32) (H : Heap) (locs : List Loc) (ls : Array Slot), va_P G vwCl ((wSe cy a sp sq sk) ++ (wLn cy b v)) H → va_D A ((wSe cy a sp sq sk) ++ (wLn cy b v)) → va_S A s.heap H locs → lv_has ls 11 [(0, .ref (a 0)), (1, .ref (b 0)), (2, .int x01), (3, .int x02), (4, .int x03), (5, .ref (b (2 + zn x01)))] → j_X3_tryTaps_60 rcf sp sq sk v x01 x02 x03 t4 = some o → W p l e (zR 8) s m ([.ref (a 0), .ref (b 0), .int x01, .int x02, .int x03] : List Value).toArray below meth c H locs 0 0 (MQ below (zQv G cy A ((wSe cy a o.1 o.2.1 o.2.2) ++ (wLn cy b v))) ([.ref (a 0), .ref (b 0), .int x01, .int x02, .int x03] : List Value).toArray s 0 0 A) (F0 m 60 ls [.int t4]) := by
        intro t4 H locs ls hP hD hS hl hF
        unfold j_X3_tryTaps_60 at hF
        refine lv_istore (lv' := [(6, .int t4), (0, .ref (a 0)), (1, .ref (b 0)), (2, .int x01), (3, .int x02), (4, .int x03), (5, .ref (b (2 + zn x01)))]) hx hb dX3_tryTaps_60 hl (by decide) rfl (fun ls hl => ?_)
        refine lv_aload hx hb dX3_tryTaps_62 (lv_at hl 6 rfl) ?_
        refine va_get (ci := 4) (C := RX4) (T := TX4) (N := 15) (fs := (zSt (v (zn x01)))) (v := .int (v (zn x01) 11)) hx hb hts iX4 hown hK hP _ (zat_r (wSe_len cy a sp sq sk) (wLn_atS cy b v h3)) rfl 11 (by decide) k45 (fun _ h9 => h9) rfl dX3_tryTaps_64 ?_
        have J79 : ∀ (t5 : Int32) (H : Heap) (locs : List Loc) (ls : Array Slot), va_P G vwCl ((wSe cy a sp sq sk) ++ (wLn cy b v)) H → va_D A ((wSe cy a sp sq sk) ++ (wLn cy b v)) → va_S A s.heap H locs → lv_has ls 11 [(0, .ref (a 0)), (1, .ref (b 0)), (2, .int x01), (3, .int x02), (4, .int x03), (5, .ref (b (2 + zn x01))), (6, .int t4)] → j_X3_tryTaps_79 rcf sp sq sk v x01 x02 x03 t4 t5 = some o → W p l e (zR 8) s m ([.ref (a 0), .ref (b 0), .int x01, .int x02, .int x03] : List Value).toArray below meth c H locs 0 0 (MQ below (zQv G cy A ((wSe cy a o.1 o.2.1 o.2.2) ++ (wLn cy b v))) ([.ref (a 0), .ref (b 0), .int x01, .int x02, .int x03] : List Value).toArray s 0 0 A) (F0 m 79 ls [.int t5]) := by
          intro t5 H locs ls hP hD hS hl hF
          unfold j_X3_tryTaps_79 at hF
          refine lv_istore (lv' := [(7, .int t5), (0, .ref (a 0)), (1, .ref (b 0)), (2, .int x01), (3, .int x02), (4, .int x03), (5, .ref (b (2 + zn x01))), (6, .int t4)]) hx hb dX3_tryTaps_79 hl (by decide) rfl (fun ls hl => ?_)
          refine lv_iload hx hb dX3_tryTaps_81 (lv_at hl 7 rfl) ?_
          refine lv_istore (lv' := [(8, .int t4), (7, .int t5), (0, .ref (a 0)), (1, .ref (b 0)), (2, .int x01), (3, .int x02), (4, .int x03), (5, .ref (b (2 + zn x01))), (6, .int t4)]) hx hb dX3_tryTaps_83 hl (by decide) rfl (fun ls hl => ?_)
          have L85 : ∀ (n : Nat) (s85 : Int32 × (Nat → Int32) × (Nat → Int32) × Int32) (H : Heap) (locs : List Loc) (ls : Array Slot), va_P G vwCl ((wSe cy a s85.2.1 s85.2.2.1 s85.2.2.2) ++ (wLn cy b v)) H → va_D A ((wSe cy a s85.2.1 s85.2.2.1 s85.2.2.2) ++ (wLn cy b v)) → va_S A s.heap H locs → lv_has ls 11 [(0, .ref (a 0)), (1, .ref (b 0)), (2, .int x01), (3, .int x02), (4, .int x03), (5, .ref (b (2 + zn x01))), (7, .int t5), (8, .int s85.1)] → zloop (b_X3_tryTaps_85 rcf v x01 x02 x03 t5) n s85 = some o → W p l e (zR 8) s m ([.ref (a 0), .ref (b 0), .int x01, .int x02, .int x03] : List Value).toArray below meth c H locs 0 0 (MQ below (zQv G cy A ((wSe cy a o.1 o.2.1 o.2.2) ++ (wLn cy b v))) ([.ref (a 0), .ref (b 0), .int x01, .int x02, .int x03] : List Value).toArray s 0 0 A) (F0 m 85 ls []) := by
            intro n
            induction n with
            | zero => exact fun s85 H locs ls _ _ _ _ hF => (zloop_0 hF).elim
            | succ n ih85 =>
              intro s85 H locs ls hP hD hS hl hF
              have hF : b_X3_tryTaps_85 rcf v x01 x02 x03 t5 (zloop (b_X3_tryTaps_85 rcf v x01 x02 x03 t5) n) s85 = some o := hF
              generalize zloop (b_X3_tryTaps_85 rcf v x01 x02 x03 t5) n = rc85 at ih85 hF
              unfold b_X3_tryTaps_85 at hF
              refine lv_iload hx hb dX3_tryTaps_85 (lv_at hl 7 rfl) ?_
              refine lv_iload hx hb dX3_tryTaps_87 (lv_at hl 6 rfl) ?_
              refine zi_gt (tgt := 167) hx hb hF dX3_tryTaps_89 (by decide) (fun hF => ?_) (fun hF => ?_)
              · refine z_vret (o := o) (o1 := (s85.2.1, s85.2.2.1, s85.2.2.2)) (wf := (fun o => ((wSe cy a o.1 o.2.1 o.2.2) ++ (wLn cy b v)))) hx hb hr hlocks hK ?_ ?_ hS ?_ dX3_tryTaps_167
                · exact hP
                · exact hD
                · exact hF
              · refine lv_iload_n hx hb dX3_tryTaps_92 rfl (lv_at hl 3 rfl) ?_
                refine lv_sipush (v := 1000) hx hb dX3_tryTaps_93 (by decide) ?_
                refine lv_iload hx hb dX3_tryTaps_96 (lv_at hl 7 rfl) ?_
                refine lv_aload hx hb dX3_tryTaps_98 (lv_at hl 5 rfl) ?_
                refine va_get (ci := 4) (C := RX4) (T := TX4) (N := 15) (fs := (zSt (v (zn x01)))) (v := .int (v (zn x01) 0)) hx hb hts iX4 hown hK hP _ (zat_r (wSe_len cy a s85.2.1 s85.2.2.1 s85.2.2.2) (wLn_atS cy b v h3)) rfl 0 (by decide) k54 (fun _ h9 => h9) rfl dX3_tryTaps_100 ?_
                refine lv_imul hx hb dX3_tryTaps_103 ?_
                refine lv_iadd hx hb dX3_tryTaps_104 ?_
                refine z_cNi (As := [.int x02, .int (1000 + (s85.1 * (v (zn x01) 0)))]) (rest := []) (wc := ([] : va_W)) (wcf := fun o' => ([] : va_W)) (wf := fun o' => ((wSe cy a s85.2.1 s85.2.2.1 s85.2.2.2) ++ (wLn cy b v))) (rf := fun o' => o') hF (fun o' hz => c_X7_outOf l G cy st x02 (1000 + (s85.1 * (v (zn x01) 0))) o' hz) (fun o' => zCut_nil) ⟨hx, hb, hml, hown, hts⟩ ⟨va_cnB 2 hts gX3_tryTaps_X7_outOf_n57 rfl rfl rfl hSE.2.2.1.2.2.2.2.2 kNi (by decide +kernel) ⟨by decide, by decide⟩, kNs57, trivial⟩ hK hSE hA hP hD hS rfl hl.1 rfl (Nat.le_of_ble_eq_true rfl) dX3_tryTaps_105 ⟨Nat.le_refl _, Nat.le_refl _⟩ (fun o6 hF H locs hP hD hS => ?_)
                refine lv_istore (lv' := [(9, .int o6), (0, .ref (a 0)), (1, .ref (b 0)), (2, .int x01), (3, .int x02), (4, .int x03), (5, .ref (b (2 + zn x01))), (7, .int t5), (8, .int s85.1)]) hx hb dX3_tryTaps_108 hl (by decide) rfl (fun ls hl => ?_)
                refine lv_iload hx hb dX3_tryTaps_110 (lv_at hl 5 rfl) ?_
                refine lv_iload hx hb dX3_tryTaps_112 (lv_at hl 0 rfl) ?_
                refine lv_aload hx hb dX3_tryTaps_114 (lv_at hl 6 rfl) ?_
                refine va_get (ci := 4) (C := RX4) (T := TX4) (N := 15) (fs := (zSt (v (zn x01)))) (v := .int (v (zn x01) 1)) hx hb hts iX4 hown hK hP _ (zat_r (wSe_len cy a s85.2.1 s85.2.2.1 s85.2.2.2) (wLn_atS cy b v h3)) rfl 1 (by decide) k61 (fun _ h9 => h9) rfl dX3_tryTaps_116 ?_
                refine lv_isub hx hb dX3_tryTaps_119 ?_
                refine va_mabs hx hb (hml.trans hl.1.symm) hown k64 k64s kMi k64c (by decide) (Nat.le_of_ble_eq_true rfl) (Nat.zero_le _) (Nat.zero_le _) dX3_tryTaps_120 ?_
                refine lv_iadd hx hb dX3_tryTaps_123 ?_
                refine z_leti hF (fun x7 hF => ?_)
                refine lv_istore (lv' := [(10, .int x7), (9, .int o6), (0, .ref (a 0)), (1, .ref (b 0)), (2, .int x01), (3, .int x02), (4, .int x03), (5, .ref (b (2 + zn x01))), (7, .int t5), (8, .int s85.1)]) hx hb dX3_tryTaps_124 hl (by decide) rfl (fun ls hl => ?_)
                refine lv_iload hx hb dX3_tryTaps_126 (lv_at hl 0 rfl) ?_
                refine lv_aload_n hx hb dX3_tryTaps_128 rfl (lv_at hl 2 rfl) ?_
                refine va_get (ci := 3) (C := RX3) (T := TX3) (N := 3) (fs := (zSe a s85.2.2.2)) (v := .int s85.2.2.2) hx hb hts iX3 hown hK hP _ (zat_l (wSe_at0 cy a s85.2.1 s85.2.2.1 s85.2.2.2)) rfl 2 (by decide) k19 (fun _ h9 => h9) rfl dX3_tryTaps_129 ?_
                have J161 : ∀ (sp_8 : Nat → Int32) (sq_9 : Nat → Int32) (sk_10 : Int32) (H : Heap) (locs : List Loc) (ls : Array Slot), va_P G vwCl ((wSe cy a sp_8 sq_9 sk_10) ++ (wLn cy b v)) H → va_D A ((wSe cy a sp_8 sq_9 sk_10) ++ (wLn cy b v)) → va_S A s.heap H locs → lv_has ls 11 [(0, .ref (a 0)), (1, .ref (b 0)), (2, .int x01), (3, .int x02), (4, .int x03), (5, .ref (b (2 + zn x01))), (7, .int t5), (8, .int s85.1)] → j_X3_tryTaps_161 rc85 s85 sp_8 sq_9 sk_10 = some o → W p l e (zR 8) s m ([.ref (a 0), .ref (b 0), .int x01, .int x02, .int x03] : List Value).toArray below meth c H locs 0 0 (MQ below (zQv G cy A ((wSe cy a o.1 o.2.1 o.2.2) ++ (wLn cy b v))) ([.ref (a 0), .ref (b 0), .int x01, .int x02, .int x03] : List Value).toArray s 0 0 A) (F0 m 161 ls []) := by
                  intro sp_8 sq_9 sk_10 H locs ls hP hD hS hl hF
                  unfold j_X3_tryTaps_161 at hF
                  refine z_name hF (fun x11 ex11 hF => ?_)
                  refine lv_iinc (v := x11) (lv' := [(8, .int x11), (0, .ref (a 0)), (1, .ref (b 0)), (2, .int x01), (3, .int x02), (4, .int x03), (5, .ref (b (2 + zn x01))), (7, .int t5)]) hx hb dX3_tryTaps_161 hl (k := 7) rfl (by rw [ex11]; rfl) (by decide) rfl (fun ls hl => ?_)
                  refine lv_goto (tgt := 85) hx hb dX3_tryTaps_164 (by decide) ?_
                  exact ih85 (x11, sp_8, sq_9, sk_10) _ _ ls hP hD hS (lv_sub hl [1, 2, 3, 4, 5, 6, 7, 0] rfl) hF
                refine zi_ge (tgt := 161) hx hb hF dX3_tryTaps_132 (by decide) (fun hF => ?_) (fun hF => ?_)
                · exact J161 s85.2.1 s85.2.2.1 s85.2.2.2 _ _ ls hP hD hS (lv_sub hl [2, 3, 4, 5, 6, 7, 8, 9] rfl) hF
                · refine lv_aload_n hx hb dX3_tryTaps_135 rfl (lv_at hl 2 rfl) ?_
                  refine va_get (ci := 3) (C := RX3) (T := TX3) (N := 3) (fs := (zSe a s85.2.2.2)) (v := .ref (a 1)) hx hb hts iX3 hown hK hP _ (zat_l (wSe_at0 cy a s85.2.1 s85.2.2.1 s85.2.2.2)) rfl 0 (by decide) k9 (fun _ h9 => h9) rfl dX3_tryTaps_136 ?_
                  refine lv_iload_n hx hb dX3_tryTaps_139 rfl (lv_at hl 4 rfl) ?_
                  refine lv_iload hx hb dX3_tryTaps_140 (lv_at hl 9 rfl) ?_
                  refine z_iast (n := 4) (f := s85.2.1) (i := x01) (x := s85.1) (wf := (fun y => ((wSe cy a y s85.2.2.1 s85.2.2.2) ++ (wLn cy b v)))) hx hb hK hP hD hS _ 1 (zFoc_l (wSe_foc1 cy a s85.2.1 s85.2.2.1 s85.2.2.2 _)) rfl hF dX3_tryTaps_142 (fun sp_12 hF H locs hP hD hS => ?_)
                  refine lv_aload_n hx hb dX3_tryTaps_143 rfl (lv_at hl 2 rfl) ?_
                  refine lv_aload_n hx hb dX3_tryTaps_144 rfl (lv_at hl 3 rfl) ?_
                  refine lv_iload_n hx hb dX3_tryTaps_145 rfl (lv_at hl 4 rfl) ?_
                  refine lv_iconst (v := 1) hx hb dX3_tryTaps_146 (by decide) ?_
                  refine lv_iadd hx hb dX3_tryTaps_147 ?_
                  refine lv_iload hx hb dX3_tryTaps_148 (lv_at hl 1 rfl) ?_
                  refine lv_aload_n hx hb dX3_tryTaps_150 rfl (lv_at hl 3 rfl) ?_
                  refine lv_iload_n hx hb dX3_tryTaps_151 rfl (lv_at hl 4 rfl) ?_
                  refine z_cVi (b := b 0) (As := [.int x01]) (rest := [.int o6, .int (x01 + 1), .ref (b 0), .ref (a 0)]) (wc := (wLn cy b v)) (wcf := fun o' => (wLn cy b v)) (wf := fun o' => ((wSe cy a sp_12 s85.2.2.1 s85.2.2.2) ++ (wLn cy b v))) (rf := fun o' => o') hF (fun o' hz => c_X1_lostBehind l G cy st b v x01 o' hz) (fun o' => (zCut_r zCut_all)) ⟨hx, hb, hml, hown, hts⟩ (cwV 1 hts gX3_tryTaps_X1_lostBehind rfl rfl rfl (by decide +kernel) ⟨by decide, by decide⟩) (ci := 1) (q0 := 0) rfl (wLn_at0 cy b v) hK hSE hA hP hD hS rfl hl.1 rfl (Nat.le_of_ble_eq_true rfl) dX3_tryTaps_152 ⟨Nat.le_refl _, Nat.le_refl _⟩ (fun o13 hF H locs hP hD hS => ?_)
                  refine lv_isub hx hb dX3_tryTaps_155 ?_
                  refine lv_iload hx hb dX3_tryTaps_156 (lv_at hl 0 rfl) ?_
                  refine z_cSv (As := [.ref (a 0), .ref (b 0), .int (x01 + 1), .int (o6 - o13), .int x7]) (rest := []) (wc := ((wSe cy a sp_12 s85.2.2.1 s85.2.2.2) ++ (wLn cy b v))) (wcf := fun o' => ((wSe cy a o'.1 o'.2.1 o'.2.2) ++ (wLn cy b v))) (wf := fun o' => ((wSe cy a o'.1 o'.2.1 o'.2.2) ++ (wLn cy b v))) hF (fun o' hz => hM a b sp_12 s85.2.2.1 s85.2.2.2 v (x01 + 1) (o6 - o13) x7 o' hz) (fun o' => (zCut_b zCut_all zCut_all)) ⟨hx, hb, hml, hown, hts⟩ (va_cwS 5 hts gX3_tryTaps_X3_tryTaps rfl rfl rfl (by decide +kernel) ⟨by decide, by decide⟩) hK hSE hA hP hD hS rfl hl.1 rfl (Nat.le_of_ble_eq_true rfl) dX3_tryTaps_158 ⟨Nat.le_refl _, Nat.le_refl _⟩ (fun o14 hF H locs hP hD hS => ?_)
                  exact J161 o14.1 o14.2.1 o14.2.2 _ _ ls hP hD hS (lv_sub hl [2, 3, 4, 5, 6, 7, 8, 9] rfl) hF
          exact L85 1000 (t4, sp, sq, sk) _ _ ls hP hD hS (lv_sub hl [2, 3, 4, 5, 6, 7, 1, 0] rfl) hF
        refine zf_eq (tgt := 78) hx hb hF dX3_tryTaps_67 (by decide) (fun hF => ?_) (fun hF => ?_)
        · refine lv_iconst (v := 5) hx hb dX3_tryTaps_78 (by decide) ?_
          exact J79 5 _ _ ls hP hD hS (lv_sub hl [1, 2, 3, 4, 5, 6, 0] rfl) hF
        · refine lv_aload hx hb dX3_tryTaps_70 (lv_at hl 6 rfl) ?_
          refine va_get (ci := 4) (C := RX4) (T := TX4) (N := 15) (fs := (zSt (v (zn x01)))) (v := .int (v (zn x01) 7)) hx hb hts iX4 hown hK hP _ (zat_r (wSe_len cy a sp sq sk) (wLn_atS cy b v h3)) rfl 7 (by decide) k51 (fun _ h9 => h9) rfl dX3_tryTaps_72 ?_
          refine lv_goto (tgt := 79) hx hb dX3_tryTaps_75 (by decide) ?_
          exact J79 (v (zn x01) 7) _ _ ls hP hD hS (lv_sub hl [1, 2, 3, 4, 5, 6, 0] rfl) hF
      refine zf_eq (tgt := 58) hx hb hF dX3_tryTaps_47 (by decide) (fun hF => ?_) (fun hF => ?_)
      · refine lv_bipush (v := (-5)) hx hb dX3_tryTaps_58 (by decide) ?_
        exact J60 (-5) _ _ ls hP hD hS (lv_sub hl [1, 2, 3, 4, 5, 0] rfl) hF
      · refine lv_aload hx hb dX3_tryTaps_50 (lv_at hl 0 rfl) ?_
        refine va_get (ci := 4) (C := RX4) (T := TX4) (N := 15) (fs := (zSt (v (zn x01)))) (v := .int (v (zn x01) 7)) hx hb hts iX4 hown hK hP _ (zat_r (wSe_len cy a sp sq sk) (wLn_atS cy b v h3)) rfl 7 (by decide) k51 (fun _ h9 => h9) rfl dX3_tryTaps_52 ?_
        refine lv_goto (tgt := 60) hx hb dX3_tryTaps_55 (by decide) ?_
        exact J60 (v (zn x01) 7) _ _ ls hP hD hS (lv_sub hl [1, 2, 3, 4, 5, 0] rfl) hF
    · exact J13 _ _ ls hP hD hS (lv_sub hl [0, 4] rfl) hF
theorem c_X3_tryTaps_5 (l : Launch) (G : va_G) (cy : Nat → ClassId) (st : Nat → Nat) (a : Nat → Nat) (b : Nat → Nat) (sp : Nat → Int32) (sq : Nat → Int32) (sk : Int32) (v : R2) (x01 : Int32) (x02 : Int32) (x03 : Int32) (o : (Nat → Int32) × (Nat → Int32) × Int32) (hF : f_X3_tryTaps 5 sp sq sk v x01 x02 x03 = some o) : zMv l yX3_tryTaps wsX3_tryTaps (zR 8) G cy st [.ref (a 0), .ref (b 0), .int x01, .int x02, .int x03] ((wSe cy a sp sq sk) ++ (wLn cy b v)) ((wSe cy a o.1 o.2.1 o.2.2) ++ (wLn cy b v)) := cs_X3_tryTaps_5 l G cy st (f_X3_tryTaps 4) (fun a b sp sq sk v x01 x02 x03 o h => c_X3_tryTaps_4 l G cy st a b sp sq sk v x01 x02 x03 o h) a b sp sq sk v x01 x02 x03 o hF
def f_X3_start (sp : Nat → Int32) (sq : Nat → Int32) (v : R2) : Option ((Nat → Int32) × (Nat → Int32) × Int32) :=
zlet 1000000 fun sk_1 =>
zbd (f_X3_tryTaps 5 sp sq sk_1 v 0 (v 9 1) 0) fun o2 =>
some (o2.1, o2.2.1, o2.2.2)
set_option maxHeartbeats 4000000 in
set_option maxRecDepth 100000 in
theorem c_X3_start (l : Launch) (G : va_G) (cy : Nat → ClassId) (st : Nat → Nat) (a : Nat → Nat) (b : Nat → Nat) (sp : Nat → Int32) (sq : Nat → Int32) (sk : Int32) (v : R2) (o : (Nat → Int32) × (Nat → Int32) × Int32) (hF : f_X3_start sp sq v = some o) : zMv l yX3_start wsX3_start (zR 9) G cy st [.ref (a 0), .ref (b 0)] ((wSe cy a sp sq sk) ++ (wLn cy b v)) ((wSe cy a o.1 o.2.1 o.2.2) ++ (wLn cy b v)) := by
  refine zM_of (cc := cX3_start) (maxL := 2) (ret := none) (Qc := fun A => zQv G cy A ((wSe cy a o.1 o.2.1 o.2.2) ++ (wLn cy b v))) (by decide) rfl (Nat.le_of_ble_eq_true rfl) ?_
  intro p e s m below meth c A ls hx hb hml hr hlocks hown hts hK hSE hA hP hD hS hl
  have hown : s.vm.findClass RX3 = some m.cls := hown
  have hl : lv_has ls 2 [(0, .ref (a 0)), (1, .ref (b 0))] := hl
  have k18 := hts (.constant RX3 18 (1000000)) (by decide +kernel)
  have k19 := hts (.fieldLink RX3 19 "TapCascade$Search" "leastOff" "I") (by decide +kernel)
  have iX3 : ∀ w ∈ wsX30, w ∈ wsX3_start := fun w h => List.mem_cons_of_mem _ (List.mem_append_left _ (List.mem_append_left _ (List.mem_append_right _ h)))
  have k23 := hts (.fieldLink RX3 23 "TapCascade$Line" "source" "I") (by decide +kernel)
  have iX1 : ∀ w ∈ wsX10, w ∈ wsX3_start := fun w h => List.mem_cons_of_mem _ (List.mem_append_left _ (List.mem_append_right _ h))
  unfold f_X3_start at hF
  refine lv_aload_n hx hb dX3_start_0 rfl (lv_at hl 0 rfl) ?_
  refine lv_ldc (v := 1000000) hx hb hown k18 dX3_start_1 ?_
  refine z_puti (ci := 3) (C := RX3) (T := TX3) (N := 3) (fs := (zSe a sk)) (x := 1000000) (wf := (fun y => ((wSe cy a sp sq y) ++ (wLn cy b v)))) hx hb hts iX3 tyX3 tyX3_ok nmX3 hown hK hP hD hS _ 2 (zFoc_l (wSe_foc0_2 cy a sp sq sk 1000000)) rfl (by decide) k19 (fun _ h9 => h9) rfl (by decide +kernel) (Nat.le_of_ble_eq_true rfl) hF dX3_start_3 (fun sk_1 hF H locs hP hD hS => ?_)
  refine lv_aload_n hx hb dX3_start_6 rfl (lv_at hl 0 rfl) ?_
  refine lv_aload_n hx hb dX3_start_7 rfl (lv_at hl 1 rfl) ?_
  refine lv_iconst (v := 0) hx hb dX3_start_8 (by decide) ?_
  refine lv_aload_n hx hb dX3_start_9 rfl (lv_at hl 1 rfl) ?_
  refine va_get (ci := 1) (C := RX1) (T := TX1) (N := 6) (fs := (zLn b v)) (v := .int (v 9 1)) hx hb hts iX1 hown hK hP _ (zat_r (wSe_len cy a sp sq sk_1) (wLn_at0 cy b v)) rfl 4 (by decide) k23 (fun _ h9 => h9) rfl dX3_start_10 ?_
  refine lv_iconst (v := 0) hx hb dX3_start_13 (by decide) ?_
  refine z_cSv (As := [.ref (a 0), .ref (b 0), .int 0, .int (v 9 1), .int 0]) (rest := []) (wc := ((wSe cy a sp sq sk_1) ++ (wLn cy b v))) (wcf := fun o' => ((wSe cy a o'.1 o'.2.1 o'.2.2) ++ (wLn cy b v))) (wf := fun o' => ((wSe cy a o'.1 o'.2.1 o'.2.2) ++ (wLn cy b v))) hF (fun o' hz => c_X3_tryTaps_5 l G cy st a b sp sq sk_1 v 0 (v 9 1) 0 o' hz) (fun o' => (zCut_b zCut_all zCut_all)) ⟨hx, hb, hml, hown, hts⟩ (va_cwS 5 hts gX3_start_X3_tryTaps rfl rfl rfl (by decide +kernel) ⟨by decide, by decide⟩) hK hSE hA hP hD hS rfl hl.1 rfl (Nat.le_of_ble_eq_true rfl) dX3_start_14 ⟨Nat.le_refl _, Nat.le_refl _⟩ (fun o2 hF H locs hP hD hS => ?_)
  refine z_vret (o := o) (o1 := (o2.1, o2.2.1, o2.2.2)) (wf := (fun o => ((wSe cy a o.1 o.2.1 o.2.2) ++ (wLn cy b v)))) hx hb hr hlocks hK ?_ ?_ hS ?_ dX3_start_17
  · exact hP
  · exact hD
  · exact hF
