/-! ===== 22.line: laid by a program out of the decode rows ===== -/
def f_X7_outOf (x01 : Int32) (x02 : Int32) : Option (Int32) :=
some ((x01 * x02) / 1000)
set_option maxHeartbeats 4000000 in
set_option maxRecDepth 100000 in
theorem c_X7_outOf (l : Launch) (G : va_G) (cy : Nat → ClassId) (st : Nat → Nat) (x01 : Int32) (x02 : Int32) (o : Int32) (hF : f_X7_outOf x01 x02 = some o) : zMi l yX7_outOf wsX7_outOf (zR 1) G cy st [.int x01, .int x02] ([] : va_W) ([] : va_W) o := by
  refine zM_of (cc := cX7_outOf) (maxL := 2) (ret := (some .int)) (Qc := fun A => zQi G cy A ([] : va_W) o) (by decide) rfl (Nat.le_of_ble_eq_true rfl) ?_
  intro p e s m below meth c A ls hx hb hml hr hlocks hown hts hK hSE hA hP hD hS hl
  have hown : s.vm.findClass RX7 = some m.cls := hown
  have hl : lv_has ls 2 [(0, .int x01), (1, .int x02)] := hl
  unfold f_X7_outOf at hF
  refine lv_iload_n hx hb dX7_outOf_0 rfl (lv_at hl 0 rfl) ?_
  refine lv_iload_n hx hb dX7_outOf_1 rfl (lv_at hl 1 rfl) ?_
  refine lv_imul hx hb dX7_outOf_2 ?_
  refine lv_sipush (v := 1000) hx hb dX7_outOf_3 (by decide) ?_
  refine lv_idiv hx hb dX7_outOf_6 (by decide) ?_
  refine z_iret (o := o) (o1 := ((x01 * x02) / 1000)) (v := ((x01 * x02) / 1000)) (wf := (fun o => ([] : va_W))) (rf := fun o => o) hx hb hr hlocks hK ?_ ?_ hS ?_ rfl dX7_outOf_7
  · exact hP
  · exact hD
  · exact hF
def f_X7_lostBetween (x01 : Int32) (x02 : Int32) : Option (Int32) :=
some ((x01 * x02) / 10)
set_option maxHeartbeats 4000000 in
set_option maxRecDepth 100000 in
theorem c_X7_lostBetween (l : Launch) (G : va_G) (cy : Nat → ClassId) (st : Nat → Nat) (x01 : Int32) (x02 : Int32) (o : Int32) (hF : f_X7_lostBetween x01 x02 = some o) : zMi l yX7_lostBetween wsX7_lostBetween (zR 1) G cy st [.int x01, .int x02] ([] : va_W) ([] : va_W) o := by
  refine zM_of (cc := cX7_lostBetween) (maxL := 2) (ret := (some .int)) (Qc := fun A => zQi G cy A ([] : va_W) o) (by decide) rfl (Nat.le_of_ble_eq_true rfl) ?_
  intro p e s m below meth c A ls hx hb hml hr hlocks hown hts hK hSE hA hP hD hS hl
  have hown : s.vm.findClass RX7 = some m.cls := hown
  have hl : lv_has ls 2 [(0, .int x01), (1, .int x02)] := hl
  unfold f_X7_lostBetween at hF
  refine lv_iload_n hx hb dX7_lostBetween_0 rfl (lv_at hl 0 rfl) ?_
  refine lv_iload_n hx hb dX7_lostBetween_1 rfl (lv_at hl 1 rfl) ?_
  refine lv_imul hx hb dX7_lostBetween_2 ?_
  refine lv_bipush (v := 10) hx hb dX7_lostBetween_3 (by decide) ?_
  refine lv_idiv hx hb dX7_lostBetween_5 (by decide) ?_
  refine z_iret (o := o) (o1 := ((x01 * x02) / 10)) (v := ((x01 * x02) / 10)) (wf := (fun o => ([] : va_W))) (rf := fun o => o) hx hb hr hlocks hK ?_ ?_ hS ?_ rfl dX7_lostBetween_6
  · exact hP
  · exact hD
  · exact hF
def f_X1_empty (v : R2) : Option (R2) :=
zlet (z2 v 9 0 0) fun v_1 =>
zlet (z2 v_1 9 1 1000) fun v_2 =>
zlet (z2 v_2 9 2 0) fun v_3 =>
zbd (f_X5_empty) fun o4 =>
zlet (zpLg v_3 (v_3 5) (v_3 6) (v_3 7) o4.1 o4.2) fun v_5 =>
some v_5
set_option maxHeartbeats 4000000 in
set_option maxRecDepth 100000 in
theorem c_X1_empty (l : Launch) (G : va_G) (cy : Nat → ClassId) (st : Nat → Nat) (a : Nat → Nat) (v : R2) (o : R2) (hF : f_X1_empty v = some o) : zMv l yX1_empty wsX1_empty (zR 2) G cy st [.ref (a 0)] (wLn cy a v) (wLn cy a o) := by
  refine zM_of (cc := cX1_empty) (maxL := 1) (ret := none) (Qc := fun A => zQv G cy A (wLn cy a o)) (by decide) rfl (Nat.le_of_ble_eq_true rfl) ?_
  intro p e s m below meth c A ls hx hb hml hr hlocks hown hts hK hSE hA hP hD hS hl
  have hown : s.vm.findClass RX1 = some m.cls := hown
  have hl : lv_has ls 1 [(0, .ref (a 0))] := hl
  have k29 := hts (.fieldLink RX1 29 "TapCascade$Line" "size" "I") (by decide +kernel)
  have iX1 : ∀ w ∈ wsX10, w ∈ wsX1_empty := fun w h => List.mem_cons_of_mem _ (List.mem_append_left _ (List.mem_append_right _ h))
  have k33 := hts (.fieldLink RX1 33 "TapCascade$Line" "source" "I") (by decide +kernel)
  have k36 := hts (.fieldLink RX1 36 "TapCascade$Line" "ticks" "I") (by decide +kernel)
  have k24 := hts (.fieldLink RX1 24 "TapCascade$Line" "log" "LTapCascade$StepLog;") (by decide +kernel)
  unfold f_X1_empty at hF
  refine lv_aload_n hx hb dX1_empty_0 rfl (lv_at hl 0 rfl) ?_
  refine lv_iconst (v := 0) hx hb dX1_empty_1 (by decide) ?_
  refine z_puti (ci := 1) (C := RX1) (T := TX1) (N := 6) (fs := (zLn a v)) (x := 0) (wf := (fun y => (wLn cy a y))) hx hb hts iX1 tyX1 tyX1_ok nmX1 hown hK hP hD hS _ 3 (wLn_foc0_3 cy a v 0) rfl (by decide) k29 (fun _ h9 => h9) rfl (by decide +kernel) (Nat.le_of_ble_eq_true rfl) hF dX1_empty_2 (fun v_1 hF H locs hP hD hS => ?_)
  refine lv_aload_n hx hb dX1_empty_5 rfl (lv_at hl 0 rfl) ?_
  refine lv_sipush (v := 1000) hx hb dX1_empty_6 (by decide) ?_
  refine z_puti (ci := 1) (C := RX1) (T := TX1) (N := 6) (fs := (zLn a v_1)) (x := 1000) (wf := (fun y => (wLn cy a y))) hx hb hts iX1 tyX1 tyX1_ok nmX1 hown hK hP hD hS _ 4 (wLn_foc0_4 cy a v_1 1000) rfl (by decide) k33 (fun _ h9 => h9) rfl (by decide +kernel) (Nat.le_of_ble_eq_true rfl) hF dX1_empty_9 (fun v_2 hF H locs hP hD hS => ?_)
  refine lv_aload_n hx hb dX1_empty_12 rfl (lv_at hl 0 rfl) ?_
  refine lv_iconst (v := 0) hx hb dX1_empty_13 (by decide) ?_
  refine z_puti (ci := 1) (C := RX1) (T := TX1) (N := 6) (fs := (zLn a v_2)) (x := 0) (wf := (fun y => (wLn cy a y))) hx hb hts iX1 tyX1 tyX1_ok nmX1 hown hK hP hD hS _ 5 (wLn_foc0_5 cy a v_2 0) rfl (by decide) k36 (fun _ h9 => h9) rfl (by decide +kernel) (Nat.le_of_ble_eq_true rfl) hF dX1_empty_14 (fun v_3 hF H locs hP hD hS => ?_)
  refine lv_aload_n hx hb dX1_empty_17 rfl (lv_at hl 0 rfl) ?_
  refine va_get (ci := 1) (C := RX1) (T := TX1) (N := 6) (fs := (zLn a v_3)) (v := .ref (a 7)) hx hb hts iX1 hown hK hP _ (wLn_at0 cy a v_3) rfl 2 (by decide) k24 (fun _ h9 => h9) rfl dX1_empty_18 ?_
  refine z_cVv (b := a 7) (As := []) (rest := []) (wc := (wLg cy (fun k => a (7 + k)) (v_3 5) (v_3 6) (v_3 7) (v_3 8 0) (v_3 8 1))) (wcf := fun o' => (wLg cy (fun k => a (7 + k)) (v_3 5) (v_3 6) (v_3 7) o'.1 o'.2)) (wf := fun o' => (wLn cy a (zpLg v_3 (v_3 5) (v_3 6) (v_3 7) o'.1 o'.2))) hF (fun o' hz => c_X5_empty l G cy st (fun k => a (7 + k)) (v_3 5) (v_3 6) (v_3 7) (v_3 8 0) (v_3 8 1) o' hz) (fun o' => (wLn_cutL cy a v_3 _ _ _ _ _)) ⟨hx, hb, hml, hown, hts⟩ (cwV 0 hts gX1_empty_X5_empty rfl rfl rfl (by decide +kernel) ⟨by decide, by decide⟩) (ci := 5) (q0 := 0) rfl (wLg_at0 cy (fun k => a (7 + k)) (v_3 5) (v_3 6) (v_3 7) (v_3 8 0) (v_3 8 1)) hK hSE hA hP hD hS rfl hl.1 rfl (Nat.le_of_ble_eq_true rfl) dX1_empty_21 ⟨Nat.le_refl _, Nat.le_refl _⟩ (fun o4 hF H locs hP hD hS => ?_)
  refine z_nameW (wf := (fun y => (wLn cy a y))) hF hP hD (fun v_5 hF hP hD => ?_)
  refine z_vret (o := o) (o1 := v_5) (wf := (fun o => (wLn cy a o))) hx hb hr hlocks hK ?_ ?_ hS ?_ dX1_empty_24
  · exact hP
  · exact hD
  · exact hF
def j_X1_copyFrom_28 (v2 : R2) (v_1 : R2) : Option (R2) :=
zbd (f_X5_copyFrom (v_1 5) (v_1 6) (v_1 7) (v2 5) (v2 6) (v2 7) (v2 8 0) (v2 8 1)) fun o2 =>
zlet (zpLg v_1 o2.1 o2.2.1 o2.2.2.1 o2.2.2.2.1 o2.2.2.2.2) fun v_3 =>
zlet (z2 v_3 9 0 (v2 9 0)) fun v_4 =>
zlet (z2 v_4 9 1 (v2 9 1)) fun v_5 =>
zlet (z2 v_5 9 2 (v2 9 2)) fun v_6 =>
some v_6
def b_X1_copyFrom_2 (v2 : R2) (rc2 : (Int32 × R2) → Option (R2)) (s2 : Int32 × R2) : Option (R2) :=
if (4 : Int32) ≤ s2.1 then (
j_X1_copyFrom_28 v2 s2.2) else (
zg (zin s2.1 4) (
zg (zin s2.1 4) (
zbd (f_X4_copyFrom (s2.2 (zn s2.1)) (v2 (zn s2.1))) fun o9 =>
zlet (va_up s2.2 (zn s2.1) o9) fun v_10 =>
zlet (s2.1 + 1) fun x11 =>
rc2 (x11, v_10))))
def f_X1_copyFrom (v : R2) (v2 : R2) : Option (R2) :=
zloop (b_X1_copyFrom_2 v2) 1000 (0, v)
set_option maxHeartbeats 4000000 in
set_option maxRecDepth 100000 in
theorem c_X1_copyFrom (l : Launch) (G : va_G) (cy : Nat → ClassId) (st : Nat → Nat) (a : Nat → Nat) (b : Nat → Nat) (v : R2) (v2 : R2) (o : R2) (hF : f_X1_copyFrom v v2 = some o) : zMv l yX1_copyFrom wsX1_copyFrom (zR 2) G cy st [.ref (a 0), .ref (b 0)] ((wLn cy a v) ++ (wLn cy b v2)) ((wLn cy a o) ++ (wLn cy b v2)) := by
  refine zM_of (cc := cX1_copyFrom) (maxL := 3) (ret := none) (Qc := fun A => zQv G cy A ((wLn cy a o) ++ (wLn cy b v2))) (by decide) rfl (Nat.le_of_ble_eq_true rfl) ?_
  intro p e s m below meth c A ls hx hb hml hr hlocks hown hts hK hSE hA hP hD hS hl
  have hown : s.vm.findClass RX1 = some m.cls := hown
  have hl : lv_has ls 3 [(0, .ref (a 0)), (1, .ref (b 0))] := hl
  have k24 := hts (.fieldLink RX1 24 "TapCascade$Line" "log" "LTapCascade$StepLog;") (by decide +kernel)
  have iX1 : ∀ w ∈ wsX10, w ∈ wsX1_copyFrom := fun w h => List.mem_cons_of_mem _ (List.mem_append_left _ (List.mem_append_left _ (List.mem_append_right _ h)))
  have k29 := hts (.fieldLink RX1 29 "TapCascade$Line" "size" "I") (by decide +kernel)
  have k33 := hts (.fieldLink RX1 33 "TapCascade$Line" "source" "I") (by decide +kernel)
  have k36 := hts (.fieldLink RX1 36 "TapCascade$Line" "ticks" "I") (by decide +kernel)
  have k11 := hts (.fieldLink RX1 11 "TapCascade$Line" "stages" "[LTapCascade$Stage;") (by decide +kernel)
  unfold f_X1_copyFrom at hF
  refine lv_iconst (v := 0) hx hb dX1_copyFrom_0 (by decide) ?_
  refine lv_istore_n (lv' := [(2, .int 0), (0, .ref (a 0)), (1, .ref (b 0))]) hx hb dX1_copyFrom_1 rfl hl (by decide) rfl (fun ls hl => ?_)
  have J28 : ∀ (v_1 : R2) (H : Heap) (locs : List Loc) (ls : Array Slot), va_P G vwCl ((wLn cy a v_1) ++ (wLn cy b v2)) H → va_D A ((wLn cy a v_1) ++ (wLn cy b v2)) → va_S A s.heap H locs → lv_has ls 3 [(0, .ref (a 0)), (1, .ref (b 0))] → j_X1_copyFrom_28 v2 v_1 = some o → W p l e (zR 2) s m ([.ref (a 0), .ref (b 0)] : List Value).toArray below meth c H locs 0 0 (MQ below (zQv G cy A ((wLn cy a o) ++ (wLn cy b v2))) ([.ref (a 0), .ref (b 0)] : List Value).toArray s 0 0 A) (F0 m 28 ls []) := by
    intro v_1 H locs ls hP hD hS hl hF
    unfold j_X1_copyFrom_28 at hF
    refine lv_aload_n hx hb dX1_copyFrom_28 rfl (lv_at hl 0 rfl) ?_
    refine va_get (ci := 1) (C := RX1) (T := TX1) (N := 6) (fs := (zLn a v_1)) (v := .ref (a 7)) hx hb hts iX1 hown hK hP _ (zat_l (wLn_at0 cy a v_1)) rfl 2 (by decide) k24 (fun _ h9 => h9) rfl dX1_copyFrom_29 ?_
    refine lv_aload_n hx hb dX1_copyFrom_32 rfl (lv_at hl 1 rfl) ?_
    refine va_get (ci := 1) (C := RX1) (T := TX1) (N := 6) (fs := (zLn b v2)) (v := .ref (b 7)) hx hb hts iX1 hown hK hP _ (zat_r (wLn_len cy a v_1) (wLn_at0 cy b v2)) rfl 2 (by decide) k24 (fun _ h9 => h9) rfl dX1_copyFrom_33 ?_
    refine z_cVv (b := a 7) (As := [.ref (b 7)]) (rest := []) (wc := ((wLg cy (fun k => a (7 + k)) (v_1 5) (v_1 6) (v_1 7) (v_1 8 0) (v_1 8 1)) ++ (wLg cy (fun k => b (7 + k)) (v2 5) (v2 6) (v2 7) (v2 8 0) (v2 8 1)))) (wcf := fun o' => ((wLg cy (fun k => a (7 + k)) o'.1 o'.2.1 o'.2.2.1 o'.2.2.2.1 o'.2.2.2.2) ++ (wLg cy (fun k => b (7 + k)) (v2 5) (v2 6) (v2 7) (v2 8 0) (v2 8 1)))) (wf := fun o' => ((wLn cy a (zpLg v_1 o'.1 o'.2.1 o'.2.2.1 o'.2.2.2.1 o'.2.2.2.2)) ++ (wLn cy b v2))) hF (fun o' hz => c_X5_copyFrom l G cy st (fun k => a (7 + k)) (fun k => b (7 + k)) (v_1 5) (v_1 6) (v_1 7) (v_1 8 0) (v_1 8 1) (v2 5) (v2 6) (v2 7) (v2 8 0) (v2 8 1) o' hz) (fun o' => (zCut_b (wLn_cutL cy a v_1 _ _ _ _ _) (wLn_cutL0 cy b v2))) ⟨hx, hb, hml, hown, hts⟩ (cwV 1 hts gX1_copyFrom_X5_copyFrom rfl rfl rfl (by decide +kernel) ⟨by decide, by decide⟩) (ci := 5) (q0 := 0) rfl (zat_l (wLg_at0 cy (fun k => a (7 + k)) (v_1 5) (v_1 6) (v_1 7) (v_1 8 0) (v_1 8 1))) hK hSE hA hP hD hS rfl hl.1 rfl (Nat.le_of_ble_eq_true rfl) dX1_copyFrom_36 ⟨Nat.le_refl _, Nat.le_refl _⟩ (fun o2 hF H locs hP hD hS => ?_)
    refine z_nameW (wf := (fun y => ((wLn cy a y) ++ (wLn cy b v2)))) hF hP hD (fun v_3 hF hP hD => ?_)
    refine lv_aload_n hx hb dX1_copyFrom_39 rfl (lv_at hl 0 rfl) ?_
    refine lv_aload_n hx hb dX1_copyFrom_40 rfl (lv_at hl 1 rfl) ?_
    refine va_get (ci := 1) (C := RX1) (T := TX1) (N := 6) (fs := (zLn b v2)) (v := .int (v2 9 0)) hx hb hts iX1 hown hK hP _ (zat_r (wLn_len cy a v_3) (wLn_at0 cy b v2)) rfl 3 (by decide) k29 (fun _ h9 => h9) rfl dX1_copyFrom_41 ?_
    refine z_puti (ci := 1) (C := RX1) (T := TX1) (N := 6) (fs := (zLn a v_3)) (x := v2 9 0) (wf := (fun y => ((wLn cy a y) ++ (wLn cy b v2)))) hx hb hts iX1 tyX1 tyX1_ok nmX1 hown hK hP hD hS _ 3 (zFoc_l (wLn_foc0_3 cy a v_3 (v2 9 0))) rfl (by decide) k29 (fun _ h9 => h9) rfl (by decide +kernel) (Nat.le_of_ble_eq_true rfl) hF dX1_copyFrom_44 (fun v_4 hF H locs hP hD hS => ?_)
    refine lv_aload_n hx hb dX1_copyFrom_47 rfl (lv_at hl 0 rfl) ?_
    refine lv_aload_n hx hb dX1_copyFrom_48 rfl (lv_at hl 1 rfl) ?_
    refine va_get (ci := 1) (C := RX1) (T := TX1) (N := 6) (fs := (zLn b v2)) (v := .int (v2 9 1)) hx hb hts iX1 hown hK hP _ (zat_r (wLn_len cy a v_4) (wLn_at0 cy b v2)) rfl 4 (by decide) k33 (fun _ h9 => h9) rfl dX1_copyFrom_49 ?_
    refine z_puti (ci := 1) (C := RX1) (T := TX1) (N := 6) (fs := (zLn a v_4)) (x := v2 9 1) (wf := (fun y => ((wLn cy a y) ++ (wLn cy b v2)))) hx hb hts iX1 tyX1 tyX1_ok nmX1 hown hK hP hD hS _ 4 (zFoc_l (wLn_foc0_4 cy a v_4 (v2 9 1))) rfl (by decide) k33 (fun _ h9 => h9) rfl (by decide +kernel) (Nat.le_of_ble_eq_true rfl) hF dX1_copyFrom_52 (fun v_5 hF H locs hP hD hS => ?_)
    refine lv_aload_n hx hb dX1_copyFrom_55 rfl (lv_at hl 0 rfl) ?_
    refine lv_aload_n hx hb dX1_copyFrom_56 rfl (lv_at hl 1 rfl) ?_
    refine va_get (ci := 1) (C := RX1) (T := TX1) (N := 6) (fs := (zLn b v2)) (v := .int (v2 9 2)) hx hb hts iX1 hown hK hP _ (zat_r (wLn_len cy a v_5) (wLn_at0 cy b v2)) rfl 5 (by decide) k36 (fun _ h9 => h9) rfl dX1_copyFrom_57 ?_
    refine z_puti (ci := 1) (C := RX1) (T := TX1) (N := 6) (fs := (zLn a v_5)) (x := v2 9 2) (wf := (fun y => ((wLn cy a y) ++ (wLn cy b v2)))) hx hb hts iX1 tyX1 tyX1_ok nmX1 hown hK hP hD hS _ 5 (zFoc_l (wLn_foc0_5 cy a v_5 (v2 9 2))) rfl (by decide) k36 (fun _ h9 => h9) rfl (by decide +kernel) (Nat.le_of_ble_eq_true rfl) hF dX1_copyFrom_60 (fun v_6 hF H locs hP hD hS => ?_)
    refine z_vret (o := o) (o1 := v_6) (wf := (fun o => ((wLn cy a o) ++ (wLn cy b v2)))) hx hb hr hlocks hK ?_ ?_ hS ?_ dX1_copyFrom_63
    · exact hP
    · exact hD
    · exact hF
  have L2 : ∀ (n : Nat) (s2 : Int32 × R2) (H : Heap) (locs : List Loc) (ls : Array Slot), va_P G vwCl ((wLn cy a s2.2) ++ (wLn cy b v2)) H → va_D A ((wLn cy a s2.2) ++ (wLn cy b v2)) → va_S A s.heap H locs → lv_has ls 3 [(0, .ref (a 0)), (1, .ref (b 0)), (2, .int s2.1)] → zloop (b_X1_copyFrom_2 v2) n s2 = some o → W p l e (zR 2) s m ([.ref (a 0), .ref (b 0)] : List Value).toArray below meth c H locs 0 0 (MQ below (zQv G cy A ((wLn cy a o) ++ (wLn cy b v2))) ([.ref (a 0), .ref (b 0)] : List Value).toArray s 0 0 A) (F0 m 2 ls []) := by
    intro n
    induction n with
    | zero => exact fun s2 H locs ls _ _ _ _ hF => (zloop_0 hF).elim
    | succ n ih2 =>
      intro s2 H locs ls hP hD hS hl hF
      have hF : b_X1_copyFrom_2 v2 (zloop (b_X1_copyFrom_2 v2) n) s2 = some o := hF
      generalize zloop (b_X1_copyFrom_2 v2) n = rc2 at ih2 hF
      unfold b_X1_copyFrom_2 at hF
      refine lv_iload_n hx hb dX1_copyFrom_2 rfl (lv_at hl 2 rfl) ?_
      refine lv_iconst (v := 4) hx hb dX1_copyFrom_3 (by decide) ?_
      refine zi_ge (tgt := 28) hx hb hF dX1_copyFrom_4 (by decide) (fun hF => ?_) (fun hF => ?_)
      · exact J28 s2.2 _ _ ls hP hD hS (lv_sub hl [0, 1] rfl) hF
      · refine lv_aload_n hx hb dX1_copyFrom_7 rfl (lv_at hl 0 rfl) ?_
        refine va_get (ci := 1) (C := RX1) (T := TX1) (N := 6) (fs := (zLn a s2.2)) (v := .ref (a 1)) hx hb hts iX1 hown hK hP _ (zat_l (wLn_at0 cy a s2.2)) rfl 0 (by decide) k11 (fun _ h9 => h9) rfl dX1_copyFrom_8 ?_
        refine lv_iload_n hx hb dX1_copyFrom_11 rfl (lv_at hl 2 rfl) ?_
        refine z_aald (ad := (fun j => a (2 + j))) (n := 4) hx hb hK hP _ 5 (zat_l (wLn_at1 cy a s2.2)) rfl hF dX1_copyFrom_12 (fun h7 hF => ?_)
        refine lv_aload_n hx hb dX1_copyFrom_13 rfl (lv_at hl 1 rfl) ?_
        refine va_get (ci := 1) (C := RX1) (T := TX1) (N := 6) (fs := (zLn b v2)) (v := .ref (b 1)) hx hb hts iX1 hown hK hP _ (zat_r (wLn_len cy a s2.2) (wLn_at0 cy b v2)) rfl 0 (by decide) k11 (fun _ h9 => h9) rfl dX1_copyFrom_14 ?_
        refine lv_iload_n hx hb dX1_copyFrom_17 rfl (lv_at hl 2 rfl) ?_
        refine z_aald (ad := (fun j => b (2 + j))) (n := 4) hx hb hK hP _ 5 (zat_r (wLn_len cy a s2.2) (wLn_at1 cy b v2)) rfl hF dX1_copyFrom_18 (fun h8 hF => ?_)
        refine z_cVv (b := a (2 + zn s2.1)) (As := [.ref (b (2 + zn s2.1))]) (rest := []) (wc := ((wSt cy (a (2 + zn s2.1)) (s2.2 (zn s2.1))) ++ (wSt cy (b (2 + zn s2.1)) (v2 (zn s2.1))))) (wcf := fun o' => ((wSt cy (a (2 + zn s2.1)) o') ++ (wSt cy (b (2 + zn s2.1)) (v2 (zn s2.1))))) (wf := fun o' => ((wLn cy a (va_up s2.2 (zn s2.1) o')) ++ (wLn cy b v2))) hF (fun o' hz => c_X4_copyFrom l G cy st (a (2 + zn s2.1)) (b (2 + zn s2.1)) (s2.2 (zn s2.1)) (v2 (zn s2.1)) o' hz) (fun o' => (zCut_b (wLn_cutS cy a s2.2 h7 _) (wLn_cutS0 cy b v2 h8))) ⟨hx, hb, hml, hown, hts⟩ (cwV 1 hts gX1_copyFrom_X4_copyFrom rfl rfl rfl (by decide +kernel) ⟨by decide, by decide⟩) (ci := 4) (q0 := 0) rfl (zat_l (wSt_at0 cy (a (2 + zn s2.1)) (s2.2 (zn s2.1)))) hK hSE hA hP hD hS rfl hl.1 rfl (Nat.le_of_ble_eq_true rfl) dX1_copyFrom_19 ⟨Nat.le_refl _, Nat.le_refl _⟩ (fun o9 hF H locs hP hD hS => ?_)
        refine z_nameW (wf := (fun y => ((wLn cy a y) ++ (wLn cy b v2)))) hF hP hD (fun v_10 hF hP hD => ?_)
        refine z_name hF (fun x11 ex11 hF => ?_)
        refine lv_iinc (v := x11) (lv' := [(2, .int x11), (0, .ref (a 0)), (1, .ref (b 0))]) hx hb dX1_copyFrom_22 hl (k := 2) rfl (by rw [ex11]; rfl) (by decide) rfl (fun ls hl => ?_)
        refine lv_goto (tgt := 2) hx hb dX1_copyFrom_25 (by decide) ?_
        exact ih2 (x11, v_10) _ _ ls hP hD hS (lv_sub hl [1, 2, 0] rfl) hF
  exact L2 1000 (0, v) _ _ ls hP hD hS (lv_sub hl [1, 2, 0] rfl) hF
def f_X1_has (v : R2) (x01 : Int32) : Option (Int32) :=
if x01 < 0 then (
some 0) else (
if (v 9 0) ≤ x01 then (
some 0) else (
some 1))
set_option maxHeartbeats 4000000 in
set_option maxRecDepth 100000 in
theorem c_X1_has (l : Launch) (G : va_G) (cy : Nat → ClassId) (st : Nat → Nat) (a : Nat → Nat) (v : R2) (x01 : Int32) (o : Int32) (hF : f_X1_has v x01 = some o) : zMi l yX1_has wsX1_has (zR 1) G cy st [.ref (a 0), .int x01] (wLn cy a v) (wLn cy a v) o := by
  refine zM_of (cc := cX1_has) (maxL := 2) (ret := (some .boolean)) (Qc := fun A => zQi G cy A (wLn cy a v) o) (by decide) rfl (Nat.le_of_ble_eq_true rfl) ?_
  intro p e s m below meth c A ls hx hb hml hr hlocks hown hts hK hSE hA hP hD hS hl
  have hown : s.vm.findClass RX1 = some m.cls := hown
  have hl : lv_has ls 2 [(0, .ref (a 0)), (1, .int x01)] := hl
  have k29 := hts (.fieldLink RX1 29 "TapCascade$Line" "size" "I") (by decide +kernel)
  have iX1 : ∀ w ∈ wsX10, w ∈ wsX1_has := fun w h => List.mem_cons_of_mem _ (List.mem_append_right _ h)
  unfold f_X1_has at hF
  refine lv_iload_n hx hb dX1_has_0 rfl (lv_at hl 1 rfl) ?_
  refine zf_lt (tgt := 16) hx hb hF dX1_has_1 (by decide) (fun hF => ?_) (fun hF => ?_)
  · refine lv_iconst (v := 0) hx hb dX1_has_16 (by decide) ?_
    refine z_zret (o := o) (o1 := 0) (v := 0) (wf := (fun o => (wLn cy a v))) (rf := fun o => o) hx hb hr hlocks hK ?_ ?_ hS ?_ rfl rfl dX1_has_17
    · exact hP
    · exact hD
    · exact hF
  · refine lv_iload_n hx hb dX1_has_4 rfl (lv_at hl 1 rfl) ?_
    refine lv_aload_n hx hb dX1_has_5 rfl (lv_at hl 0 rfl) ?_
    refine va_get (ci := 1) (C := RX1) (T := TX1) (N := 6) (fs := (zLn a v)) (v := .int (v 9 0)) hx hb hts iX1 hown hK hP _ (wLn_at0 cy a v) rfl 3 (by decide) k29 (fun _ h9 => h9) rfl dX1_has_6 ?_
    refine zi_ge (tgt := 16) hx hb hF dX1_has_9 (by decide) (fun hF => ?_) (fun hF => ?_)
    · refine lv_iconst (v := 0) hx hb dX1_has_16 (by decide) ?_
      refine z_zret (o := o) (o1 := 0) (v := 0) (wf := (fun o => (wLn cy a v))) (rf := fun o => o) hx hb hr hlocks hK ?_ ?_ hS ?_ rfl rfl dX1_has_17
      · exact hP
      · exact hD
      · exact hF
    · refine lv_iconst (v := 1) hx hb dX1_has_12 (by decide) ?_
      refine lv_goto (tgt := 17) hx hb dX1_has_13 (by decide) ?_
      refine z_zret (o := o) (o1 := 1) (v := 1) (wf := (fun o => (wLn cy a v))) (rf := fun o => o) hx hb hr hlocks hK ?_ ?_ hS ?_ rfl rfl dX1_has_17
      · exact hP
      · exact hD
      · exact hF
def f_X1_addStage (v : R2) (t : Nat → Int32) : Option (Int32 × R2) :=
if (v 9 0) < (4 : Int32) then (
zg (zin (v 9 0) 4) (
zbd (f_X4_layDown (v (zn (v 9 0))) t) fun o2 =>
zlet (va_up v (zn (v 9 0)) o2) fun v_3 =>
zlet (z2 v_3 9 0 ((v_3 9 0) + 1)) fun v_4 =>
some (1, v_4))) else (
some (0, v))
set_option maxHeartbeats 4000000 in
set_option maxRecDepth 100000 in
theorem c_X1_addStage (l : Launch) (G : va_G) (cy : Nat → ClassId) (st : Nat → Nat) (a : Nat → Nat) (b : Nat) (v : R2) (t : Nat → Int32) (o : Int32 × R2) (hF : f_X1_addStage v t = some o) : zMi l yX1_addStage wsX1_addStage (zR 2) G cy st [.ref (a 0), .ref b] ((wLn cy a v) ++ (wAr cy b t)) ((wLn cy a o.2) ++ (wAr cy b t)) o.1 := by
  refine zM_of (cc := cX1_addStage) (maxL := 2) (ret := (some .boolean)) (Qc := fun A => zQi G cy A ((wLn cy a o.2) ++ (wAr cy b t)) o.1) (by decide) rfl (Nat.le_of_ble_eq_true rfl) ?_
  intro p e s m below meth c A ls hx hb hml hr hlocks hown hts hK hSE hA hP hD hS hl
  have hown : s.vm.findClass RX1 = some m.cls := hown
  have hl : lv_has ls 2 [(0, .ref (a 0)), (1, .ref b)] := hl
  have k29 := hts (.fieldLink RX1 29 "TapCascade$Line" "size" "I") (by decide +kernel)
  have iX1 : ∀ w ∈ wsX10, w ∈ wsX1_addStage := fun w h => List.mem_cons_of_mem _ (List.mem_append_left _ (List.mem_append_right _ h))
  have k11 := hts (.fieldLink RX1 11 "TapCascade$Line" "stages" "[LTapCascade$Stage;") (by decide +kernel)
  unfold f_X1_addStage at hF
  refine lv_aload_n hx hb dX1_addStage_0 rfl (lv_at hl 0 rfl) ?_
  refine va_get (ci := 1) (C := RX1) (T := TX1) (N := 6) (fs := (zLn a v)) (v := .int (v 9 0)) hx hb hts iX1 hown hK hP _ (zat_l (wLn_at0 cy a v)) rfl 3 (by decide) k29 (fun _ h9 => h9) rfl dX1_addStage_1 ?_
  refine lv_iconst (v := 4) hx hb dX1_addStage_4 (by decide) ?_
  refine zi_lt (tgt := 10) hx hb hF dX1_addStage_5 (by decide) (fun hF => ?_) (fun hF => ?_)
  · refine lv_aload_n hx hb dX1_addStage_10 rfl (lv_at hl 0 rfl) ?_
    refine va_get (ci := 1) (C := RX1) (T := TX1) (N := 6) (fs := (zLn a v)) (v := .ref (a 1)) hx hb hts iX1 hown hK hP _ (zat_l (wLn_at0 cy a v)) rfl 0 (by decide) k11 (fun _ h9 => h9) rfl dX1_addStage_11 ?_
    refine lv_aload_n hx hb dX1_addStage_14 rfl (lv_at hl 0 rfl) ?_
    refine va_get (ci := 1) (C := RX1) (T := TX1) (N := 6) (fs := (zLn a v)) (v := .int (v 9 0)) hx hb hts iX1 hown hK hP _ (zat_l (wLn_at0 cy a v)) rfl 3 (by decide) k29 (fun _ h9 => h9) rfl dX1_addStage_15 ?_
    refine z_aald (ad := (fun j => a (2 + j))) (n := 4) hx hb hK hP _ 5 (zat_l (wLn_at1 cy a v)) rfl hF dX1_addStage_18 (fun h1 hF => ?_)
    refine lv_aload_n hx hb dX1_addStage_19 rfl (lv_at hl 1 rfl) ?_
    refine z_cVv (b := a (2 + zn (v 9 0))) (As := [.ref b]) (rest := []) (wc := ((wSt cy (a (2 + zn (v 9 0))) (v (zn (v 9 0)))) ++ (wAr cy b t))) (wcf := fun o' => ((wSt cy (a (2 + zn (v 9 0))) o') ++ (wAr cy b t))) (wf := fun o' => ((wLn cy a (va_up v (zn (v 9 0)) o')) ++ (wAr cy b t))) hF (fun o' hz => c_X4_layDown l G cy st (a (2 + zn (v 9 0))) b (v (zn (v 9 0))) t o' hz) (fun o' => (zCut_b (wLn_cutS cy a v h1 _) zCut_all)) ⟨hx, hb, hml, hown, hts⟩ (cwV 1 hts gX1_addStage_X4_layDown rfl rfl rfl (by decide +kernel) ⟨by decide, by decide⟩) (ci := 4) (q0 := 0) rfl (zat_l (wSt_at0 cy (a (2 + zn (v 9 0))) (v (zn (v 9 0))))) hK hSE hA hP hD hS rfl hl.1 rfl (Nat.le_of_ble_eq_true rfl) dX1_addStage_20 ⟨Nat.le_refl _, Nat.le_refl _⟩ (fun o2 hF H locs hP hD hS => ?_)
    refine z_nameW (wf := (fun y => ((wLn cy a y) ++ (wAr cy b t)))) hF hP hD (fun v_3 hF hP hD => ?_)
    refine lv_aload_n hx hb dX1_addStage_23 rfl (lv_at hl 0 rfl) ?_
    refine lv_dup hx hb dX1_addStage_24 rfl ?_
    refine va_get (ci := 1) (C := RX1) (T := TX1) (N := 6) (fs := (zLn a v_3)) (v := .int (v_3 9 0)) hx hb hts iX1 hown hK hP _ (zat_l (wLn_at0 cy a v_3)) rfl 3 (by decide) k29 (fun _ h9 => h9) rfl dX1_addStage_25 ?_
    refine lv_iconst (v := 1) hx hb dX1_addStage_28 (by decide) ?_
    refine lv_iadd hx hb dX1_addStage_29 ?_
    refine z_puti (ci := 1) (C := RX1) (T := TX1) (N := 6) (fs := (zLn a v_3)) (x := ((v_3 9 0) + 1)) (wf := (fun y => ((wLn cy a y) ++ (wAr cy b t)))) hx hb hts iX1 tyX1 tyX1_ok nmX1 hown hK hP hD hS _ 3 (zFoc_l (wLn_foc0_3 cy a v_3 ((v_3 9 0) + 1))) rfl (by decide) k29 (fun _ h9 => h9) rfl (by decide +kernel) (Nat.le_of_ble_eq_true rfl) hF dX1_addStage_30 (fun v_4 hF H locs hP hD hS => ?_)
    refine lv_iconst (v := 1) hx hb dX1_addStage_33 (by decide) ?_
    refine z_zret (o := o) (o1 := (1, v_4)) (v := 1) (wf := (fun o => ((wLn cy a o.2) ++ (wAr cy b t)))) (rf := fun o => o.1) hx hb hr hlocks hK ?_ ?_ hS ?_ rfl rfl dX1_addStage_34
    · exact hP
    · exact hD
    · exact hF
  · refine lv_iconst (v := 0) hx hb dX1_addStage_8 (by decide) ?_
    refine z_zret (o := o) (o1 := (0, v)) (v := 0) (wf := (fun o => ((wLn cy a o.2) ++ (wAr cy b t)))) (rf := fun o => o.1) hx hb hr hlocks hK ?_ ?_ hS ?_ rfl rfl dX1_addStage_9
    · exact hP
    · exact hD
    · exact hF
def f_X1_lostBehind (v : R2) (x01 : Int32) : Option (Int32) :=
if (v 9 0) ≤ (x01 + 1) then (
some 0) else (
zg (zin x01 4) (
zg (zin (x01 + 1) 4) (
zbd (f_X7_lostBetween (v (zn x01) 6) (v (zn (x01 + 1)) 12)) fun o3 =>
some o3)))
set_option maxHeartbeats 4000000 in
set_option maxRecDepth 100000 in
theorem c_X1_lostBehind (l : Launch) (G : va_G) (cy : Nat → ClassId) (st : Nat → Nat) (a : Nat → Nat) (v : R2) (x01 : Int32) (o : Int32) (hF : f_X1_lostBehind v x01 = some o) : zMi l yX1_lostBehind wsX1_lostBehind (zR 2) G cy st [.ref (a 0), .int x01] (wLn cy a v) (wLn cy a v) o := by
  refine zM_of (cc := cX1_lostBehind) (maxL := 2) (ret := (some .int)) (Qc := fun A => zQi G cy A (wLn cy a v) o) (by decide) rfl (Nat.le_of_ble_eq_true rfl) ?_
  intro p e s m below meth c A ls hx hb hml hr hlocks hown hts hK hSE hA hP hD hS hl
  have hown : s.vm.findClass RX1 = some m.cls := hown
  have hl : lv_has ls 2 [(0, .ref (a 0)), (1, .int x01)] := hl
  have k29 := hts (.fieldLink RX1 29 "TapCascade$Line" "size" "I") (by decide +kernel)
  have iX1 : ∀ w ∈ wsX10, w ∈ wsX1_lostBehind := fun w h => List.mem_cons_of_mem _ (List.mem_append_left _ (List.mem_append_right _ h))
  have k11 := hts (.fieldLink RX1 11 "TapCascade$Line" "stages" "[LTapCascade$Stage;") (by decide +kernel)
  have k77 := hts (.fieldLink RX1 77 "TapCascade$Stage" "way" "I") (by decide +kernel)
  have iX4 : ∀ w ∈ wsX40, w ∈ wsX1_lostBehind := fun w h => List.mem_cons_of_mem _ (List.mem_append_right _ h)
  have k56 := hts (.fieldLink RX1 56 "TapCascade$Stage" "flow" "I") (by decide +kernel)
  have kNi := hts (.initialized RX7) (by decide +kernel)
  have kNs80 := hts (.static yX7_lostBetween) (by decide +kernel)
  unfold f_X1_lostBehind at hF
  refine lv_iload_n hx hb dX1_lostBehind_0 rfl (lv_at hl 1 rfl) ?_
  refine lv_iconst (v := 1) hx hb dX1_lostBehind_1 (by decide) ?_
  refine lv_iadd hx hb dX1_lostBehind_2 ?_
  refine lv_aload_n hx hb dX1_lostBehind_3 rfl (lv_at hl 0 rfl) ?_
  refine va_get (ci := 1) (C := RX1) (T := TX1) (N := 6) (fs := (zLn a v)) (v := .int (v 9 0)) hx hb hts iX1 hown hK hP _ (wLn_at0 cy a v) rfl 3 (by decide) k29 (fun _ h9 => h9) rfl dX1_lostBehind_4 ?_
  refine zi_ge (tgt := 36) hx hb hF dX1_lostBehind_7 (by decide) (fun hF => ?_) (fun hF => ?_)
  · refine lv_iconst (v := 0) hx hb dX1_lostBehind_36 (by decide) ?_
    refine z_iret (o := o) (o1 := 0) (v := 0) (wf := (fun o => (wLn cy a v))) (rf := fun o => o) hx hb hr hlocks hK ?_ ?_ hS ?_ rfl dX1_lostBehind_37
    · exact hP
    · exact hD
    · exact hF
  · refine lv_aload_n hx hb dX1_lostBehind_10 rfl (lv_at hl 0 rfl) ?_
    refine va_get (ci := 1) (C := RX1) (T := TX1) (N := 6) (fs := (zLn a v)) (v := .ref (a 1)) hx hb hts iX1 hown hK hP _ (wLn_at0 cy a v) rfl 0 (by decide) k11 (fun _ h9 => h9) rfl dX1_lostBehind_11 ?_
    refine lv_iload_n hx hb dX1_lostBehind_14 rfl (lv_at hl 1 rfl) ?_
    refine z_aald (ad := (fun j => a (2 + j))) (n := 4) hx hb hK hP _ 5 (wLn_at1 cy a v) rfl hF dX1_lostBehind_15 (fun h1 hF => ?_)
    refine va_get (ci := 4) (C := RX4) (T := TX4) (N := 15) (fs := (zSt (v (zn x01)))) (v := .int (v (zn x01) 6)) hx hb hts iX4 hown hK hP _ (wLn_atS cy a v h1) rfl 6 (by decide) k77 (fun _ h9 => h9) rfl dX1_lostBehind_16 ?_
    refine lv_aload_n hx hb dX1_lostBehind_19 rfl (lv_at hl 0 rfl) ?_
    refine va_get (ci := 1) (C := RX1) (T := TX1) (N := 6) (fs := (zLn a v)) (v := .ref (a 1)) hx hb hts iX1 hown hK hP _ (wLn_at0 cy a v) rfl 0 (by decide) k11 (fun _ h9 => h9) rfl dX1_lostBehind_20 ?_
    refine lv_iload_n hx hb dX1_lostBehind_23 rfl (lv_at hl 1 rfl) ?_
    refine lv_iconst (v := 1) hx hb dX1_lostBehind_24 (by decide) ?_
    refine lv_iadd hx hb dX1_lostBehind_25 ?_
    refine z_aald (ad := (fun j => a (2 + j))) (n := 4) hx hb hK hP _ 5 (wLn_at1 cy a v) rfl hF dX1_lostBehind_26 (fun h2 hF => ?_)
    refine va_get (ci := 4) (C := RX4) (T := TX4) (N := 15) (fs := (zSt (v (zn (x01 + 1))))) (v := .int (v (zn (x01 + 1)) 12)) hx hb hts iX4 hown hK hP _ (wLn_atS cy a v h2) rfl 12 (by decide) k56 (fun _ h9 => h9) rfl dX1_lostBehind_27 ?_
    refine z_cNi (As := [.int (v (zn x01) 6), .int (v (zn (x01 + 1)) 12)]) (rest := []) (wc := ([] : va_W)) (wcf := fun o' => ([] : va_W)) (wf := fun o' => (wLn cy a v)) (rf := fun o' => o') hF (fun o' hz => c_X7_lostBetween l G cy st (v (zn x01) 6) (v (zn (x01 + 1)) 12) o' hz) (fun o' => zCut_nil) ⟨hx, hb, hml, hown, hts⟩ ⟨va_cnB 2 hts gX1_lostBehind_X7_lostBetween_n80 rfl rfl rfl hSE.2.2.1.2.2.2.2.1 kNi (by decide +kernel) ⟨by decide, by decide⟩, kNs80, trivial⟩ hK hSE hA hP hD hS rfl hl.1 rfl (Nat.le_of_ble_eq_true rfl) dX1_lostBehind_30 ⟨Nat.le_refl _, Nat.le_refl _⟩ (fun o3 hF H locs hP hD hS => ?_)
    refine lv_goto (tgt := 37) hx hb dX1_lostBehind_33 (by decide) ?_
    refine z_iret (o := o) (o1 := o3) (v := o3) (wf := (fun o => (wLn cy a v))) (rf := fun o => o) hx hb hr hlocks hK ?_ ?_ hS ?_ rfl dX1_lostBehind_37
    · exact hP
    · exact hD
    · exact hF
def b_X1_reckon_48 (rc48 : (Int32 × Int32 × R2) → Option (R2)) (s48 : Int32 × Int32 × R2) : Option (R2) :=
if (s48.2.2 9 0) ≤ s48.2.1 then (
some s48.2.2) else (
zg (zin s48.2.1 4) (
zlet (z2 s48.2.2 (zn s48.2.1) 13 s48.1) fun v_5 =>
zbd (f_X4_turned (v_5 (zn s48.2.1))) fun o6 =>
zbd (f_X7_outOf s48.1 o6) fun o7 =>
zlet (z2 v_5 (zn s48.2.1) 14 o7) fun v_8 =>
zbd (f_X1_lostBehind v_8 s48.2.1) fun o9 =>
zlet ((v_8 (zn s48.2.1) 14) - o9) fun x10 =>
zlet (s48.2.1 + 1) fun x11 =>
rc48 (x10, x11, v_8)))
def j_X1_reckon_41 (v_2 : R2) : Option (R2) :=
zlet (v_2 9 1) fun x3 =>
zloop (b_X1_reckon_48) 1000 (x3, 0, v_2)
def b_X1_reckon_9 (rc9 : (Int32 × Int32 × R2) → Option (R2)) (s9 : Int32 × Int32 × R2) : Option (R2) :=
if s9.2.1 < 0 then (
j_X1_reckon_41 s9.2.2) else (
zg (zin s9.2.1 4) (
zlet (s9.1 + (s9.2.2 (zn s9.2.1) 5)) fun x13 =>
zg (zin s9.2.1 4) (
zlet (z2 s9.2.2 (zn s9.2.1) 12 x13) fun v_15 =>
zlet (s9.2.1 + (-1)) fun x16 =>
rc9 (x13, x16, v_15))))
def f_X1_reckon (v : R2) : Option (R2) :=
zlet ((v 9 0) - 1) fun x1 =>
zloop (b_X1_reckon_9) 1000 (0, x1, v)
set_option maxHeartbeats 4000000 in
set_option maxRecDepth 100000 in
theorem c_X1_reckon (l : Launch) (G : va_G) (cy : Nat → ClassId) (st : Nat → Nat) (a : Nat → Nat) (v : R2) (o : R2) (hF : f_X1_reckon v = some o) : zMv l yX1_reckon wsX1_reckon (zR 3) G cy st [.ref (a 0)] (wLn cy a v) (wLn cy a o) := by
  refine zM_of (cc := cX1_reckon) (maxL := 5) (ret := none) (Qc := fun A => zQv G cy A (wLn cy a o)) (by decide) rfl (Nat.le_of_ble_eq_true rfl) ?_
  intro p e s m below meth c A ls hx hb hml hr hlocks hown hts hK hSE hA hP hD hS hl
  have hown : s.vm.findClass RX1 = some m.cls := hown
  have hl : lv_has ls 5 [(0, .ref (a 0))] := hl
  have k29 := hts (.fieldLink RX1 29 "TapCascade$Line" "size" "I") (by decide +kernel)
  have iX1 : ∀ w ∈ wsX10, w ∈ wsX1_reckon := fun w h => List.mem_cons_of_mem _ (List.mem_append_left _ (List.mem_append_right _ h))
  have k33 := hts (.fieldLink RX1 33 "TapCascade$Line" "source" "I") (by decide +kernel)
  have k11 := hts (.fieldLink RX1 11 "TapCascade$Line" "stages" "[LTapCascade$Stage;") (by decide +kernel)
  have k59 := hts (.fieldLink RX1 59 "TapCascade$Stage" "in" "I") (by decide +kernel)
  have iX4 : ∀ w ∈ wsX40, w ∈ wsX1_reckon := fun w h => List.mem_cons_of_mem _ (List.mem_append_right _ h)
  have kNi := hts (.initialized RX7) (by decide +kernel)
  have kNs66 := hts (.static yX7_outOf) (by decide +kernel)
  have k70 := hts (.fieldLink RX1 70 "TapCascade$Stage" "out" "I") (by decide +kernel)
  have k53 := hts (.fieldLink RX1 53 "TapCascade$Stage" "load" "I") (by decide +kernel)
  have k56 := hts (.fieldLink RX1 56 "TapCascade$Stage" "flow" "I") (by decide +kernel)
  unfold f_X1_reckon at hF
  refine lv_iconst (v := 0) hx hb dX1_reckon_0 (by decide) ?_
  refine lv_istore_n (lv' := [(1, .int 0), (0, .ref (a 0))]) hx hb dX1_reckon_1 rfl hl (by decide) rfl (fun ls hl => ?_)
  refine lv_aload_n hx hb dX1_reckon_2 rfl (lv_at hl 1 rfl) ?_
  refine va_get (ci := 1) (C := RX1) (T := TX1) (N := 6) (fs := (zLn a v)) (v := .int (v 9 0)) hx hb hts iX1 hown hK hP _ (wLn_at0 cy a v) rfl 3 (by decide) k29 (fun _ h9 => h9) rfl dX1_reckon_3 ?_
  refine lv_iconst (v := 1) hx hb dX1_reckon_6 (by decide) ?_
  refine lv_isub hx hb dX1_reckon_7 ?_
  refine z_leti hF (fun x1 hF => ?_)
  refine lv_istore_n (lv' := [(2, .int x1), (1, .int 0), (0, .ref (a 0))]) hx hb dX1_reckon_8 rfl hl (by decide) rfl (fun ls hl => ?_)
  have J41 : ∀ (v_2 : R2) (H : Heap) (locs : List Loc) (ls : Array Slot), va_P G vwCl (wLn cy a v_2) H → va_D A (wLn cy a v_2) → va_S A s.heap H locs → lv_has ls 5 [(0, .ref (a 0))] → j_X1_reckon_41 v_2 = some o → W p l e (zR 3) s m ([.ref (a 0)] : List Value).toArray below meth c H locs 0 0 (MQ below (zQv G cy A (wLn cy a o)) ([.ref (a 0)] : List Value).toArray s 0 0 A) (F0 m 41 ls []) := by
    intro v_2 H locs ls hP hD hS hl hF
    unfold j_X1_reckon_41 at hF
    refine lv_aload_n hx hb dX1_reckon_41 rfl (lv_at hl 0 rfl) ?_
    refine va_get (ci := 1) (C := RX1) (T := TX1) (N := 6) (fs := (zLn a v_2)) (v := .int (v_2 9 1)) hx hb hts iX1 hown hK hP _ (wLn_at0 cy a v_2) rfl 4 (by decide) k33 (fun _ h9 => h9) rfl dX1_reckon_42 ?_
    refine z_leti hF (fun x3 hF => ?_)
    refine lv_istore_n (lv' := [(2, .int x3), (0, .ref (a 0))]) hx hb dX1_reckon_45 rfl hl (by decide) rfl (fun ls hl => ?_)
    refine lv_iconst (v := 0) hx hb dX1_reckon_46 (by decide) ?_
    refine lv_istore_n (lv' := [(3, .int 0), (2, .int x3), (0, .ref (a 0))]) hx hb dX1_reckon_47 rfl hl (by decide) rfl (fun ls hl => ?_)
    have L48 : ∀ (n : Nat) (s48 : Int32 × Int32 × R2) (H : Heap) (locs : List Loc) (ls : Array Slot), va_P G vwCl (wLn cy a s48.2.2) H → va_D A (wLn cy a s48.2.2) → va_S A s.heap H locs → lv_has ls 5 [(0, .ref (a 0)), (2, .int s48.1), (3, .int s48.2.1)] → zloop (b_X1_reckon_48) n s48 = some o → W p l e (zR 3) s m ([.ref (a 0)] : List Value).toArray below meth c H locs 0 0 (MQ below (zQv G cy A (wLn cy a o)) ([.ref (a 0)] : List Value).toArray s 0 0 A) (F0 m 48 ls []) := by
      intro n
      induction n with
      | zero => exact fun s48 H locs ls _ _ _ _ hF => (zloop_0 hF).elim
      | succ n ih48 =>
        intro s48 H locs ls hP hD hS hl hF
        have hF : b_X1_reckon_48 (zloop (b_X1_reckon_48) n) s48 = some o := hF
        generalize zloop (b_X1_reckon_48) n = rc48 at ih48 hF
        unfold b_X1_reckon_48 at hF
        refine lv_iload_n hx hb dX1_reckon_48 rfl (lv_at hl 2 rfl) ?_
        refine lv_aload_n hx hb dX1_reckon_49 rfl (lv_at hl 0 rfl) ?_
        refine va_get (ci := 1) (C := RX1) (T := TX1) (N := 6) (fs := (zLn a s48.2.2)) (v := .int (s48.2.2 9 0)) hx hb hts iX1 hown hK hP _ (wLn_at0 cy a s48.2.2) rfl 3 (by decide) k29 (fun _ h9 => h9) rfl dX1_reckon_50 ?_
        refine zi_ge (tgt := 102) hx hb hF dX1_reckon_53 (by decide) (fun hF => ?_) (fun hF => ?_)
        · refine z_vret (o := o) (o1 := s48.2.2) (wf := (fun o => (wLn cy a o))) hx hb hr hlocks hK ?_ ?_ hS ?_ dX1_reckon_102
          · exact hP
          · exact hD
          · exact hF
        · refine lv_aload_n hx hb dX1_reckon_56 rfl (lv_at hl 0 rfl) ?_
          refine va_get (ci := 1) (C := RX1) (T := TX1) (N := 6) (fs := (zLn a s48.2.2)) (v := .ref (a 1)) hx hb hts iX1 hown hK hP _ (wLn_at0 cy a s48.2.2) rfl 0 (by decide) k11 (fun _ h9 => h9) rfl dX1_reckon_57 ?_
          refine lv_iload_n hx hb dX1_reckon_60 rfl (lv_at hl 2 rfl) ?_
          refine z_aald (ad := (fun j => a (2 + j))) (n := 4) hx hb hK hP _ 5 (wLn_at1 cy a s48.2.2) rfl hF dX1_reckon_61 (fun h4 hF => ?_)
          refine lv_astore (lv' := [(4, .ref (a (2 + zn s48.2.1))), (0, .ref (a 0)), (2, .int s48.1), (3, .int s48.2.1)]) hx hb dX1_reckon_62 hl (by decide) rfl (fun ls hl => ?_)
          refine lv_aload hx hb dX1_reckon_64 (lv_at hl 0 rfl) ?_
          refine lv_iload_n hx hb dX1_reckon_66 rfl (lv_at hl 2 rfl) ?_
          refine z_puti (ci := 4) (C := RX4) (T := TX4) (N := 15) (fs := (zSt (s48.2.2 (zn s48.2.1)))) (x := s48.1) (wf := (fun y => (wLn cy a y))) hx hb hts iX4 tyX4 tyX4_ok nmX4 hown hK hP hD hS _ 13 (wLn_focS cy a s48.2.2 h4 13 (by decide) s48.1) rfl (by decide) k59 (fun _ h9 => h9) rfl (by decide +kernel) (Nat.le_of_ble_eq_true rfl) hF dX1_reckon_67 (fun v_5 hF H locs hP hD hS => ?_)
          refine lv_aload hx hb dX1_reckon_70 (lv_at hl 0 rfl) ?_
          refine lv_iload_n hx hb dX1_reckon_72 rfl (lv_at hl 2 rfl) ?_
          refine lv_aload hx hb dX1_reckon_73 (lv_at hl 0 rfl) ?_
          refine z_cVi (b := a (2 + zn s48.2.1)) (As := []) (rest := [.int s48.1, .ref (a (2 + zn s48.2.1))]) (wc := (wSt cy (a (2 + zn s48.2.1)) (v_5 (zn s48.2.1)))) (wcf := fun o' => (wSt cy (a (2 + zn s48.2.1)) (v_5 (zn s48.2.1)))) (wf := fun o' => (wLn cy a v_5)) (rf := fun o' => o') hF (fun o' hz => c_X4_turned l G cy st (a (2 + zn s48.2.1)) (v_5 (zn s48.2.1)) o' hz) (fun o' => (wLn_cutS0 cy a v_5 h4)) ⟨hx, hb, hml, hown, hts⟩ (cwV 0 hts gX1_reckon_X4_turned rfl rfl rfl (by decide +kernel) ⟨by decide, by decide⟩) (ci := 4) (q0 := 0) rfl (wSt_at0 cy (a (2 + zn s48.2.1)) (v_5 (zn s48.2.1))) hK hSE hA hP hD hS rfl hl.1 rfl (Nat.le_of_ble_eq_true rfl) dX1_reckon_75 ⟨Nat.le_refl _, Nat.le_refl _⟩ (fun o6 hF H locs hP hD hS => ?_)
          refine z_cNi (As := [.int s48.1, .int o6]) (rest := [.ref (a (2 + zn s48.2.1))]) (wc := ([] : va_W)) (wcf := fun o' => ([] : va_W)) (wf := fun o' => (wLn cy a v_5)) (rf := fun o' => o') hF (fun o' hz => c_X7_outOf l G cy st s48.1 o6 o' hz) (fun o' => zCut_nil) ⟨hx, hb, hml, hown, hts⟩ ⟨va_cnB 2 hts gX1_reckon_X7_outOf_n66 rfl rfl rfl hSE.2.2.1.2.2.2.1 kNi (by decide +kernel) ⟨by decide, by decide⟩, kNs66, trivial⟩ hK hSE hA hP hD hS rfl hl.1 rfl (Nat.le_of_ble_eq_true rfl) dX1_reckon_78 ⟨Nat.le_refl _, Nat.le_refl _⟩ (fun o7 hF H locs hP hD hS => ?_)
          refine z_puti (ci := 4) (C := RX4) (T := TX4) (N := 15) (fs := (zSt (v_5 (zn s48.2.1)))) (x := o7) (wf := (fun y => (wLn cy a y))) hx hb hts iX4 tyX4 tyX4_ok nmX4 hown hK hP hD hS _ 14 (wLn_focS cy a v_5 h4 14 (by decide) o7) rfl (by decide) k70 (fun _ h9 => h9) rfl (by decide +kernel) (Nat.le_of_ble_eq_true rfl) hF dX1_reckon_81 (fun v_8 hF H locs hP hD hS => ?_)
          refine lv_aload hx hb dX1_reckon_84 (lv_at hl 0 rfl) ?_
          refine va_get (ci := 4) (C := RX4) (T := TX4) (N := 15) (fs := (zSt (v_8 (zn s48.2.1)))) (v := .int (v_8 (zn s48.2.1) 14)) hx hb hts iX4 hown hK hP _ (wLn_atS cy a v_8 h4) rfl 14 (by decide) k70 (fun _ h9 => h9) rfl dX1_reckon_86 ?_
          refine lv_aload_n hx hb dX1_reckon_89 rfl (lv_at hl 1 rfl) ?_
          refine lv_iload_n hx hb dX1_reckon_90 rfl (lv_at hl 3 rfl) ?_
          refine z_cVi (b := a 0) (As := [.int s48.2.1]) (rest := [.int (v_8 (zn s48.2.1) 14)]) (wc := (wLn cy a v_8)) (wcf := fun o' => (wLn cy a v_8)) (wf := fun o' => (wLn cy a v_8)) (rf := fun o' => o') hF (fun o' hz => c_X1_lostBehind l G cy st a v_8 s48.2.1 o' hz) (fun o' => zCut_all) ⟨hx, hb, hml, hown, hts⟩ (cwV 1 hts gX1_reckon_X1_lostBehind rfl rfl rfl (by decide +kernel) ⟨by decide, by decide⟩) (ci := 1) (q0 := 0) rfl (wLn_at0 cy a v_8) hK hSE hA hP hD hS rfl hl.1 rfl (Nat.le_of_ble_eq_true rfl) dX1_reckon_91 ⟨Nat.le_refl _, Nat.le_refl _⟩ (fun o9 hF H locs hP hD hS => ?_)
          refine lv_isub hx hb dX1_reckon_94 ?_
          refine z_leti hF (fun x10 hF => ?_)
          refine lv_istore_n (lv' := [(2, .int x10), (4, .ref (a (2 + zn s48.2.1))), (0, .ref (a 0)), (3, .int s48.2.1)]) hx hb dX1_reckon_95 rfl hl (by decide) rfl (fun ls hl => ?_)
          refine z_name hF (fun x11 ex11 hF => ?_)
          refine lv_iinc (v := x11) (lv' := [(3, .int x11), (2, .int x10), (4, .ref (a (2 + zn s48.2.1))), (0, .ref (a 0))]) hx hb dX1_reckon_96 hl (k := 3) rfl (by rw [ex11]; rfl) (by decide) rfl (fun ls hl => ?_)
          refine lv_goto (tgt := 48) hx hb dX1_reckon_99 (by decide) ?_
          exact ih48 (x10, x11, v_8) _ _ ls hP hD hS (lv_sub hl [3, 1, 0] rfl) hF
    exact L48 1000 (x3, 0, v_2) _ _ ls hP hD hS (lv_sub hl [2, 1, 0] rfl) hF
  have L9 : ∀ (n : Nat) (s9 : Int32 × Int32 × R2) (H : Heap) (locs : List Loc) (ls : Array Slot), va_P G vwCl (wLn cy a s9.2.2) H → va_D A (wLn cy a s9.2.2) → va_S A s.heap H locs → lv_has ls 5 [(0, .ref (a 0)), (1, .int s9.1), (2, .int s9.2.1)] → zloop (b_X1_reckon_9) n s9 = some o → W p l e (zR 3) s m ([.ref (a 0)] : List Value).toArray below meth c H locs 0 0 (MQ below (zQv G cy A (wLn cy a o)) ([.ref (a 0)] : List Value).toArray s 0 0 A) (F0 m 9 ls []) := by
    intro n
    induction n with
    | zero => exact fun s9 H locs ls _ _ _ _ hF => (zloop_0 hF).elim
    | succ n ih9 =>
      intro s9 H locs ls hP hD hS hl hF
      have hF : b_X1_reckon_9 (zloop (b_X1_reckon_9) n) s9 = some o := hF
      generalize zloop (b_X1_reckon_9) n = rc9 at ih9 hF
      unfold b_X1_reckon_9 at hF
      refine lv_iload_n hx hb dX1_reckon_9 rfl (lv_at hl 2 rfl) ?_
      refine zf_lt (tgt := 41) hx hb hF dX1_reckon_10 (by decide) (fun hF => ?_) (fun hF => ?_)
      · exact J41 s9.2.2 _ _ ls hP hD hS (lv_sub hl [0] rfl) hF
      · refine lv_iload_n hx hb dX1_reckon_13 rfl (lv_at hl 1 rfl) ?_
        refine lv_aload_n hx hb dX1_reckon_14 rfl (lv_at hl 0 rfl) ?_
        refine va_get (ci := 1) (C := RX1) (T := TX1) (N := 6) (fs := (zLn a s9.2.2)) (v := .ref (a 1)) hx hb hts iX1 hown hK hP _ (wLn_at0 cy a s9.2.2) rfl 0 (by decide) k11 (fun _ h9 => h9) rfl dX1_reckon_15 ?_
        refine lv_iload_n hx hb dX1_reckon_18 rfl (lv_at hl 2 rfl) ?_
        refine z_aald (ad := (fun j => a (2 + j))) (n := 4) hx hb hK hP _ 5 (wLn_at1 cy a s9.2.2) rfl hF dX1_reckon_19 (fun h12 hF => ?_)
        refine va_get (ci := 4) (C := RX4) (T := TX4) (N := 15) (fs := (zSt (s9.2.2 (zn s9.2.1)))) (v := .int (s9.2.2 (zn s9.2.1) 5)) hx hb hts iX4 hown hK hP _ (wLn_atS cy a s9.2.2 h12) rfl 5 (by decide) k53 (fun _ h9 => h9) rfl dX1_reckon_20 ?_
        refine lv_iadd hx hb dX1_reckon_23 ?_
        refine z_leti hF (fun x13 hF => ?_)
        refine lv_istore_n (lv' := [(1, .int x13), (0, .ref (a 0)), (2, .int s9.2.1)]) hx hb dX1_reckon_24 rfl hl (by decide) rfl (fun ls hl => ?_)
        refine lv_aload_n hx hb dX1_reckon_25 rfl (lv_at hl 1 rfl) ?_
        refine va_get (ci := 1) (C := RX1) (T := TX1) (N := 6) (fs := (zLn a s9.2.2)) (v := .ref (a 1)) hx hb hts iX1 hown hK hP _ (wLn_at0 cy a s9.2.2) rfl 0 (by decide) k11 (fun _ h9 => h9) rfl dX1_reckon_26 ?_
        refine lv_iload_n hx hb dX1_reckon_29 rfl (lv_at hl 2 rfl) ?_
        refine z_aald (ad := (fun j => a (2 + j))) (n := 4) hx hb hK hP _ 5 (wLn_at1 cy a s9.2.2) rfl hF dX1_reckon_30 (fun h14 hF => ?_)
        refine lv_iload_n hx hb dX1_reckon_31 rfl (lv_at hl 0 rfl) ?_
        refine z_puti (ci := 4) (C := RX4) (T := TX4) (N := 15) (fs := (zSt (s9.2.2 (zn s9.2.1)))) (x := x13) (wf := (fun y => (wLn cy a y))) hx hb hts iX4 tyX4 tyX4_ok nmX4 hown hK hP hD hS _ 12 (wLn_focS cy a s9.2.2 h14 12 (by decide) x13) rfl (by decide) k56 (fun _ h9 => h9) rfl (by decide +kernel) (Nat.le_of_ble_eq_true rfl) hF dX1_reckon_32 (fun v_15 hF H locs hP hD hS => ?_)
        refine z_name hF (fun x16 ex16 hF => ?_)
        refine lv_iinc (v := x16) (lv' := [(2, .int x16), (1, .int x13), (0, .ref (a 0))]) hx hb dX1_reckon_35 hl (k := 2) rfl (by rw [ex16]; rfl) (by decide) rfl (fun ls hl => ?_)
        refine lv_goto (tgt := 9) hx hb dX1_reckon_38 (by decide) ?_
        exact ih9 (x13, x16, v_15) _ _ ls hP hD hS (lv_sub hl [2, 1, 0] rfl) hF
  exact L9 1000 (0, x1, v) _ _ ls hP hD hS (lv_sub hl [2, 1, 0] rfl) hF
def b_X1_isQuiet_2 (v : R2) (rc2 : (Int32) → Option (Int32)) (s2 : Int32) : Option (Int32) :=
if (v 9 0) ≤ s2 then (
some 1) else (
zg (zin s2 4) (
zbd (f_X4_canAsItWants (v (zn s2))) fun o2 =>
if o2 = 0 then (
zlet (s2 + 1) fun x3 =>
rc2 (x3)) else (
some 0)))
def f_X1_isQuiet (v : R2) : Option (Int32) :=
zloop (b_X1_isQuiet_2 v) 1000 (0)
set_option maxHeartbeats 4000000 in
set_option maxRecDepth 100000 in
theorem c_X1_isQuiet (l : Launch) (G : va_G) (cy : Nat → ClassId) (st : Nat → Nat) (a : Nat → Nat) (v : R2) (o : Int32) (hF : f_X1_isQuiet v = some o) : zMi l yX1_isQuiet wsX1_isQuiet (zR 4) G cy st [.ref (a 0)] (wLn cy a v) (wLn cy a v) o := by
  refine zM_of (cc := cX1_isQuiet) (maxL := 2) (ret := (some .boolean)) (Qc := fun A => zQi G cy A (wLn cy a v) o) (by decide) rfl (Nat.le_of_ble_eq_true rfl) ?_
  intro p e s m below meth c A ls hx hb hml hr hlocks hown hts hK hSE hA hP hD hS hl
  have hown : s.vm.findClass RX1 = some m.cls := hown
  have hl : lv_has ls 2 [(0, .ref (a 0))] := hl
  have k29 := hts (.fieldLink RX1 29 "TapCascade$Line" "size" "I") (by decide +kernel)
  have iX1 : ∀ w ∈ wsX10, w ∈ wsX1_isQuiet := fun w h => List.mem_cons_of_mem _ (List.mem_append_left _ (List.mem_append_right _ h))
  have k11 := hts (.fieldLink RX1 11 "TapCascade$Line" "stages" "[LTapCascade$Stage;") (by decide +kernel)
  unfold f_X1_isQuiet at hF
  refine lv_iconst (v := 0) hx hb dX1_isQuiet_0 (by decide) ?_
  refine lv_istore_n (lv' := [(1, .int 0), (0, .ref (a 0))]) hx hb dX1_isQuiet_1 rfl hl (by decide) rfl (fun ls hl => ?_)
  have L2 : ∀ (n : Nat) (s2 : Int32) (H : Heap) (locs : List Loc) (ls : Array Slot), va_P G vwCl (wLn cy a v) H → va_D A (wLn cy a v) → va_S A s.heap H locs → lv_has ls 2 [(0, .ref (a 0)), (1, .int s2)] → zloop (b_X1_isQuiet_2 v) n s2 = some o → W p l e (zR 4) s m ([.ref (a 0)] : List Value).toArray below meth c H locs 0 0 (MQ below (zQi G cy A (wLn cy a v) o) ([.ref (a 0)] : List Value).toArray s 0 0 A) (F0 m 2 ls []) := by
    intro n
    induction n with
    | zero => exact fun s2 H locs ls _ _ _ _ hF => (zloop_0 hF).elim
    | succ n ih2 =>
      intro s2 H locs ls hP hD hS hl hF
      have hF : b_X1_isQuiet_2 v (zloop (b_X1_isQuiet_2 v) n) s2 = some o := hF
      generalize zloop (b_X1_isQuiet_2 v) n = rc2 at ih2 hF
      unfold b_X1_isQuiet_2 at hF
      refine lv_iload_n hx hb dX1_isQuiet_2 rfl (lv_at hl 1 rfl) ?_
      refine lv_aload_n hx hb dX1_isQuiet_3 rfl (lv_at hl 0 rfl) ?_
      refine va_get (ci := 1) (C := RX1) (T := TX1) (N := 6) (fs := (zLn a v)) (v := .int (v 9 0)) hx hb hts iX1 hown hK hP _ (wLn_at0 cy a v) rfl 3 (by decide) k29 (fun _ h9 => h9) rfl dX1_isQuiet_4 ?_
      refine zi_ge (tgt := 30) hx hb hF dX1_isQuiet_7 (by decide) (fun hF => ?_) (fun hF => ?_)
      · refine lv_iconst (v := 1) hx hb dX1_isQuiet_30 (by decide) ?_
        refine z_zret (o := o) (o1 := 1) (v := 1) (wf := (fun o => (wLn cy a v))) (rf := fun o => o) hx hb hr hlocks hK ?_ ?_ hS ?_ rfl rfl dX1_isQuiet_31
        · exact hP
        · exact hD
        · exact hF
      · refine lv_aload_n hx hb dX1_isQuiet_10 rfl (lv_at hl 0 rfl) ?_
        refine va_get (ci := 1) (C := RX1) (T := TX1) (N := 6) (fs := (zLn a v)) (v := .ref (a 1)) hx hb hts iX1 hown hK hP _ (wLn_at0 cy a v) rfl 0 (by decide) k11 (fun _ h9 => h9) rfl dX1_isQuiet_11 ?_
        refine lv_iload_n hx hb dX1_isQuiet_14 rfl (lv_at hl 1 rfl) ?_
        refine z_aald (ad := (fun j => a (2 + j))) (n := 4) hx hb hK hP _ 5 (wLn_at1 cy a v) rfl hF dX1_isQuiet_15 (fun h1 hF => ?_)
        refine z_cVi (b := a (2 + zn s2)) (As := []) (rest := []) (wc := (wSt cy (a (2 + zn s2)) (v (zn s2)))) (wcf := fun o' => (wSt cy (a (2 + zn s2)) (v (zn s2)))) (wf := fun o' => (wLn cy a v)) (rf := fun o' => o') hF (fun o' hz => c_X4_canAsItWants l G cy st (a (2 + zn s2)) (v (zn s2)) o' hz) (fun o' => (wLn_cutS0 cy a v h1)) ⟨hx, hb, hml, hown, hts⟩ (cwV 0 hts gX1_isQuiet_X4_canAsItWants rfl rfl rfl (by decide +kernel) ⟨by decide, by decide⟩) (ci := 4) (q0 := 0) rfl (wSt_at0 cy (a (2 + zn s2)) (v (zn s2))) hK hSE hA hP hD hS rfl hl.1 rfl (Nat.le_of_ble_eq_true rfl) dX1_isQuiet_16 ⟨Nat.le_refl _, Nat.le_refl _⟩ (fun o2 hF H locs hP hD hS => ?_)
        refine zf_eq (tgt := 24) hx hb hF dX1_isQuiet_19 (by decide) (fun hF => ?_) (fun hF => ?_)
        · refine z_name hF (fun x3 ex3 hF => ?_)
          refine lv_iinc (v := x3) (lv' := [(1, .int x3), (0, .ref (a 0))]) hx hb dX1_isQuiet_24 hl (k := 1) rfl (by rw [ex3]; rfl) (by decide) rfl (fun ls hl => ?_)
          refine lv_goto (tgt := 2) hx hb dX1_isQuiet_27 (by decide) ?_
          exact ih2 (x3) _ _ ls hP hD hS (lv_sub hl [1, 0] rfl) hF
        · refine lv_iconst (v := 0) hx hb dX1_isQuiet_22 (by decide) ?_
          refine z_zret (o := o) (o1 := 0) (v := 0) (wf := (fun o => (wLn cy a v))) (rf := fun o => o) hx hb hr hlocks hK ?_ ?_ hS ?_ rfl rfl dX1_isQuiet_23
          · exact hP
          · exact hD
          · exact hF
  exact L2 1000 (0) _ _ ls hP hD hS (lv_sub hl [1, 0] rfl) hF
def j_X1_goodStages_30 (rc4 : (Int32 × Int32) → Option (Int32)) (s4 : Int32 × Int32) (t3 : Int32) : Option (Int32) :=
zlet (s4.1 + t3) fun x4 =>
zlet (s4.2 + 1) fun x5 =>
rc4 (x4, x5)
def b_X1_goodStages_4 (v : R2) (rc4 : (Int32 × Int32) → Option (Int32)) (s4 : Int32 × Int32) : Option (Int32) :=
if (v 9 0) ≤ s4.2 then (
some s4.1) else (
zg (zin s4.2 4) (
zbd (f_X4_judged (v (zn s4.2))) fun o2 =>
if o2 = 0 then (
j_X1_goodStages_30 rc4 s4 1) else (
j_X1_goodStages_30 rc4 s4 0)))
def f_X1_goodStages (v : R2) : Option (Int32) :=
zloop (b_X1_goodStages_4 v) 1000 (0, 0)
set_option maxHeartbeats 4000000 in
set_option maxRecDepth 100000 in
theorem c_X1_goodStages (l : Launch) (G : va_G) (cy : Nat → ClassId) (st : Nat → Nat) (a : Nat → Nat) (v : R2) (o : Int32) (hF : f_X1_goodStages v = some o) : zMi l yX1_goodStages wsX1_goodStages (zR 2) G cy st [.ref (a 0)] (wLn cy a v) (wLn cy a v) o := by
  refine zM_of (cc := cX1_goodStages) (maxL := 3) (ret := (some .int)) (Qc := fun A => zQi G cy A (wLn cy a v) o) (by decide) rfl (Nat.le_of_ble_eq_true rfl) ?_
  intro p e s m below meth c A ls hx hb hml hr hlocks hown hts hK hSE hA hP hD hS hl
  have hown : s.vm.findClass RX1 = some m.cls := hown
  have hl : lv_has ls 3 [(0, .ref (a 0))] := hl
  have k29 := hts (.fieldLink RX1 29 "TapCascade$Line" "size" "I") (by decide +kernel)
  have iX1 : ∀ w ∈ wsX10, w ∈ wsX1_goodStages := fun w h => List.mem_cons_of_mem _ (List.mem_append_left _ (List.mem_append_right _ h))
  have k11 := hts (.fieldLink RX1 11 "TapCascade$Line" "stages" "[LTapCascade$Stage;") (by decide +kernel)
  unfold f_X1_goodStages at hF
  refine lv_iconst (v := 0) hx hb dX1_goodStages_0 (by decide) ?_
  refine lv_istore_n (lv' := [(1, .int 0), (0, .ref (a 0))]) hx hb dX1_goodStages_1 rfl hl (by decide) rfl (fun ls hl => ?_)
  refine lv_iconst (v := 0) hx hb dX1_goodStages_2 (by decide) ?_
  refine lv_istore_n (lv' := [(2, .int 0), (1, .int 0), (0, .ref (a 0))]) hx hb dX1_goodStages_3 rfl hl (by decide) rfl (fun ls hl => ?_)
  have L4 : ∀ (n : Nat) (s4 : Int32 × Int32) (H : Heap) (locs : List Loc) (ls : Array Slot), va_P G vwCl (wLn cy a v) H → va_D A (wLn cy a v) → va_S A s.heap H locs → lv_has ls 3 [(0, .ref (a 0)), (1, .int s4.1), (2, .int s4.2)] → zloop (b_X1_goodStages_4 v) n s4 = some o → W p l e (zR 2) s m ([.ref (a 0)] : List Value).toArray below meth c H locs 0 0 (MQ below (zQi G cy A (wLn cy a v) o) ([.ref (a 0)] : List Value).toArray s 0 0 A) (F0 m 4 ls []) := by
    intro n
    induction n with
    | zero => exact fun s4 H locs ls _ _ _ _ hF => (zloop_0 hF).elim
    | succ n ih4 =>
      intro s4 H locs ls hP hD hS hl hF
      have hF : b_X1_goodStages_4 v (zloop (b_X1_goodStages_4 v) n) s4 = some o := hF
      generalize zloop (b_X1_goodStages_4 v) n = rc4 at ih4 hF
      unfold b_X1_goodStages_4 at hF
      refine lv_iload_n hx hb dX1_goodStages_4 rfl (lv_at hl 2 rfl) ?_
      refine lv_aload_n hx hb dX1_goodStages_5 rfl (lv_at hl 0 rfl) ?_
      refine va_get (ci := 1) (C := RX1) (T := TX1) (N := 6) (fs := (zLn a v)) (v := .int (v 9 0)) hx hb hts iX1 hown hK hP _ (wLn_at0 cy a v) rfl 3 (by decide) k29 (fun _ h9 => h9) rfl dX1_goodStages_6 ?_
      refine zi_ge (tgt := 38) hx hb hF dX1_goodStages_9 (by decide) (fun hF => ?_) (fun hF => ?_)
      · refine lv_iload_n hx hb dX1_goodStages_38 rfl (lv_at hl 1 rfl) ?_
        refine z_iret (o := o) (o1 := s4.1) (v := s4.1) (wf := (fun o => (wLn cy a v))) (rf := fun o => o) hx hb hr hlocks hK ?_ ?_ hS ?_ rfl dX1_goodStages_39
        · exact hP
        · exact hD
        · exact hF
      · refine lv_iload_n hx hb dX1_goodStages_12 rfl (lv_at hl 1 rfl) ?_
        refine lv_aload_n hx hb dX1_goodStages_13 rfl (lv_at hl 0 rfl) ?_
        refine va_get (ci := 1) (C := RX1) (T := TX1) (N := 6) (fs := (zLn a v)) (v := .ref (a 1)) hx hb hts iX1 hown hK hP _ (wLn_at0 cy a v) rfl 0 (by decide) k11 (fun _ h9 => h9) rfl dX1_goodStages_14 ?_
        refine lv_iload_n hx hb dX1_goodStages_17 rfl (lv_at hl 2 rfl) ?_
        refine z_aald (ad := (fun j => a (2 + j))) (n := 4) hx hb hK hP _ 5 (wLn_at1 cy a v) rfl hF dX1_goodStages_18 (fun h1 hF => ?_)
        refine z_cVi (b := a (2 + zn s4.2)) (As := []) (rest := [.int s4.1]) (wc := (wSt cy (a (2 + zn s4.2)) (v (zn s4.2)))) (wcf := fun o' => (wSt cy (a (2 + zn s4.2)) (v (zn s4.2)))) (wf := fun o' => (wLn cy a v)) (rf := fun o' => o') hF (fun o' hz => c_X4_judged l G cy st (a (2 + zn s4.2)) (v (zn s4.2)) o' hz) (fun o' => (wLn_cutS0 cy a v h1)) ⟨hx, hb, hml, hown, hts⟩ (cwV 0 hts gX1_goodStages_X4_judged rfl rfl rfl (by decide +kernel) ⟨by decide, by decide⟩) (ci := 4) (q0 := 0) rfl (wSt_at0 cy (a (2 + zn s4.2)) (v (zn s4.2))) hK hSE hA hP hD hS rfl hl.1 rfl (Nat.le_of_ble_eq_true rfl) dX1_goodStages_19 ⟨Nat.le_refl _, Nat.le_refl _⟩ (fun o2 hF H locs hP hD hS => ?_)
        have J30 : ∀ (t3 : Int32) (H : Heap) (locs : List Loc) (ls : Array Slot), va_P G vwCl (wLn cy a v) H → va_D A (wLn cy a v) → va_S A s.heap H locs → lv_has ls 3 [(0, .ref (a 0)), (2, .int s4.2)] → j_X1_goodStages_30 rc4 s4 t3 = some o → W p l e (zR 2) s m ([.ref (a 0)] : List Value).toArray below meth c H locs 0 0 (MQ below (zQi G cy A (wLn cy a v) o) ([.ref (a 0)] : List Value).toArray s 0 0 A) (F0 m 30 ls [.int t3, .int s4.1]) := by
          intro t3 H locs ls hP hD hS hl hF
          unfold j_X1_goodStages_30 at hF
          refine lv_iadd hx hb dX1_goodStages_30 ?_
          refine z_leti hF (fun x4 hF => ?_)
          refine lv_istore_n (lv' := [(1, .int x4), (0, .ref (a 0)), (2, .int s4.2)]) hx hb dX1_goodStages_31 rfl hl (by decide) rfl (fun ls hl => ?_)
          refine z_name hF (fun x5 ex5 hF => ?_)
          refine lv_iinc (v := x5) (lv' := [(2, .int x5), (1, .int x4), (0, .ref (a 0))]) hx hb dX1_goodStages_32 hl (k := 2) rfl (by rw [ex5]; rfl) (by decide) rfl (fun ls hl => ?_)
          refine lv_goto (tgt := 4) hx hb dX1_goodStages_35 (by decide) ?_
          exact ih4 (x4, x5) _ _ ls hP hD hS (lv_sub hl [2, 1, 0] rfl) hF
        refine zf_ne (tgt := 29) hx hb hF dX1_goodStages_22 (by decide) (fun hF => ?_) (fun hF => ?_)
        · refine lv_iconst (v := 0) hx hb dX1_goodStages_29 (by decide) ?_
          exact J30 0 _ _ ls hP hD hS (lv_sub hl [0, 2] rfl) hF
        · refine lv_iconst (v := 1) hx hb dX1_goodStages_25 (by decide) ?_
          refine lv_goto (tgt := 30) hx hb dX1_goodStages_26 (by decide) ?_
          exact J30 1 _ _ ls hP hD hS (lv_sub hl [0, 2] rfl) hF
  exact L4 1000 (0, 0) _ _ ls hP hD hS (lv_sub hl [2, 1, 0] rfl) hF
def j_X1_stuckStages_30 (rc4 : (Int32 × Int32) → Option (Int32)) (s4 : Int32 × Int32) (t2 : Int32) : Option (Int32) :=
zlet (s4.1 + t2) fun x3 =>
zlet (s4.2 + 1) fun x4 =>
rc4 (x3, x4)
def b_X1_stuckStages_4 (v : R2) (rc4 : (Int32 × Int32) → Option (Int32)) (s4 : Int32 × Int32) : Option (Int32) :=
if (v 9 0) ≤ s4.2 then (
some s4.1) else (
zg (zin s4.2 4) (
if (v (zn s4.2) 11) = 0 then (
j_X1_stuckStages_30 rc4 s4 0) else (
j_X1_stuckStages_30 rc4 s4 1)))
def f_X1_stuckStages (v : R2) : Option (Int32) :=
zloop (b_X1_stuckStages_4 v) 1000 (0, 0)
set_option maxHeartbeats 4000000 in
set_option maxRecDepth 100000 in
theorem c_X1_stuckStages (l : Launch) (G : va_G) (cy : Nat → ClassId) (st : Nat → Nat) (a : Nat → Nat) (v : R2) (o : Int32) (hF : f_X1_stuckStages v = some o) : zMi l yX1_stuckStages wsX1_stuckStages (zR 1) G cy st [.ref (a 0)] (wLn cy a v) (wLn cy a v) o := by
  refine zM_of (cc := cX1_stuckStages) (maxL := 3) (ret := (some .int)) (Qc := fun A => zQi G cy A (wLn cy a v) o) (by decide) rfl (Nat.le_of_ble_eq_true rfl) ?_
  intro p e s m below meth c A ls hx hb hml hr hlocks hown hts hK hSE hA hP hD hS hl
  have hown : s.vm.findClass RX1 = some m.cls := hown
  have hl : lv_has ls 3 [(0, .ref (a 0))] := hl
  have k29 := hts (.fieldLink RX1 29 "TapCascade$Line" "size" "I") (by decide +kernel)
  have iX1 : ∀ w ∈ wsX10, w ∈ wsX1_stuckStages := fun w h => List.mem_cons_of_mem _ (List.mem_append_left _ (List.mem_append_right _ h))
  have k11 := hts (.fieldLink RX1 11 "TapCascade$Line" "stages" "[LTapCascade$Stage;") (by decide +kernel)
  have k131 := hts (.fieldLink RX1 131 "TapCascade$Stage" "stuck" "Z") (by decide +kernel)
  have iX4 : ∀ w ∈ wsX40, w ∈ wsX1_stuckStages := fun w h => List.mem_cons_of_mem _ (List.mem_append_right _ h)
  unfold f_X1_stuckStages at hF
  refine lv_iconst (v := 0) hx hb dX1_stuckStages_0 (by decide) ?_
  refine lv_istore_n (lv' := [(1, .int 0), (0, .ref (a 0))]) hx hb dX1_stuckStages_1 rfl hl (by decide) rfl (fun ls hl => ?_)
  refine lv_iconst (v := 0) hx hb dX1_stuckStages_2 (by decide) ?_
  refine lv_istore_n (lv' := [(2, .int 0), (1, .int 0), (0, .ref (a 0))]) hx hb dX1_stuckStages_3 rfl hl (by decide) rfl (fun ls hl => ?_)
  have L4 : ∀ (n : Nat) (s4 : Int32 × Int32) (H : Heap) (locs : List Loc) (ls : Array Slot), va_P G vwCl (wLn cy a v) H → va_D A (wLn cy a v) → va_S A s.heap H locs → lv_has ls 3 [(0, .ref (a 0)), (1, .int s4.1), (2, .int s4.2)] → zloop (b_X1_stuckStages_4 v) n s4 = some o → W p l e (zR 1) s m ([.ref (a 0)] : List Value).toArray below meth c H locs 0 0 (MQ below (zQi G cy A (wLn cy a v) o) ([.ref (a 0)] : List Value).toArray s 0 0 A) (F0 m 4 ls []) := by
    intro n
    induction n with
    | zero => exact fun s4 H locs ls _ _ _ _ hF => (zloop_0 hF).elim
    | succ n ih4 =>
      intro s4 H locs ls hP hD hS hl hF
      have hF : b_X1_stuckStages_4 v (zloop (b_X1_stuckStages_4 v) n) s4 = some o := hF
      generalize zloop (b_X1_stuckStages_4 v) n = rc4 at ih4 hF
      unfold b_X1_stuckStages_4 at hF
      refine lv_iload_n hx hb dX1_stuckStages_4 rfl (lv_at hl 2 rfl) ?_
      refine lv_aload_n hx hb dX1_stuckStages_5 rfl (lv_at hl 0 rfl) ?_
      refine va_get (ci := 1) (C := RX1) (T := TX1) (N := 6) (fs := (zLn a v)) (v := .int (v 9 0)) hx hb hts iX1 hown hK hP _ (wLn_at0 cy a v) rfl 3 (by decide) k29 (fun _ h9 => h9) rfl dX1_stuckStages_6 ?_
      refine zi_ge (tgt := 38) hx hb hF dX1_stuckStages_9 (by decide) (fun hF => ?_) (fun hF => ?_)
      · refine lv_iload_n hx hb dX1_stuckStages_38 rfl (lv_at hl 1 rfl) ?_
        refine z_iret (o := o) (o1 := s4.1) (v := s4.1) (wf := (fun o => (wLn cy a v))) (rf := fun o => o) hx hb hr hlocks hK ?_ ?_ hS ?_ rfl dX1_stuckStages_39
        · exact hP
        · exact hD
        · exact hF
      · refine lv_iload_n hx hb dX1_stuckStages_12 rfl (lv_at hl 1 rfl) ?_
        refine lv_aload_n hx hb dX1_stuckStages_13 rfl (lv_at hl 0 rfl) ?_
        refine va_get (ci := 1) (C := RX1) (T := TX1) (N := 6) (fs := (zLn a v)) (v := .ref (a 1)) hx hb hts iX1 hown hK hP _ (wLn_at0 cy a v) rfl 0 (by decide) k11 (fun _ h9 => h9) rfl dX1_stuckStages_14 ?_
        refine lv_iload_n hx hb dX1_stuckStages_17 rfl (lv_at hl 2 rfl) ?_
        refine z_aald (ad := (fun j => a (2 + j))) (n := 4) hx hb hK hP _ 5 (wLn_at1 cy a v) rfl hF dX1_stuckStages_18 (fun h1 hF => ?_)
        refine va_get (ci := 4) (C := RX4) (T := TX4) (N := 15) (fs := (zSt (v (zn s4.2)))) (v := .int (v (zn s4.2) 11)) hx hb hts iX4 hown hK hP _ (wLn_atS cy a v h1) rfl 11 (by decide) k131 (fun _ h9 => h9) rfl dX1_stuckStages_19 ?_
        have J30 : ∀ (t2 : Int32) (H : Heap) (locs : List Loc) (ls : Array Slot), va_P G vwCl (wLn cy a v) H → va_D A (wLn cy a v) → va_S A s.heap H locs → lv_has ls 3 [(0, .ref (a 0)), (2, .int s4.2)] → j_X1_stuckStages_30 rc4 s4 t2 = some o → W p l e (zR 1) s m ([.ref (a 0)] : List Value).toArray below meth c H locs 0 0 (MQ below (zQi G cy A (wLn cy a v) o) ([.ref (a 0)] : List Value).toArray s 0 0 A) (F0 m 30 ls [.int t2, .int s4.1]) := by
          intro t2 H locs ls hP hD hS hl hF
          unfold j_X1_stuckStages_30 at hF
          refine lv_iadd hx hb dX1_stuckStages_30 ?_
          refine z_leti hF (fun x3 hF => ?_)
          refine lv_istore_n (lv' := [(1, .int x3), (0, .ref (a 0)), (2, .int s4.2)]) hx hb dX1_stuckStages_31 rfl hl (by decide) rfl (fun ls hl => ?_)
          refine z_name hF (fun x4 ex4 hF => ?_)
          refine lv_iinc (v := x4) (lv' := [(2, .int x4), (1, .int x3), (0, .ref (a 0))]) hx hb dX1_stuckStages_32 hl (k := 2) rfl (by rw [ex4]; rfl) (by decide) rfl (fun ls hl => ?_)
          refine lv_goto (tgt := 4) hx hb dX1_stuckStages_35 (by decide) ?_
          exact ih4 (x3, x4) _ _ ls hP hD hS (lv_sub hl [2, 1, 0] rfl) hF
        refine zf_eq (tgt := 29) hx hb hF dX1_stuckStages_22 (by decide) (fun hF => ?_) (fun hF => ?_)
        · refine lv_iconst (v := 0) hx hb dX1_stuckStages_29 (by decide) ?_
          exact J30 0 _ _ ls hP hD hS (lv_sub hl [0, 2] rfl) hF
        · refine lv_iconst (v := 1) hx hb dX1_stuckStages_25 (by decide) ?_
          refine lv_goto (tgt := 30) hx hb dX1_stuckStages_26 (by decide) ?_
          exact J30 1 _ _ ls hP hD hS (lv_sub hl [0, 2] rfl) hF
  exact L4 1000 (0, 0) _ _ ls hP hD hS (lv_sub hl [2, 1, 0] rfl) hF
def b_X1_off_4 (v : R2) (rc4 : (Int32 × Int32) → Option (Int32)) (s4 : Int32 × Int32) : Option (Int32) :=
if (v 9 0) ≤ s4.2 then (
some s4.1) else (
zg (zin s4.2 4) (
zbd (f_X4_off (v (zn s4.2))) fun o2 =>
zlet (s4.1 + o2) fun x3 =>
zlet (s4.2 + 1) fun x4 =>
rc4 (x3, x4)))
def f_X1_off (v : R2) : Option (Int32) :=
zloop (b_X1_off_4 v) 1000 (0, 0)
set_option maxHeartbeats 4000000 in
set_option maxRecDepth 100000 in
theorem c_X1_off (l : Launch) (G : va_G) (cy : Nat → ClassId) (st : Nat → Nat) (a : Nat → Nat) (v : R2) (o : Int32) (hF : f_X1_off v = some o) : zMi l yX1_off wsX1_off (zR 2) G cy st [.ref (a 0)] (wLn cy a v) (wLn cy a v) o := by
  refine zM_of (cc := cX1_off) (maxL := 3) (ret := (some .int)) (Qc := fun A => zQi G cy A (wLn cy a v) o) (by decide) rfl (Nat.le_of_ble_eq_true rfl) ?_
  intro p e s m below meth c A ls hx hb hml hr hlocks hown hts hK hSE hA hP hD hS hl
  have hown : s.vm.findClass RX1 = some m.cls := hown
  have hl : lv_has ls 3 [(0, .ref (a 0))] := hl
  have k29 := hts (.fieldLink RX1 29 "TapCascade$Line" "size" "I") (by decide +kernel)
  have iX1 : ∀ w ∈ wsX10, w ∈ wsX1_off := fun w h => List.mem_cons_of_mem _ (List.mem_append_left _ (List.mem_append_right _ h))
  have k11 := hts (.fieldLink RX1 11 "TapCascade$Line" "stages" "[LTapCascade$Stage;") (by decide +kernel)
  unfold f_X1_off at hF
  refine lv_iconst (v := 0) hx hb dX1_off_0 (by decide) ?_
  refine lv_istore_n (lv' := [(1, .int 0), (0, .ref (a 0))]) hx hb dX1_off_1 rfl hl (by decide) rfl (fun ls hl => ?_)
  refine lv_iconst (v := 0) hx hb dX1_off_2 (by decide) ?_
  refine lv_istore_n (lv' := [(2, .int 0), (1, .int 0), (0, .ref (a 0))]) hx hb dX1_off_3 rfl hl (by decide) rfl (fun ls hl => ?_)
  have L4 : ∀ (n : Nat) (s4 : Int32 × Int32) (H : Heap) (locs : List Loc) (ls : Array Slot), va_P G vwCl (wLn cy a v) H → va_D A (wLn cy a v) → va_S A s.heap H locs → lv_has ls 3 [(0, .ref (a 0)), (1, .int s4.1), (2, .int s4.2)] → zloop (b_X1_off_4 v) n s4 = some o → W p l e (zR 2) s m ([.ref (a 0)] : List Value).toArray below meth c H locs 0 0 (MQ below (zQi G cy A (wLn cy a v) o) ([.ref (a 0)] : List Value).toArray s 0 0 A) (F0 m 4 ls []) := by
    intro n
    induction n with
    | zero => exact fun s4 H locs ls _ _ _ _ hF => (zloop_0 hF).elim
    | succ n ih4 =>
      intro s4 H locs ls hP hD hS hl hF
      have hF : b_X1_off_4 v (zloop (b_X1_off_4 v) n) s4 = some o := hF
      generalize zloop (b_X1_off_4 v) n = rc4 at ih4 hF
      unfold b_X1_off_4 at hF
      refine lv_iload_n hx hb dX1_off_4 rfl (lv_at hl 2 rfl) ?_
      refine lv_aload_n hx hb dX1_off_5 rfl (lv_at hl 0 rfl) ?_
      refine va_get (ci := 1) (C := RX1) (T := TX1) (N := 6) (fs := (zLn a v)) (v := .int (v 9 0)) hx hb hts iX1 hown hK hP _ (wLn_at0 cy a v) rfl 3 (by decide) k29 (fun _ h9 => h9) rfl dX1_off_6 ?_
      refine zi_ge (tgt := 30) hx hb hF dX1_off_9 (by decide) (fun hF => ?_) (fun hF => ?_)
      · refine lv_iload_n hx hb dX1_off_30 rfl (lv_at hl 1 rfl) ?_
        refine z_iret (o := o) (o1 := s4.1) (v := s4.1) (wf := (fun o => (wLn cy a v))) (rf := fun o => o) hx hb hr hlocks hK ?_ ?_ hS ?_ rfl dX1_off_31
        · exact hP
        · exact hD
        · exact hF
      · refine lv_iload_n hx hb dX1_off_12 rfl (lv_at hl 1 rfl) ?_
        refine lv_aload_n hx hb dX1_off_13 rfl (lv_at hl 0 rfl) ?_
        refine va_get (ci := 1) (C := RX1) (T := TX1) (N := 6) (fs := (zLn a v)) (v := .ref (a 1)) hx hb hts iX1 hown hK hP _ (wLn_at0 cy a v) rfl 0 (by decide) k11 (fun _ h9 => h9) rfl dX1_off_14 ?_
        refine lv_iload_n hx hb dX1_off_17 rfl (lv_at hl 2 rfl) ?_
        refine z_aald (ad := (fun j => a (2 + j))) (n := 4) hx hb hK hP _ 5 (wLn_at1 cy a v) rfl hF dX1_off_18 (fun h1 hF => ?_)
        refine z_cVi (b := a (2 + zn s4.2)) (As := []) (rest := [.int s4.1]) (wc := (wSt cy (a (2 + zn s4.2)) (v (zn s4.2)))) (wcf := fun o' => (wSt cy (a (2 + zn s4.2)) (v (zn s4.2)))) (wf := fun o' => (wLn cy a v)) (rf := fun o' => o') hF (fun o' hz => c_X4_off l G cy st (a (2 + zn s4.2)) (v (zn s4.2)) o' hz) (fun o' => (wLn_cutS0 cy a v h1)) ⟨hx, hb, hml, hown, hts⟩ (cwV 0 hts gX1_off_X4_off rfl rfl rfl (by decide +kernel) ⟨by decide, by decide⟩) (ci := 4) (q0 := 0) rfl (wSt_at0 cy (a (2 + zn s4.2)) (v (zn s4.2))) hK hSE hA hP hD hS rfl hl.1 rfl (Nat.le_of_ble_eq_true rfl) dX1_off_19 ⟨Nat.le_refl _, Nat.le_refl _⟩ (fun o2 hF H locs hP hD hS => ?_)
        refine lv_iadd hx hb dX1_off_22 ?_
        refine z_leti hF (fun x3 hF => ?_)
        refine lv_istore_n (lv' := [(1, .int x3), (0, .ref (a 0)), (2, .int s4.2)]) hx hb dX1_off_23 rfl hl (by decide) rfl (fun ls hl => ?_)
        refine z_name hF (fun x4 ex4 hF => ?_)
        refine lv_iinc (v := x4) (lv' := [(2, .int x4), (1, .int x3), (0, .ref (a 0))]) hx hb dX1_off_24 hl (k := 2) rfl (by rw [ex4]; rfl) (by decide) rfl (fun ls hl => ?_)
        refine lv_goto (tgt := 4) hx hb dX1_off_27 (by decide) ?_
        exact ih4 (x3, x4) _ _ ls hP hD hS (lv_sub hl [2, 1, 0] rfl) hF
  exact L4 1000 (0, 0) _ _ ls hP hD hS (lv_sub hl [2, 1, 0] rfl) hF
def b_X1_packed_4 (v : R2) (rc4 : (Int64 × Int32) → Option (Int64)) (s4 : Int64 × Int32) : Option (Int64) :=
if (v 9 0) ≤ s4.2 then (
some s4.1) else (
zg (zin s4.2 4) (
zlet ((s4.1 <<< ((Int32.toInt64 4) &&& 63)) ||| (Int32.toInt64 ((v (zn s4.2) 7) + 5))) fun x2 =>
zlet ((x2 <<< ((Int32.toInt64 4) &&& 63)) ||| (Int32.toInt64 (v (zn s4.2) 8))) fun x3 =>
zlet ((x3 <<< ((Int32.toInt64 2) &&& 63)) ||| (Int32.toInt64 (v (zn s4.2) 9))) fun x4 =>
zlet (s4.2 + 1) fun x5 =>
rc4 (x4, x5)))
def f_X1_packed (v : R2) : Option (Int64) :=
zloop (b_X1_packed_4 v) 1000 (0, 0)
set_option maxHeartbeats 4000000 in
set_option maxRecDepth 100000 in
theorem c_X1_packed (l : Launch) (G : va_G) (cy : Nat → ClassId) (st : Nat → Nat) (a : Nat → Nat) (v : R2) (o : Int64) (hF : f_X1_packed v = some o) : zMl l yX1_packed wsX1_packed (zR 1) G cy st [.ref (a 0)] (wLn cy a v) (wLn cy a v) o := by
  refine zM_of (cc := cX1_packed) (maxL := 5) (ret := (some .long)) (Qc := fun A => zQl G cy A (wLn cy a v) o) (by decide) rfl (Nat.le_of_ble_eq_true rfl) ?_
  intro p e s m below meth c A ls hx hb hml hr hlocks hown hts hK hSE hA hP hD hS hl
  have hown : s.vm.findClass RX1 = some m.cls := hown
  have hl : lv_has ls 5 [(0, .ref (a 0))] := hl
  have k29 := hts (.fieldLink RX1 29 "TapCascade$Line" "size" "I") (by decide +kernel)
  have iX1 : ∀ w ∈ wsX10, w ∈ wsX1_packed := fun w h => List.mem_cons_of_mem _ (List.mem_append_left _ (List.mem_append_right _ h))
  have k11 := hts (.fieldLink RX1 11 "TapCascade$Line" "stages" "[LTapCascade$Stage;") (by decide +kernel)
  have k112 := hts (.fieldLink RX1 112 "TapCascade$Stage" "tap" "I") (by decide +kernel)
  have iX4 : ∀ w ∈ wsX40, w ∈ wsX1_packed := fun w h => List.mem_cons_of_mem _ (List.mem_append_right _ h)
  have k86 := hts (.fieldLink RX1 86 "TapCascade$Stage" "count" "I") (by decide +kernel)
  have k125 := hts (.fieldLink RX1 125 "TapCascade$Stage" "wanted" "I") (by decide +kernel)
  unfold f_X1_packed at hF
  refine lv_lconst (v := 0) hx hb dX1_packed_0 (by decide) ?_
  refine lv_lstore_n (lv' := [(1, .long 0), (0, .ref (a 0))]) hx hb dX1_packed_1 rfl hl (by decide) rfl (fun ls hl => ?_)
  refine lv_iconst (v := 0) hx hb dX1_packed_2 (by decide) ?_
  refine lv_istore_n (lv' := [(3, .int 0), (1, .long 0), (0, .ref (a 0))]) hx hb dX1_packed_3 rfl hl (by decide) rfl (fun ls hl => ?_)
  have L4 : ∀ (n : Nat) (s4 : Int64 × Int32) (H : Heap) (locs : List Loc) (ls : Array Slot), va_P G vwCl (wLn cy a v) H → va_D A (wLn cy a v) → va_S A s.heap H locs → lv_has ls 5 [(0, .ref (a 0)), (1, .long s4.1), (3, .int s4.2)] → zloop (b_X1_packed_4 v) n s4 = some o → W p l e (zR 1) s m ([.ref (a 0)] : List Value).toArray below meth c H locs 0 0 (MQ below (zQl G cy A (wLn cy a v) o) ([.ref (a 0)] : List Value).toArray s 0 0 A) (F0 m 4 ls []) := by
    intro n
    induction n with
    | zero => exact fun s4 H locs ls _ _ _ _ hF => (zloop_0 hF).elim
    | succ n ih4 =>
      intro s4 H locs ls hP hD hS hl hF
      have hF : b_X1_packed_4 v (zloop (b_X1_packed_4 v) n) s4 = some o := hF
      generalize zloop (b_X1_packed_4 v) n = rc4 at ih4 hF
      unfold b_X1_packed_4 at hF
      refine lv_iload_n hx hb dX1_packed_4 rfl (lv_at hl 2 rfl) ?_
      refine lv_aload_n hx hb dX1_packed_5 rfl (lv_at hl 0 rfl) ?_
      refine va_get (ci := 1) (C := RX1) (T := TX1) (N := 6) (fs := (zLn a v)) (v := .int (v 9 0)) hx hb hts iX1 hown hK hP _ (wLn_at0 cy a v) rfl 3 (by decide) k29 (fun _ h9 => h9) rfl dX1_packed_6 ?_
      refine zi_ge (tgt := 61) hx hb hF dX1_packed_9 (by decide) (fun hF => ?_) (fun hF => ?_)
      · refine lv_lload_n hx hb dX1_packed_61 rfl (lv_at hl 1 rfl) ?_
        refine z_lret (o := o) (o1 := s4.1) (v := s4.1) (wf := (fun o => (wLn cy a v))) (rf := fun o => o) hx hb hr hlocks hK ?_ ?_ hS ?_ rfl dX1_packed_62
        · exact hP
        · exact hD
        · exact hF
      · refine lv_aload_n hx hb dX1_packed_12 rfl (lv_at hl 0 rfl) ?_
        refine va_get (ci := 1) (C := RX1) (T := TX1) (N := 6) (fs := (zLn a v)) (v := .ref (a 1)) hx hb hts iX1 hown hK hP _ (wLn_at0 cy a v) rfl 0 (by decide) k11 (fun _ h9 => h9) rfl dX1_packed_13 ?_
        refine lv_iload_n hx hb dX1_packed_16 rfl (lv_at hl 2 rfl) ?_
        refine z_aald (ad := (fun j => a (2 + j))) (n := 4) hx hb hK hP _ 5 (wLn_at1 cy a v) rfl hF dX1_packed_17 (fun h1 hF => ?_)
        refine lv_astore (lv' := [(4, .ref (a (2 + zn s4.2))), (0, .ref (a 0)), (1, .long s4.1), (3, .int s4.2)]) hx hb dX1_packed_18 hl (by decide) rfl (fun ls hl => ?_)
        refine lv_lload_n hx hb dX1_packed_20 rfl (lv_at hl 2 rfl) ?_
        refine lv_iconst (v := 4) hx hb dX1_packed_21 (by decide) ?_
        refine lv_lshl (v := (s4.1 <<< ((Int32.toInt64 4) &&& 63))) hx hb dX1_packed_22 rfl ?_
        refine lv_aload hx hb dX1_packed_23 (lv_at hl 0 rfl) ?_
        refine va_get (ci := 4) (C := RX4) (T := TX4) (N := 15) (fs := (zSt (v (zn s4.2)))) (v := .int (v (zn s4.2) 7)) hx hb hts iX4 hown hK hP _ (wLn_atS cy a v h1) rfl 7 (by decide) k112 (fun _ h9 => h9) rfl dX1_packed_25 ?_
        refine lv_iconst (v := 5) hx hb dX1_packed_28 (by decide) ?_
        refine lv_iadd hx hb dX1_packed_29 ?_
        refine lv_i2l (v := (Int32.toInt64 ((v (zn s4.2) 7) + 5))) hx hb dX1_packed_30 rfl ?_
        refine lv_lor hx hb dX1_packed_31 ?_
        refine z_letl hF (fun x2 hF => ?_)
        refine lv_lstore_n (lv' := [(1, .long x2), (4, .ref (a (2 + zn s4.2))), (0, .ref (a 0)), (3, .int s4.2)]) hx hb dX1_packed_32 rfl hl (by decide) rfl (fun ls hl => ?_)
        refine lv_lload_n hx hb dX1_packed_33 rfl (lv_at hl 0 rfl) ?_
        refine lv_iconst (v := 4) hx hb dX1_packed_34 (by decide) ?_
        refine lv_lshl (v := (x2 <<< ((Int32.toInt64 4) &&& 63))) hx hb dX1_packed_35 rfl ?_
        refine lv_aload hx hb dX1_packed_36 (lv_at hl 1 rfl) ?_
        refine va_get (ci := 4) (C := RX4) (T := TX4) (N := 15) (fs := (zSt (v (zn s4.2)))) (v := .int (v (zn s4.2) 8)) hx hb hts iX4 hown hK hP _ (wLn_atS cy a v h1) rfl 8 (by decide) k86 (fun _ h9 => h9) rfl dX1_packed_38 ?_
        refine lv_i2l (v := (Int32.toInt64 (v (zn s4.2) 8))) hx hb dX1_packed_41 rfl ?_
        refine lv_lor hx hb dX1_packed_42 ?_
        refine z_letl hF (fun x3 hF => ?_)
        refine lv_lstore_n (lv' := [(1, .long x3), (4, .ref (a (2 + zn s4.2))), (0, .ref (a 0)), (3, .int s4.2)]) hx hb dX1_packed_43 rfl hl (by decide) rfl (fun ls hl => ?_)
        refine lv_lload_n hx hb dX1_packed_44 rfl (lv_at hl 0 rfl) ?_
        refine lv_iconst (v := 2) hx hb dX1_packed_45 (by decide) ?_
        refine lv_lshl (v := (x3 <<< ((Int32.toInt64 2) &&& 63))) hx hb dX1_packed_46 rfl ?_
        refine lv_aload hx hb dX1_packed_47 (lv_at hl 1 rfl) ?_
        refine va_get (ci := 4) (C := RX4) (T := TX4) (N := 15) (fs := (zSt (v (zn s4.2)))) (v := .int (v (zn s4.2) 9)) hx hb hts iX4 hown hK hP _ (wLn_atS cy a v h1) rfl 9 (by decide) k125 (fun _ h9 => h9) rfl dX1_packed_49 ?_
        refine lv_i2l (v := (Int32.toInt64 (v (zn s4.2) 9))) hx hb dX1_packed_52 rfl ?_
        refine lv_lor hx hb dX1_packed_53 ?_
        refine z_letl hF (fun x4 hF => ?_)
        refine lv_lstore_n (lv' := [(1, .long x4), (4, .ref (a (2 + zn s4.2))), (0, .ref (a 0)), (3, .int s4.2)]) hx hb dX1_packed_54 rfl hl (by decide) rfl (fun ls hl => ?_)
        refine z_name hF (fun x5 ex5 hF => ?_)
        refine lv_iinc (v := x5) (lv' := [(3, .int x5), (1, .long x4), (4, .ref (a (2 + zn s4.2))), (0, .ref (a 0))]) hx hb dX1_packed_55 hl (k := 3) rfl (by rw [ex5]; rfl) (by decide) rfl (fun ls hl => ?_)
        refine lv_goto (tgt := 4) hx hb dX1_packed_58 (by decide) ?_
        exact ih4 (x4, x5) _ _ ls hP hD hS (lv_sub hl [3, 1, 0] rfl) hF
  exact L4 1000 (0, 0) _ _ ls hP hD hS (lv_sub hl [2, 1, 0] rfl) hF
def j_X1_callNextBehind_24 (v : R2) (y2 : Int32) : Option (R2) :=
zg (zin y2 4) (
zlet (va_up v 4 (upd (v 4) (zn y2) (vp_nar .boolean 1))) fun v_3 =>
some v_3)
def b_X1_callNextBehind_4 (v : R2) (rc4 : (Int32) → Option (R2)) (s4 : Int32) : Option (R2) :=
if (v 9 0) ≤ s4 then (
some v) else (
zg (zin s4 4) (
zbd (f_X4_wants (v (zn s4))) fun o5 =>
if o5 = 0 then (
zlet (s4 + 1) fun x6 =>
rc4 (x6)) else (
j_X1_callNextBehind_24 v s4)))
def f_X1_callNextBehind (v : R2) (x01 : Int32) : Option (R2) :=
zlet (x01 + 1) fun x1 =>
zloop (b_X1_callNextBehind_4 v) 1000 (x1)
set_option maxHeartbeats 4000000 in
set_option maxRecDepth 100000 in
theorem c_X1_callNextBehind (l : Launch) (G : va_G) (cy : Nat → ClassId) (st : Nat → Nat) (a : Nat → Nat) (v : R2) (x01 : Int32) (o : R2) (hF : f_X1_callNextBehind v x01 = some o) : zMv l yX1_callNextBehind wsX1_callNextBehind (zR 3) G cy st [.ref (a 0), .int x01] (wLn cy a v) (wLn cy a o) := by
  refine zM_of (cc := cX1_callNextBehind) (maxL := 3) (ret := none) (Qc := fun A => zQv G cy A (wLn cy a o)) (by decide) rfl (Nat.le_of_ble_eq_true rfl) ?_
  intro p e s m below meth c A ls hx hb hml hr hlocks hown hts hK hSE hA hP hD hS hl
  have hown : s.vm.findClass RX1 = some m.cls := hown
  have hl : lv_has ls 3 [(0, .ref (a 0)), (1, .int x01)] := hl
  have k17 := hts (.fieldLink RX1 17 "TapCascade$Line" "called" "[Z") (by decide +kernel)
  have iX1 : ∀ w ∈ wsX10, w ∈ wsX1_callNextBehind := fun w h => List.mem_cons_of_mem _ (List.mem_append_left _ (List.mem_append_right _ h))
  have k29 := hts (.fieldLink RX1 29 "TapCascade$Line" "size" "I") (by decide +kernel)
  have k11 := hts (.fieldLink RX1 11 "TapCascade$Line" "stages" "[LTapCascade$Stage;") (by decide +kernel)
  unfold f_X1_callNextBehind at hF
  refine lv_iload_n hx hb dX1_callNextBehind_0 rfl (lv_at hl 1 rfl) ?_
  refine lv_iconst (v := 1) hx hb dX1_callNextBehind_1 (by decide) ?_
  refine lv_iadd hx hb dX1_callNextBehind_2 ?_
  refine z_leti hF (fun x1 hF => ?_)
  refine lv_istore_n (lv' := [(2, .int x1), (0, .ref (a 0)), (1, .int x01)]) hx hb dX1_callNextBehind_3 rfl hl (by decide) rfl (fun ls hl => ?_)
  have J24 : ∀ (y2 : Int32) (H : Heap) (locs : List Loc) (ls : Array Slot), va_P G vwCl (wLn cy a v) H → va_D A (wLn cy a v) → va_S A s.heap H locs → lv_has ls 3 [(0, .ref (a 0)), (2, .int y2)] → j_X1_callNextBehind_24 v y2 = some o → W p l e (zR 3) s m ([.ref (a 0), .int x01] : List Value).toArray below meth c H locs 0 0 (MQ below (zQv G cy A (wLn cy a o)) ([.ref (a 0), .int x01] : List Value).toArray s 0 0 A) (F0 m 24 ls []) := by
    intro y2 H locs ls hP hD hS hl hF
    unfold j_X1_callNextBehind_24 at hF
    refine lv_aload_n hx hb dX1_callNextBehind_24 rfl (lv_at hl 0 rfl) ?_
    refine va_get (ci := 1) (C := RX1) (T := TX1) (N := 6) (fs := (zLn a v)) (v := .ref (a 6)) hx hb hts iX1 hown hK hP _ (wLn_at0 cy a v) rfl 1 (by decide) k17 (fun _ h9 => h9) rfl dX1_callNextBehind_25 ?_
    refine lv_iload_n hx hb dX1_callNextBehind_28 rfl (lv_at hl 1 rfl) ?_
    refine lv_iconst (v := 1) hx hb dX1_callNextBehind_29 (by decide) ?_
    refine z_zast (n := 4) (f := (v 4)) (i := y2) (x := 1) (wf := (fun y => (wLn cy a y))) hx hb hK hP hD hS _ 3 (wLn_foc6 cy a v _) rfl hF dX1_callNextBehind_30 (fun v_3 hF H locs hP hD hS => ?_)
    refine z_vret (o := o) (o1 := v_3) (wf := (fun o => (wLn cy a o))) hx hb hr hlocks hK ?_ ?_ hS ?_ dX1_callNextBehind_31
    · exact hP
    · exact hD
    · exact hF
  have L4 : ∀ (n : Nat) (s4 : Int32) (H : Heap) (locs : List Loc) (ls : Array Slot), va_P G vwCl (wLn cy a v) H → va_D A (wLn cy a v) → va_S A s.heap H locs → lv_has ls 3 [(0, .ref (a 0)), (2, .int s4)] → zloop (b_X1_callNextBehind_4 v) n s4 = some o → W p l e (zR 3) s m ([.ref (a 0), .int x01] : List Value).toArray below meth c H locs 0 0 (MQ below (zQv G cy A (wLn cy a o)) ([.ref (a 0), .int x01] : List Value).toArray s 0 0 A) (F0 m 4 ls []) := by
    intro n
    induction n with
    | zero => exact fun s4 H locs ls _ _ _ _ hF => (zloop_0 hF).elim
    | succ n ih4 =>
      intro s4 H locs ls hP hD hS hl hF
      have hF : b_X1_callNextBehind_4 v (zloop (b_X1_callNextBehind_4 v) n) s4 = some o := hF
      generalize zloop (b_X1_callNextBehind_4 v) n = rc4 at ih4 hF
      unfold b_X1_callNextBehind_4 at hF
      refine lv_iload_n hx hb dX1_callNextBehind_4 rfl (lv_at hl 1 rfl) ?_
      refine lv_aload_n hx hb dX1_callNextBehind_5 rfl (lv_at hl 0 rfl) ?_
      refine va_get (ci := 1) (C := RX1) (T := TX1) (N := 6) (fs := (zLn a v)) (v := .int (v 9 0)) hx hb hts iX1 hown hK hP _ (wLn_at0 cy a v) rfl 3 (by decide) k29 (fun _ h9 => h9) rfl dX1_callNextBehind_6 ?_
      refine zi_ge (tgt := 38) hx hb hF dX1_callNextBehind_9 (by decide) (fun hF => ?_) (fun hF => ?_)
      · refine z_vret (o := o) (o1 := v) (wf := (fun o => (wLn cy a o))) hx hb hr hlocks hK ?_ ?_ hS ?_ dX1_callNextBehind_38
        · exact hP
        · exact hD
        · exact hF
      · refine lv_aload_n hx hb dX1_callNextBehind_12 rfl (lv_at hl 0 rfl) ?_
        refine va_get (ci := 1) (C := RX1) (T := TX1) (N := 6) (fs := (zLn a v)) (v := .ref (a 1)) hx hb hts iX1 hown hK hP _ (wLn_at0 cy a v) rfl 0 (by decide) k11 (fun _ h9 => h9) rfl dX1_callNextBehind_13 ?_
        refine lv_iload_n hx hb dX1_callNextBehind_16 rfl (lv_at hl 1 rfl) ?_
        refine z_aald (ad := (fun j => a (2 + j))) (n := 4) hx hb hK hP _ 5 (wLn_at1 cy a v) rfl hF dX1_callNextBehind_17 (fun h4 hF => ?_)
        refine z_cVi (b := a (2 + zn s4)) (As := []) (rest := []) (wc := (wSt cy (a (2 + zn s4)) (v (zn s4)))) (wcf := fun o' => (wSt cy (a (2 + zn s4)) (v (zn s4)))) (wf := fun o' => (wLn cy a v)) (rf := fun o' => o') hF (fun o' hz => c_X4_wants l G cy st (a (2 + zn s4)) (v (zn s4)) o' hz) (fun o' => (wLn_cutS0 cy a v h4)) ⟨hx, hb, hml, hown, hts⟩ (cwV 0 hts gX1_callNextBehind_X4_wants rfl rfl rfl (by decide +kernel) ⟨by decide, by decide⟩) (ci := 4) (q0 := 0) rfl (wSt_at0 cy (a (2 + zn s4)) (v (zn s4))) hK hSE hA hP hD hS rfl hl.1 rfl (Nat.le_of_ble_eq_true rfl) dX1_callNextBehind_18 ⟨Nat.le_refl _, Nat.le_refl _⟩ (fun o5 hF H locs hP hD hS => ?_)
        refine zf_eq (tgt := 32) hx hb hF dX1_callNextBehind_21 (by decide) (fun hF => ?_) (fun hF => ?_)
        · refine z_name hF (fun x6 ex6 hF => ?_)
          refine lv_iinc (v := x6) (lv' := [(2, .int x6), (0, .ref (a 0))]) hx hb dX1_callNextBehind_32 hl (k := 1) rfl (by rw [ex6]; rfl) (by decide) rfl (fun ls hl => ?_)
          refine lv_goto (tgt := 4) hx hb dX1_callNextBehind_35 (by decide) ?_
          exact ih4 (x6) _ _ ls hP hD hS (lv_sub hl [1, 0] rfl) hF
        · exact J24 s4 _ _ ls hP hD hS (lv_sub hl [0, 1] rfl) hF
  exact L4 1000 (x1) _ _ ls hP hD hS (lv_sub hl [1, 0] rfl) hF
def j_X1_passCallsOn_36 (rc2 : (Int32 × R2) → Option (R2)) (s2 : Int32 × R2) (v_1 : R2) : Option (R2) :=
zlet (s2.1 + 1) fun x2 =>
rc2 (x2, v_1)
def b_X1_passCallsOn_2 (rc2 : (Int32 × R2) → Option (R2)) (s2 : Int32 × R2) : Option (R2) :=
if (s2.2 9 0) ≤ s2.1 then (
some s2.2) else (
zg (zin s2.1 4) (
if ((s2.2 4) (zn s2.1)) = 0 then (
j_X1_passCallsOn_36 rc2 s2 s2.2) else (
zg (zin s2.1 4) (
zbd (f_X4_canAsItWants (s2.2 (zn s2.1))) fun o4 =>
if o4 = 0 then (
zbd (f_X1_callNextBehind s2.2 s2.1) fun o5 =>
j_X1_passCallsOn_36 rc2 s2 o5) else (
j_X1_passCallsOn_36 rc2 s2 s2.2)))))
def f_X1_passCallsOn (v : R2) : Option (R2) :=
zloop (b_X1_passCallsOn_2) 1000 (0, v)
set_option maxHeartbeats 4000000 in
set_option maxRecDepth 100000 in
theorem c_X1_passCallsOn (l : Launch) (G : va_G) (cy : Nat → ClassId) (st : Nat → Nat) (a : Nat → Nat) (v : R2) (o : R2) (hF : f_X1_passCallsOn v = some o) : zMv l yX1_passCallsOn wsX1_passCallsOn (zR 4) G cy st [.ref (a 0)] (wLn cy a v) (wLn cy a o) := by
  refine zM_of (cc := cX1_passCallsOn) (maxL := 2) (ret := none) (Qc := fun A => zQv G cy A (wLn cy a o)) (by decide) rfl (Nat.le_of_ble_eq_true rfl) ?_
  intro p e s m below meth c A ls hx hb hml hr hlocks hown hts hK hSE hA hP hD hS hl
  have hown : s.vm.findClass RX1 = some m.cls := hown
  have hl : lv_has ls 2 [(0, .ref (a 0))] := hl
  have k29 := hts (.fieldLink RX1 29 "TapCascade$Line" "size" "I") (by decide +kernel)
  have iX1 : ∀ w ∈ wsX10, w ∈ wsX1_passCallsOn := fun w h => List.mem_cons_of_mem _ (List.mem_append_left _ (List.mem_append_right _ h))
  have k17 := hts (.fieldLink RX1 17 "TapCascade$Line" "called" "[Z") (by decide +kernel)
  have k11 := hts (.fieldLink RX1 11 "TapCascade$Line" "stages" "[LTapCascade$Stage;") (by decide +kernel)
  unfold f_X1_passCallsOn at hF
  refine lv_iconst (v := 0) hx hb dX1_passCallsOn_0 (by decide) ?_
  refine lv_istore_n (lv' := [(1, .int 0), (0, .ref (a 0))]) hx hb dX1_passCallsOn_1 rfl hl (by decide) rfl (fun ls hl => ?_)
  have L2 : ∀ (n : Nat) (s2 : Int32 × R2) (H : Heap) (locs : List Loc) (ls : Array Slot), va_P G vwCl (wLn cy a s2.2) H → va_D A (wLn cy a s2.2) → va_S A s.heap H locs → lv_has ls 2 [(0, .ref (a 0)), (1, .int s2.1)] → zloop (b_X1_passCallsOn_2) n s2 = some o → W p l e (zR 4) s m ([.ref (a 0)] : List Value).toArray below meth c H locs 0 0 (MQ below (zQv G cy A (wLn cy a o)) ([.ref (a 0)] : List Value).toArray s 0 0 A) (F0 m 2 ls []) := by
    intro n
    induction n with
    | zero => exact fun s2 H locs ls _ _ _ _ hF => (zloop_0 hF).elim
    | succ n ih2 =>
      intro s2 H locs ls hP hD hS hl hF
      have hF : b_X1_passCallsOn_2 (zloop (b_X1_passCallsOn_2) n) s2 = some o := hF
      generalize zloop (b_X1_passCallsOn_2) n = rc2 at ih2 hF
      unfold b_X1_passCallsOn_2 at hF
      refine lv_iload_n hx hb dX1_passCallsOn_2 rfl (lv_at hl 1 rfl) ?_
      refine lv_aload_n hx hb dX1_passCallsOn_3 rfl (lv_at hl 0 rfl) ?_
      refine va_get (ci := 1) (C := RX1) (T := TX1) (N := 6) (fs := (zLn a s2.2)) (v := .int (s2.2 9 0)) hx hb hts iX1 hown hK hP _ (wLn_at0 cy a s2.2) rfl 3 (by decide) k29 (fun _ h9 => h9) rfl dX1_passCallsOn_4 ?_
      refine zi_ge (tgt := 42) hx hb hF dX1_passCallsOn_7 (by decide) (fun hF => ?_) (fun hF => ?_)
      · refine z_vret (o := o) (o1 := s2.2) (wf := (fun o => (wLn cy a o))) hx hb hr hlocks hK ?_ ?_ hS ?_ dX1_passCallsOn_42
        · exact hP
        · exact hD
        · exact hF
      · refine lv_aload_n hx hb dX1_passCallsOn_10 rfl (lv_at hl 0 rfl) ?_
        refine va_get (ci := 1) (C := RX1) (T := TX1) (N := 6) (fs := (zLn a s2.2)) (v := .ref (a 6)) hx hb hts iX1 hown hK hP _ (wLn_at0 cy a s2.2) rfl 1 (by decide) k17 (fun _ h9 => h9) rfl dX1_passCallsOn_11 ?_
        refine lv_iload_n hx hb dX1_passCallsOn_14 rfl (lv_at hl 1 rfl) ?_
        refine z_zald (n := 4) (f := (s2.2 4)) hx hb hK hP _ 3 (wLn_at6 cy a s2.2) rfl hF dX1_passCallsOn_15 (fun hF => ?_)
        have J36 : ∀ (v_1 : R2) (H : Heap) (locs : List Loc) (ls : Array Slot), va_P G vwCl (wLn cy a v_1) H → va_D A (wLn cy a v_1) → va_S A s.heap H locs → lv_has ls 2 [(0, .ref (a 0)), (1, .int s2.1)] → j_X1_passCallsOn_36 rc2 s2 v_1 = some o → W p l e (zR 4) s m ([.ref (a 0)] : List Value).toArray below meth c H locs 0 0 (MQ below (zQv G cy A (wLn cy a o)) ([.ref (a 0)] : List Value).toArray s 0 0 A) (F0 m 36 ls []) := by
          intro v_1 H locs ls hP hD hS hl hF
          unfold j_X1_passCallsOn_36 at hF
          refine z_name hF (fun x2 ex2 hF => ?_)
          refine lv_iinc (v := x2) (lv' := [(1, .int x2), (0, .ref (a 0))]) hx hb dX1_passCallsOn_36 hl (k := 1) rfl (by rw [ex2]; rfl) (by decide) rfl (fun ls hl => ?_)
          refine lv_goto (tgt := 2) hx hb dX1_passCallsOn_39 (by decide) ?_
          exact ih2 (x2, v_1) _ _ ls hP hD hS (lv_sub hl [1, 0] rfl) hF
        refine zf_eq (tgt := 36) hx hb hF dX1_passCallsOn_16 (by decide) (fun hF => ?_) (fun hF => ?_)
        · exact J36 s2.2 _ _ ls hP hD hS (lv_sub hl [0, 1] rfl) hF
        · refine lv_aload_n hx hb dX1_passCallsOn_19 rfl (lv_at hl 0 rfl) ?_
          refine va_get (ci := 1) (C := RX1) (T := TX1) (N := 6) (fs := (zLn a s2.2)) (v := .ref (a 1)) hx hb hts iX1 hown hK hP _ (wLn_at0 cy a s2.2) rfl 0 (by decide) k11 (fun _ h9 => h9) rfl dX1_passCallsOn_20 ?_
          refine lv_iload_n hx hb dX1_passCallsOn_23 rfl (lv_at hl 1 rfl) ?_
          refine z_aald (ad := (fun j => a (2 + j))) (n := 4) hx hb hK hP _ 5 (wLn_at1 cy a s2.2) rfl hF dX1_passCallsOn_24 (fun h3 hF => ?_)
          refine z_cVi (b := a (2 + zn s2.1)) (As := []) (rest := []) (wc := (wSt cy (a (2 + zn s2.1)) (s2.2 (zn s2.1)))) (wcf := fun o' => (wSt cy (a (2 + zn s2.1)) (s2.2 (zn s2.1)))) (wf := fun o' => (wLn cy a s2.2)) (rf := fun o' => o') hF (fun o' hz => c_X4_canAsItWants l G cy st (a (2 + zn s2.1)) (s2.2 (zn s2.1)) o' hz) (fun o' => (wLn_cutS0 cy a s2.2 h3)) ⟨hx, hb, hml, hown, hts⟩ (cwV 0 hts gX1_passCallsOn_X4_canAsItWants rfl rfl rfl (by decide +kernel) ⟨by decide, by decide⟩) (ci := 4) (q0 := 0) rfl (wSt_at0 cy (a (2 + zn s2.1)) (s2.2 (zn s2.1))) hK hSE hA hP hD hS rfl hl.1 rfl (Nat.le_of_ble_eq_true rfl) dX1_passCallsOn_25 ⟨Nat.le_refl _, Nat.le_refl _⟩ (fun o4 hF H locs hP hD hS => ?_)
          refine zf_ne (tgt := 36) hx hb hF dX1_passCallsOn_28 (by decide) (fun hF => ?_) (fun hF => ?_)
          · exact J36 s2.2 _ _ ls hP hD hS (lv_sub hl [0, 1] rfl) hF
          · refine lv_aload_n hx hb dX1_passCallsOn_31 rfl (lv_at hl 0 rfl) ?_
            refine lv_iload_n hx hb dX1_passCallsOn_32 rfl (lv_at hl 1 rfl) ?_
            refine z_cVv (b := a 0) (As := [.int s2.1]) (rest := []) (wc := (wLn cy a s2.2)) (wcf := fun o' => (wLn cy a o')) (wf := fun o' => (wLn cy a o')) hF (fun o' hz => c_X1_callNextBehind l G cy st a s2.2 s2.1 o' hz) (fun o' => zCut_all) ⟨hx, hb, hml, hown, hts⟩ (cwV 1 hts gX1_passCallsOn_X1_callNextBehind rfl rfl rfl (by decide +kernel) ⟨by decide, by decide⟩) (ci := 1) (q0 := 0) rfl (wLn_at0 cy a s2.2) hK hSE hA hP hD hS rfl hl.1 rfl (Nat.le_of_ble_eq_true rfl) dX1_passCallsOn_33 ⟨Nat.le_refl _, Nat.le_refl _⟩ (fun o5 hF H locs hP hD hS => ?_)
            exact J36 o5 _ _ ls hP hD hS (lv_sub hl [0, 1] rfl) hF
  exact L2 1000 (0, v) _ _ ls hP hD hS (lv_sub hl [1, 0] rfl) hF
def j_X1_heedCall_84 (x01 : Int32) (v_3 : R2) : Option (R2) :=
zlet (z2 v_3 (zn x01) 8 0) fun v_4 =>
zlet (z2 v_4 (zn x01) 9 0) fun v_5 =>
some v_5
def j_X1_heedCall_79 (x01 : Int32) (o6 : Int32) (v_11 : R2) : Option (R2) :=
zlet (z2 v_11 (zn x01) 10 o6) fun v_12 =>
j_X1_heedCall_84 x01 v_12
def j_X1_heedCall_34 (v : R2) (x01 : Int32) (o6 : Int32) (t7 : Int32) : Option (R2) :=
zlet (z2 v (zn x01) 7 ((v (zn x01) 7) + t7)) fun v_8 =>
zbd (f_X5_add (v_8 5) (v_8 6) (v_8 7) (v_8 8 0) (v_8 9 2) x01 o6) fun o9 =>
zlet (zpLg v_8 o9.1 o9.2.1 o9.2.2.1 o9.2.2.2 (v_8 8 1)) fun v_10 =>
if (v_10 (zn x01) 10) = 0 then (
j_X1_heedCall_79 x01 o6 v_10) else (
if (v_10 (zn x01) 10) = o6 then (
j_X1_heedCall_79 x01 o6 v_10) else (
zlet (z2 v_10 8 1 ((v_10 8 1) + 1)) fun v_13 =>
j_X1_heedCall_79 x01 o6 v_13))
def f_X1_heedCall (v : R2) (x01 : Int32) : Option (R2) :=
zg (zin x01 4) (
zbd (f_X4_canAsItWants (v (zn x01))) fun o2 =>
if o2 = 0 then (
j_X1_heedCall_84 x01 v) else (
zbd (f_X4_wants (v (zn x01))) fun o6 =>
if o6 = (1 : Int32) then (
j_X1_heedCall_34 v x01 o6 1) else (
j_X1_heedCall_34 v x01 o6 (-1))))
set_option maxHeartbeats 4000000 in
set_option maxRecDepth 100000 in
theorem c_X1_heedCall (l : Launch) (G : va_G) (cy : Nat → ClassId) (st : Nat → Nat) (a : Nat → Nat) (v : R2) (x01 : Int32) (o : R2) (hF : f_X1_heedCall v x01 = some o) : zMv l yX1_heedCall wsX1_heedCall (zR 4) G cy st [.ref (a 0), .int x01] (wLn cy a v) (wLn cy a o) := by
  refine zM_of (cc := cX1_heedCall) (maxL := 4) (ret := none) (Qc := fun A => zQv G cy A (wLn cy a o)) (by decide) rfl (Nat.le_of_ble_eq_true rfl) ?_
  intro p e s m below meth c A ls hx hb hml hr hlocks hown hts hK hSE hA hP hD hS hl
  have hown : s.vm.findClass RX1 = some m.cls := hown
  have hl : lv_has ls 4 [(0, .ref (a 0)), (1, .int x01)] := hl
  have k11 := hts (.fieldLink RX1 11 "TapCascade$Line" "stages" "[LTapCascade$Stage;") (by decide +kernel)
  have iX1 : ∀ w ∈ wsX10, w ∈ wsX1_heedCall := fun w h => List.mem_cons_of_mem _ (List.mem_append_left _ (List.mem_append_left _ (List.mem_append_right _ h)))
  have k86 := hts (.fieldLink RX1 86 "TapCascade$Stage" "count" "I") (by decide +kernel)
  have iX4 : ∀ w ∈ wsX40, w ∈ wsX1_heedCall := fun w h => List.mem_cons_of_mem _ (List.mem_append_left _ (List.mem_append_right _ h))
  have k125 := hts (.fieldLink RX1 125 "TapCascade$Stage" "wanted" "I") (by decide +kernel)
  have k112 := hts (.fieldLink RX1 112 "TapCascade$Stage" "tap" "I") (by decide +kernel)
  have k24 := hts (.fieldLink RX1 24 "TapCascade$Line" "log" "LTapCascade$StepLog;") (by decide +kernel)
  have k36 := hts (.fieldLink RX1 36 "TapCascade$Line" "ticks" "I") (by decide +kernel)
  have k119 := hts (.fieldLink RX1 119 "TapCascade$Stage" "lastStep" "I") (by decide +kernel)
  have k122 := hts (.fieldLink RX1 122 "TapCascade$StepLog" "back" "I") (by decide +kernel)
  have iX5 : ∀ w ∈ wsX50, w ∈ wsX1_heedCall := fun w h => List.mem_cons_of_mem _ (List.mem_append_right _ h)
  unfold f_X1_heedCall at hF
  refine lv_aload_n hx hb dX1_heedCall_0 rfl (lv_at hl 0 rfl) ?_
  refine va_get (ci := 1) (C := RX1) (T := TX1) (N := 6) (fs := (zLn a v)) (v := .ref (a 1)) hx hb hts iX1 hown hK hP _ (wLn_at0 cy a v) rfl 0 (by decide) k11 (fun _ h9 => h9) rfl dX1_heedCall_1 ?_
  refine lv_iload_n hx hb dX1_heedCall_4 rfl (lv_at hl 1 rfl) ?_
  refine z_aald (ad := (fun j => a (2 + j))) (n := 4) hx hb hK hP _ 5 (wLn_at1 cy a v) rfl hF dX1_heedCall_5 (fun h1 hF => ?_)
  refine lv_astore_n (lv' := [(2, .ref (a (2 + zn x01))), (0, .ref (a 0)), (1, .int x01)]) hx hb dX1_heedCall_6 rfl hl (by decide) rfl (fun ls hl => ?_)
  refine lv_aload_n hx hb dX1_heedCall_7 rfl (lv_at hl 0 rfl) ?_
  refine z_cVi (b := a (2 + zn x01)) (As := []) (rest := []) (wc := (wSt cy (a (2 + zn x01)) (v (zn x01)))) (wcf := fun o' => (wSt cy (a (2 + zn x01)) (v (zn x01)))) (wf := fun o' => (wLn cy a v)) (rf := fun o' => o') hF (fun o' hz => c_X4_canAsItWants l G cy st (a (2 + zn x01)) (v (zn x01)) o' hz) (fun o' => (wLn_cutS0 cy a v h1)) ⟨hx, hb, hml, hown, hts⟩ (cwV 0 hts gX1_heedCall_X4_canAsItWants rfl rfl rfl (by decide +kernel) ⟨by decide, by decide⟩) (ci := 4) (q0 := 0) rfl (wSt_at0 cy (a (2 + zn x01)) (v (zn x01))) hK hSE hA hP hD hS rfl hl.1 rfl (Nat.le_of_ble_eq_true rfl) dX1_heedCall_8 ⟨Nat.le_refl _, Nat.le_refl _⟩ (fun o2 hF H locs hP hD hS => ?_)
  have J84 : ∀ (v_3 : R2) (H : Heap) (locs : List Loc) (ls : Array Slot), va_P G vwCl (wLn cy a v_3) H → va_D A (wLn cy a v_3) → va_S A s.heap H locs → lv_has ls 4 [(2, .ref (a (2 + zn x01)))] → j_X1_heedCall_84 x01 v_3 = some o → W p l e (zR 4) s m ([.ref (a 0), .int x01] : List Value).toArray below meth c H locs 0 0 (MQ below (zQv G cy A (wLn cy a o)) ([.ref (a 0), .int x01] : List Value).toArray s 0 0 A) (F0 m 84 ls []) := by
    intro v_3 H locs ls hP hD hS hl hF
    unfold j_X1_heedCall_84 at hF
    refine lv_aload_n hx hb dX1_heedCall_84 rfl (lv_at hl 0 rfl) ?_
    refine lv_iconst (v := 0) hx hb dX1_heedCall_85 (by decide) ?_
    refine z_puti (ci := 4) (C := RX4) (T := TX4) (N := 15) (fs := (zSt (v_3 (zn x01)))) (x := 0) (wf := (fun y => (wLn cy a y))) hx hb hts iX4 tyX4 tyX4_ok nmX4 hown hK hP hD hS _ 8 (wLn_focS cy a v_3 h1 8 (by decide) 0) rfl (by decide) k86 (fun _ h9 => h9) rfl (by decide +kernel) (Nat.le_of_ble_eq_true rfl) hF dX1_heedCall_86 (fun v_4 hF H locs hP hD hS => ?_)
    refine lv_aload_n hx hb dX1_heedCall_89 rfl (lv_at hl 0 rfl) ?_
    refine lv_iconst (v := 0) hx hb dX1_heedCall_90 (by decide) ?_
    refine z_puti (ci := 4) (C := RX4) (T := TX4) (N := 15) (fs := (zSt (v_4 (zn x01)))) (x := 0) (wf := (fun y => (wLn cy a y))) hx hb hts iX4 tyX4 tyX4_ok nmX4 hown hK hP hD hS _ 9 (wLn_focS cy a v_4 h1 9 (by decide) 0) rfl (by decide) k125 (fun _ h9 => h9) rfl (by decide +kernel) (Nat.le_of_ble_eq_true rfl) hF dX1_heedCall_91 (fun v_5 hF H locs hP hD hS => ?_)
    refine z_vret (o := o) (o1 := v_5) (wf := (fun o => (wLn cy a o))) hx hb hr hlocks hK ?_ ?_ hS ?_ dX1_heedCall_94
    · exact hP
    · exact hD
    · exact hF
  refine zf_eq (tgt := 84) hx hb hF dX1_heedCall_11 (by decide) (fun hF => ?_) (fun hF => ?_)
  · exact J84 v _ _ ls hP hD hS (lv_sub hl [0] rfl) hF
  · refine lv_aload_n hx hb dX1_heedCall_14 rfl (lv_at hl 0 rfl) ?_
    refine z_cVi (b := a (2 + zn x01)) (As := []) (rest := []) (wc := (wSt cy (a (2 + zn x01)) (v (zn x01)))) (wcf := fun o' => (wSt cy (a (2 + zn x01)) (v (zn x01)))) (wf := fun o' => (wLn cy a v)) (rf := fun o' => o') hF (fun o' hz => c_X4_wants l G cy st (a (2 + zn x01)) (v (zn x01)) o' hz) (fun o' => (wLn_cutS0 cy a v h1)) ⟨hx, hb, hml, hown, hts⟩ (cwV 0 hts gX1_heedCall_X4_wants rfl rfl rfl (by decide +kernel) ⟨by decide, by decide⟩) (ci := 4) (q0 := 0) rfl (wSt_at0 cy (a (2 + zn x01)) (v (zn x01))) hK hSE hA hP hD hS rfl hl.1 rfl (Nat.le_of_ble_eq_true rfl) dX1_heedCall_15 ⟨Nat.le_refl _, Nat.le_refl _⟩ (fun o6 hF H locs hP hD hS => ?_)
    refine lv_istore_n (lv' := [(3, .int o6), (2, .ref (a (2 + zn x01))), (0, .ref (a 0)), (1, .int x01)]) hx hb dX1_heedCall_18 rfl hl (by decide) rfl (fun ls hl => ?_)
    refine lv_aload_n hx hb dX1_heedCall_19 rfl (lv_at hl 1 rfl) ?_
    refine lv_dup hx hb dX1_heedCall_20 rfl ?_
    refine va_get (ci := 4) (C := RX4) (T := TX4) (N := 15) (fs := (zSt (v (zn x01)))) (v := .int (v (zn x01) 7)) hx hb hts iX4 hown hK hP _ (wLn_atS cy a v h1) rfl 7 (by decide) k112 (fun _ h9 => h9) rfl dX1_heedCall_21 ?_
    refine lv_iload_n hx hb dX1_heedCall_24 rfl (lv_at hl 0 rfl) ?_
    refine lv_iconst (v := 1) hx hb dX1_heedCall_25 (by decide) ?_
    have J34 : ∀ (t7 : Int32) (H : Heap) (locs : List Loc) (ls : Array Slot), va_P G vwCl (wLn cy a v) H → va_D A (wLn cy a v) → va_S A s.heap H locs → lv_has ls 4 [(0, .ref (a 0)), (1, .int x01), (2, .ref (a (2 + zn x01))), (3, .int o6)] → j_X1_heedCall_34 v x01 o6 t7 = some o → W p l e (zR 4) s m ([.ref (a 0), .int x01] : List Value).toArray below meth c H locs 0 0 (MQ below (zQv G cy A (wLn cy a o)) ([.ref (a 0), .int x01] : List Value).toArray s 0 0 A) (F0 m 34 ls [.int t7, .int (v (zn x01) 7), .ref (a (2 + zn x01))]) := by
      intro t7 H locs ls hP hD hS hl hF
      unfold j_X1_heedCall_34 at hF
      refine lv_iadd hx hb dX1_heedCall_34 ?_
      refine z_puti (ci := 4) (C := RX4) (T := TX4) (N := 15) (fs := (zSt (v (zn x01)))) (x := ((v (zn x01) 7) + t7)) (wf := (fun y => (wLn cy a y))) hx hb hts iX4 tyX4 tyX4_ok nmX4 hown hK hP hD hS _ 7 (wLn_focS cy a v h1 7 (by decide) ((v (zn x01) 7) + t7)) rfl (by decide) k112 (fun _ h9 => h9) rfl (by decide +kernel) (Nat.le_of_ble_eq_true rfl) hF dX1_heedCall_35 (fun v_8 hF H locs hP hD hS => ?_)
      refine lv_aload_n hx hb dX1_heedCall_38 rfl (lv_at hl 0 rfl) ?_
      refine va_get (ci := 1) (C := RX1) (T := TX1) (N := 6) (fs := (zLn a v_8)) (v := .ref (a 7)) hx hb hts iX1 hown hK hP _ (wLn_at0 cy a v_8) rfl 2 (by decide) k24 (fun _ h9 => h9) rfl dX1_heedCall_39 ?_
      refine lv_aload_n hx hb dX1_heedCall_42 rfl (lv_at hl 0 rfl) ?_
      refine va_get (ci := 1) (C := RX1) (T := TX1) (N := 6) (fs := (zLn a v_8)) (v := .int (v_8 9 2)) hx hb hts iX1 hown hK hP _ (wLn_at0 cy a v_8) rfl 5 (by decide) k36 (fun _ h9 => h9) rfl dX1_heedCall_43 ?_
      refine lv_iload_n hx hb dX1_heedCall_46 rfl (lv_at hl 1 rfl) ?_
      refine lv_iload_n hx hb dX1_heedCall_47 rfl (lv_at hl 3 rfl) ?_
      refine z_cVv (b := a 7) (As := [.int (v_8 9 2), .int x01, .int o6]) (rest := []) (wc := (wLg cy (fun k => a (7 + k)) (v_8 5) (v_8 6) (v_8 7) (v_8 8 0) (v_8 8 1))) (wcf := fun o' => (wLg cy (fun k => a (7 + k)) o'.1 o'.2.1 o'.2.2.1 o'.2.2.2 (v_8 8 1))) (wf := fun o' => (wLn cy a (zpLg v_8 o'.1 o'.2.1 o'.2.2.1 o'.2.2.2 (v_8 8 1)))) hF (fun o' hz => c_X5_add l G cy st (fun k => a (7 + k)) (v_8 5) (v_8 6) (v_8 7) (v_8 8 0) (v_8 8 1) (v_8 9 2) x01 o6 o' hz) (fun o' => (wLn_cutL cy a v_8 _ _ _ _ _)) ⟨hx, hb, hml, hown, hts⟩ (cwV 3 hts gX1_heedCall_X5_add rfl rfl rfl (by decide +kernel) ⟨by decide, by decide⟩) (ci := 5) (q0 := 0) rfl (wLg_at0 cy (fun k => a (7 + k)) (v_8 5) (v_8 6) (v_8 7) (v_8 8 0) (v_8 8 1)) hK hSE hA hP hD hS rfl hl.1 rfl (Nat.le_of_ble_eq_true rfl) dX1_heedCall_48 ⟨Nat.le_refl _, Nat.le_refl _⟩ (fun o9 hF H locs hP hD hS => ?_)
      refine z_nameW (wf := (fun y => (wLn cy a y))) hF hP hD (fun v_10 hF hP hD => ?_)
      refine lv_aload_n hx hb dX1_heedCall_51 rfl (lv_at hl 2 rfl) ?_
      refine va_get (ci := 4) (C := RX4) (T := TX4) (N := 15) (fs := (zSt (v_10 (zn x01)))) (v := .int (v_10 (zn x01) 10)) hx hb hts iX4 hown hK hP _ (wLn_atS cy a v_10 h1) rfl 10 (by decide) k119 (fun _ h9 => h9) rfl dX1_heedCall_52 ?_
      have J79 : ∀ (v_11 : R2) (H : Heap) (locs : List Loc) (ls : Array Slot), va_P G vwCl (wLn cy a v_11) H → va_D A (wLn cy a v_11) → va_S A s.heap H locs → lv_has ls 4 [(2, .ref (a (2 + zn x01))), (3, .int o6)] → j_X1_heedCall_79 x01 o6 v_11 = some o → W p l e (zR 4) s m ([.ref (a 0), .int x01] : List Value).toArray below meth c H locs 0 0 (MQ below (zQv G cy A (wLn cy a o)) ([.ref (a 0), .int x01] : List Value).toArray s 0 0 A) (F0 m 79 ls []) := by
        intro v_11 H locs ls hP hD hS hl hF
        unfold j_X1_heedCall_79 at hF
        refine lv_aload_n hx hb dX1_heedCall_79 rfl (lv_at hl 0 rfl) ?_
        refine lv_iload_n hx hb dX1_heedCall_80 rfl (lv_at hl 1 rfl) ?_
        refine z_puti (ci := 4) (C := RX4) (T := TX4) (N := 15) (fs := (zSt (v_11 (zn x01)))) (x := o6) (wf := (fun y => (wLn cy a y))) hx hb hts iX4 tyX4 tyX4_ok nmX4 hown hK hP hD hS _ 10 (wLn_focS cy a v_11 h1 10 (by decide) o6) rfl (by decide) k119 (fun _ h9 => h9) rfl (by decide +kernel) (Nat.le_of_ble_eq_true rfl) hF dX1_heedCall_81 (fun v_12 hF H locs hP hD hS => ?_)
        exact J84 v_12 _ _ ls hP hD hS (lv_sub hl [0] rfl) hF
      refine zf_eq (tgt := 79) hx hb hF dX1_heedCall_55 (by decide) (fun hF => ?_) (fun hF => ?_)
      · exact J79 v_10 _ _ ls hP hD hS (lv_sub hl [2, 3] rfl) hF
      · refine lv_aload_n hx hb dX1_heedCall_58 rfl (lv_at hl 2 rfl) ?_
        refine va_get (ci := 4) (C := RX4) (T := TX4) (N := 15) (fs := (zSt (v_10 (zn x01)))) (v := .int (v_10 (zn x01) 10)) hx hb hts iX4 hown hK hP _ (wLn_atS cy a v_10 h1) rfl 10 (by decide) k119 (fun _ h9 => h9) rfl dX1_heedCall_59 ?_
        refine lv_iload_n hx hb dX1_heedCall_62 rfl (lv_at hl 3 rfl) ?_
        refine zi_eq (tgt := 79) hx hb hF dX1_heedCall_63 (by decide) (fun hF => ?_) (fun hF => ?_)
        · exact J79 v_10 _ _ ls hP hD hS (lv_sub hl [2, 3] rfl) hF
        · refine lv_aload_n hx hb dX1_heedCall_66 rfl (lv_at hl 0 rfl) ?_
          refine va_get (ci := 1) (C := RX1) (T := TX1) (N := 6) (fs := (zLn a v_10)) (v := .ref (a 7)) hx hb hts iX1 hown hK hP _ (wLn_at0 cy a v_10) rfl 2 (by decide) k24 (fun _ h9 => h9) rfl dX1_heedCall_67 ?_
          refine lv_dup hx hb dX1_heedCall_70 rfl ?_
          refine va_get (ci := 5) (C := RX5) (T := TX5) (N := 5) (fs := (zLnL a v_10)) (v := .int (v_10 8 1)) hx hb hts iX5 hown hK hP _ (wLn_at7 cy a v_10) rfl 4 (by decide) k122 (fun _ h9 => h9) rfl dX1_heedCall_71 ?_
          refine lv_iconst (v := 1) hx hb dX1_heedCall_74 (by decide) ?_
          refine lv_iadd hx hb dX1_heedCall_75 ?_
          refine z_puti (ci := 5) (C := RX5) (T := TX5) (N := 5) (fs := (zLnL a v_10)) (x := ((v_10 8 1) + 1)) (wf := (fun y => (wLn cy a y))) hx hb hts iX5 tyX5 tyX5_ok nmX5 hown hK hP hD hS _ 4 (wLn_foc7_4 cy a v_10 ((v_10 8 1) + 1)) rfl (by decide) k122 (fun _ h9 => h9) rfl (by decide +kernel) (Nat.le_of_ble_eq_true rfl) hF dX1_heedCall_76 (fun v_13 hF H locs hP hD hS => ?_)
          exact J79 v_13 _ _ ls hP hD hS (lv_sub hl [2, 3] rfl) hF
    refine zi_ne (tgt := 33) hx hb hF dX1_heedCall_26 (by decide) (fun hF => ?_) (fun hF => ?_)
    · refine lv_iconst (v := (-1)) hx hb dX1_heedCall_33 (by decide) ?_
      exact J34 (-1) _ _ ls hP hD hS (lv_sub hl [2, 3, 1, 0] rfl) hF
    · refine lv_iconst (v := 1) hx hb dX1_heedCall_29 (by decide) ?_
      refine lv_goto (tgt := 34) hx hb dX1_heedCall_30 (by decide) ?_
      exact J34 1 _ _ ls hP hD hS (lv_sub hl [2, 3, 1, 0] rfl) hF
def j_X1_runTick_91 (v_3 : R2) : Option (R2) :=
zlet (z2 v_3 9 2 ((v_3 9 2) + 1)) fun v_4 =>
zbd (f_X1_reckon v_4) fun o5 =>
some o5
def j_X1_runTick_85 (rc63 : (Int32 × R2) → Option (R2)) (s63 : Int32 × R2) (v_6 : R2) : Option (R2) :=
zlet (s63.1 + 1) fun x7 =>
rc63 (x7, v_6)
def b_X1_runTick_63 (rc63 : (Int32 × R2) → Option (R2)) (s63 : Int32 × R2) : Option (R2) :=
if (s63.2 9 0) ≤ s63.1 then (
j_X1_runTick_91 s63.2) else (
zg (zin s63.1 4) (
if ((s63.2 4) (zn s63.1)) = 0 then (
j_X1_runTick_85 rc63 s63 s63.2) else (
zbd (f_X1_heedCall s63.2 s63.1) fun o8 =>
j_X1_runTick_85 rc63 s63 o8)))
def j_X1_runTick_57 (v_1 : R2) : Option (R2) :=
zbd (f_X1_passCallsOn v_1) fun o2 =>
zloop (b_X1_runTick_63) 1000 (0, o2)
def j_X1_runTick_50 (rc2 : (Int32 × R2) → Option (R2)) (s2 : Int32 × R2) (v_11 : R2) (t14 : Int32) : Option (R2) :=
zg (zin s2.1 4) (
zlet (va_up v_11 4 (upd (v_11 4) (zn s2.1) (vp_nar .boolean t14))) fun v_15 =>
zlet (s2.1 + 1) fun x16 =>
rc2 (x16, v_15))
def b_X1_runTick_2 (rc2 : (Int32 × R2) → Option (R2)) (s2 : Int32 × R2) : Option (R2) :=
if (s2.2 9 0) ≤ s2.1 then (
j_X1_runTick_57 s2.2) else (
zg (zin s2.1 4) (
zbd (f_X4_countOn (s2.2 (zn s2.1))) fun o10 =>
zlet (va_up s2.2 (zn s2.1) o10) fun v_11 =>
zg (zin s2.1 4) (
zg (zin s2.1 4) (
if (v_11 (zn s2.1) 8) < (v_11 (zn s2.1) 3) then (
j_X1_runTick_50 rc2 s2 v_11 0) else (
j_X1_runTick_50 rc2 s2 v_11 1)))))
def f_X1_runTick (v : R2) : Option (R2) :=
zloop (b_X1_runTick_2) 1000 (0, v)
set_option maxHeartbeats 4000000 in
set_option maxRecDepth 100000 in
theorem c_X1_runTick (l : Launch) (G : va_G) (cy : Nat → ClassId) (st : Nat → Nat) (a : Nat → Nat) (v : R2) (o : R2) (hF : f_X1_runTick v = some o) : zMv l yX1_runTick wsX1_runTick (zR 5) G cy st [.ref (a 0)] (wLn cy a v) (wLn cy a o) := by
  refine zM_of (cc := cX1_runTick) (maxL := 2) (ret := none) (Qc := fun A => zQv G cy A (wLn cy a o)) (by decide) rfl (Nat.le_of_ble_eq_true rfl) ?_
  intro p e s m below meth c A ls hx hb hml hr hlocks hown hts hK hSE hA hP hD hS hl
  have hown : s.vm.findClass RX1 = some m.cls := hown
  have hl : lv_has ls 2 [(0, .ref (a 0))] := hl
  have k36 := hts (.fieldLink RX1 36 "TapCascade$Line" "ticks" "I") (by decide +kernel)
  have iX1 : ∀ w ∈ wsX10, w ∈ wsX1_runTick := fun w h => List.mem_cons_of_mem _ (List.mem_append_left _ (List.mem_append_left _ (List.mem_append_right _ h)))
  have k29 := hts (.fieldLink RX1 29 "TapCascade$Line" "size" "I") (by decide +kernel)
  have k17 := hts (.fieldLink RX1 17 "TapCascade$Line" "called" "[Z") (by decide +kernel)
  have k11 := hts (.fieldLink RX1 11 "TapCascade$Line" "stages" "[LTapCascade$Stage;") (by decide +kernel)
  have k86 := hts (.fieldLink RX1 86 "TapCascade$Stage" "count" "I") (by decide +kernel)
  have iX4 : ∀ w ∈ wsX40, w ∈ wsX1_runTick := fun w h => List.mem_cons_of_mem _ (List.mem_append_left _ (List.mem_append_right _ h))
  have k89 := hts (.fieldLink RX1 89 "TapCascade$Stage" "wait" "I") (by decide +kernel)
  unfold f_X1_runTick at hF
  refine lv_iconst (v := 0) hx hb dX1_runTick_0 (by decide) ?_
  refine lv_istore_n (lv' := [(1, .int 0), (0, .ref (a 0))]) hx hb dX1_runTick_1 rfl hl (by decide) rfl (fun ls hl => ?_)
  have J57 : ∀ (v_1 : R2) (H : Heap) (locs : List Loc) (ls : Array Slot), va_P G vwCl (wLn cy a v_1) H → va_D A (wLn cy a v_1) → va_S A s.heap H locs → lv_has ls 2 [(0, .ref (a 0))] → j_X1_runTick_57 v_1 = some o → W p l e (zR 5) s m ([.ref (a 0)] : List Value).toArray below meth c H locs 0 0 (MQ below (zQv G cy A (wLn cy a o)) ([.ref (a 0)] : List Value).toArray s 0 0 A) (F0 m 57 ls []) := by
    intro v_1 H locs ls hP hD hS hl hF
    unfold j_X1_runTick_57 at hF
    refine lv_aload_n hx hb dX1_runTick_57 rfl (lv_at hl 0 rfl) ?_
    refine z_cVv (b := a 0) (As := []) (rest := []) (wc := (wLn cy a v_1)) (wcf := fun o' => (wLn cy a o')) (wf := fun o' => (wLn cy a o')) hF (fun o' hz => c_X1_passCallsOn l G cy st a v_1 o' hz) (fun o' => zCut_all) ⟨hx, hb, hml, hown, hts⟩ (cwV 0 hts gX1_runTick_X1_passCallsOn rfl rfl rfl (by decide +kernel) ⟨by decide, by decide⟩) (ci := 1) (q0 := 0) rfl (wLn_at0 cy a v_1) hK hSE hA hP hD hS rfl hl.1 rfl (Nat.le_of_ble_eq_true rfl) dX1_runTick_58 ⟨Nat.le_refl _, Nat.le_refl _⟩ (fun o2 hF H locs hP hD hS => ?_)
    refine lv_iconst (v := 0) hx hb dX1_runTick_61 (by decide) ?_
    refine lv_istore_n (lv' := [(1, .int 0), (0, .ref (a 0))]) hx hb dX1_runTick_62 rfl hl (by decide) rfl (fun ls hl => ?_)
    have J91 : ∀ (v_3 : R2) (H : Heap) (locs : List Loc) (ls : Array Slot), va_P G vwCl (wLn cy a v_3) H → va_D A (wLn cy a v_3) → va_S A s.heap H locs → lv_has ls 2 [(0, .ref (a 0))] → j_X1_runTick_91 v_3 = some o → W p l e (zR 5) s m ([.ref (a 0)] : List Value).toArray below meth c H locs 0 0 (MQ below (zQv G cy A (wLn cy a o)) ([.ref (a 0)] : List Value).toArray s 0 0 A) (F0 m 91 ls []) := by
      intro v_3 H locs ls hP hD hS hl hF
      unfold j_X1_runTick_91 at hF
      refine lv_aload_n hx hb dX1_runTick_91 rfl (lv_at hl 0 rfl) ?_
      refine lv_dup hx hb dX1_runTick_92 rfl ?_
      refine va_get (ci := 1) (C := RX1) (T := TX1) (N := 6) (fs := (zLn a v_3)) (v := .int (v_3 9 2)) hx hb hts iX1 hown hK hP _ (wLn_at0 cy a v_3) rfl 5 (by decide) k36 (fun _ h9 => h9) rfl dX1_runTick_93 ?_
      refine lv_iconst (v := 1) hx hb dX1_runTick_96 (by decide) ?_
      refine lv_iadd hx hb dX1_runTick_97 ?_
      refine z_puti (ci := 1) (C := RX1) (T := TX1) (N := 6) (fs := (zLn a v_3)) (x := ((v_3 9 2) + 1)) (wf := (fun y => (wLn cy a y))) hx hb hts iX1 tyX1 tyX1_ok nmX1 hown hK hP hD hS _ 5 (wLn_foc0_5 cy a v_3 ((v_3 9 2) + 1)) rfl (by decide) k36 (fun _ h9 => h9) rfl (by decide +kernel) (Nat.le_of_ble_eq_true rfl) hF dX1_runTick_98 (fun v_4 hF H locs hP hD hS => ?_)
      refine lv_aload_n hx hb dX1_runTick_101 rfl (lv_at hl 0 rfl) ?_
      refine z_cVv (b := a 0) (As := []) (rest := []) (wc := (wLn cy a v_4)) (wcf := fun o' => (wLn cy a o')) (wf := fun o' => (wLn cy a o')) hF (fun o' hz => c_X1_reckon l G cy st a v_4 o' hz) (fun o' => zCut_all) ⟨hx, hb, hml, hown, hts⟩ (cwV 0 hts gX1_runTick_X1_reckon rfl rfl rfl (by decide +kernel) ⟨by decide, by decide⟩) (ci := 1) (q0 := 0) rfl (wLn_at0 cy a v_4) hK hSE hA hP hD hS rfl hl.1 rfl (Nat.le_of_ble_eq_true rfl) dX1_runTick_102 ⟨Nat.le_refl _, Nat.le_refl _⟩ (fun o5 hF H locs hP hD hS => ?_)
      refine z_vret (o := o) (o1 := o5) (wf := (fun o => (wLn cy a o))) hx hb hr hlocks hK ?_ ?_ hS ?_ dX1_runTick_105
      · exact hP
      · exact hD
      · exact hF
    have L63 : ∀ (n : Nat) (s63 : Int32 × R2) (H : Heap) (locs : List Loc) (ls : Array Slot), va_P G vwCl (wLn cy a s63.2) H → va_D A (wLn cy a s63.2) → va_S A s.heap H locs → lv_has ls 2 [(0, .ref (a 0)), (1, .int s63.1)] → zloop (b_X1_runTick_63) n s63 = some o → W p l e (zR 5) s m ([.ref (a 0)] : List Value).toArray below meth c H locs 0 0 (MQ below (zQv G cy A (wLn cy a o)) ([.ref (a 0)] : List Value).toArray s 0 0 A) (F0 m 63 ls []) := by
      intro n
      induction n with
      | zero => exact fun s63 H locs ls _ _ _ _ hF => (zloop_0 hF).elim
      | succ n ih63 =>
        intro s63 H locs ls hP hD hS hl hF
        have hF : b_X1_runTick_63 (zloop (b_X1_runTick_63) n) s63 = some o := hF
        generalize zloop (b_X1_runTick_63) n = rc63 at ih63 hF
        unfold b_X1_runTick_63 at hF
        refine lv_iload_n hx hb dX1_runTick_63 rfl (lv_at hl 1 rfl) ?_
        refine lv_aload_n hx hb dX1_runTick_64 rfl (lv_at hl 0 rfl) ?_
        refine va_get (ci := 1) (C := RX1) (T := TX1) (N := 6) (fs := (zLn a s63.2)) (v := .int (s63.2 9 0)) hx hb hts iX1 hown hK hP _ (wLn_at0 cy a s63.2) rfl 3 (by decide) k29 (fun _ h9 => h9) rfl dX1_runTick_65 ?_
        refine zi_ge (tgt := 91) hx hb hF dX1_runTick_68 (by decide) (fun hF => ?_) (fun hF => ?_)
        · exact J91 s63.2 _ _ ls hP hD hS (lv_sub hl [0] rfl) hF
        · refine lv_aload_n hx hb dX1_runTick_71 rfl (lv_at hl 0 rfl) ?_
          refine va_get (ci := 1) (C := RX1) (T := TX1) (N := 6) (fs := (zLn a s63.2)) (v := .ref (a 6)) hx hb hts iX1 hown hK hP _ (wLn_at0 cy a s63.2) rfl 1 (by decide) k17 (fun _ h9 => h9) rfl dX1_runTick_72 ?_
          refine lv_iload_n hx hb dX1_runTick_75 rfl (lv_at hl 1 rfl) ?_
          refine z_zald (n := 4) (f := (s63.2 4)) hx hb hK hP _ 3 (wLn_at6 cy a s63.2) rfl hF dX1_runTick_76 (fun hF => ?_)
          have J85 : ∀ (v_6 : R2) (H : Heap) (locs : List Loc) (ls : Array Slot), va_P G vwCl (wLn cy a v_6) H → va_D A (wLn cy a v_6) → va_S A s.heap H locs → lv_has ls 2 [(0, .ref (a 0)), (1, .int s63.1)] → j_X1_runTick_85 rc63 s63 v_6 = some o → W p l e (zR 5) s m ([.ref (a 0)] : List Value).toArray below meth c H locs 0 0 (MQ below (zQv G cy A (wLn cy a o)) ([.ref (a 0)] : List Value).toArray s 0 0 A) (F0 m 85 ls []) := by
            intro v_6 H locs ls hP hD hS hl hF
            unfold j_X1_runTick_85 at hF
            refine z_name hF (fun x7 ex7 hF => ?_)
            refine lv_iinc (v := x7) (lv' := [(1, .int x7), (0, .ref (a 0))]) hx hb dX1_runTick_85 hl (k := 1) rfl (by rw [ex7]; rfl) (by decide) rfl (fun ls hl => ?_)
            refine lv_goto (tgt := 63) hx hb dX1_runTick_88 (by decide) ?_
            exact ih63 (x7, v_6) _ _ ls hP hD hS (lv_sub hl [1, 0] rfl) hF
          refine zf_eq (tgt := 85) hx hb hF dX1_runTick_77 (by decide) (fun hF => ?_) (fun hF => ?_)
          · exact J85 s63.2 _ _ ls hP hD hS (lv_sub hl [0, 1] rfl) hF
          · refine lv_aload_n hx hb dX1_runTick_80 rfl (lv_at hl 0 rfl) ?_
            refine lv_iload_n hx hb dX1_runTick_81 rfl (lv_at hl 1 rfl) ?_
            refine z_cVv (b := a 0) (As := [.int s63.1]) (rest := []) (wc := (wLn cy a s63.2)) (wcf := fun o' => (wLn cy a o')) (wf := fun o' => (wLn cy a o')) hF (fun o' hz => c_X1_heedCall l G cy st a s63.2 s63.1 o' hz) (fun o' => zCut_all) ⟨hx, hb, hml, hown, hts⟩ (cwV 1 hts gX1_runTick_X1_heedCall rfl rfl rfl (by decide +kernel) ⟨by decide, by decide⟩) (ci := 1) (q0 := 0) rfl (wLn_at0 cy a s63.2) hK hSE hA hP hD hS rfl hl.1 rfl (Nat.le_of_ble_eq_true rfl) dX1_runTick_82 ⟨Nat.le_refl _, Nat.le_refl _⟩ (fun o8 hF H locs hP hD hS => ?_)
            exact J85 o8 _ _ ls hP hD hS (lv_sub hl [0, 1] rfl) hF
    exact L63 1000 (0, o2) _ _ ls hP hD hS (lv_sub hl [1, 0] rfl) hF
  have L2 : ∀ (n : Nat) (s2 : Int32 × R2) (H : Heap) (locs : List Loc) (ls : Array Slot), va_P G vwCl (wLn cy a s2.2) H → va_D A (wLn cy a s2.2) → va_S A s.heap H locs → lv_has ls 2 [(0, .ref (a 0)), (1, .int s2.1)] → zloop (b_X1_runTick_2) n s2 = some o → W p l e (zR 5) s m ([.ref (a 0)] : List Value).toArray below meth c H locs 0 0 (MQ below (zQv G cy A (wLn cy a o)) ([.ref (a 0)] : List Value).toArray s 0 0 A) (F0 m 2 ls []) := by
    intro n
    induction n with
    | zero => exact fun s2 H locs ls _ _ _ _ hF => (zloop_0 hF).elim
    | succ n ih2 =>
      intro s2 H locs ls hP hD hS hl hF
      have hF : b_X1_runTick_2 (zloop (b_X1_runTick_2) n) s2 = some o := hF
      generalize zloop (b_X1_runTick_2) n = rc2 at ih2 hF
      unfold b_X1_runTick_2 at hF
      refine lv_iload_n hx hb dX1_runTick_2 rfl (lv_at hl 1 rfl) ?_
      refine lv_aload_n hx hb dX1_runTick_3 rfl (lv_at hl 0 rfl) ?_
      refine va_get (ci := 1) (C := RX1) (T := TX1) (N := 6) (fs := (zLn a s2.2)) (v := .int (s2.2 9 0)) hx hb hts iX1 hown hK hP _ (wLn_at0 cy a s2.2) rfl 3 (by decide) k29 (fun _ h9 => h9) rfl dX1_runTick_4 ?_
      refine zi_ge (tgt := 57) hx hb hF dX1_runTick_7 (by decide) (fun hF => ?_) (fun hF => ?_)
      · exact J57 s2.2 _ _ ls hP hD hS (lv_sub hl [0] rfl) hF
      · refine lv_aload_n hx hb dX1_runTick_10 rfl (lv_at hl 0 rfl) ?_
        refine va_get (ci := 1) (C := RX1) (T := TX1) (N := 6) (fs := (zLn a s2.2)) (v := .ref (a 1)) hx hb hts iX1 hown hK hP _ (wLn_at0 cy a s2.2) rfl 0 (by decide) k11 (fun _ h9 => h9) rfl dX1_runTick_11 ?_
        refine lv_iload_n hx hb dX1_runTick_14 rfl (lv_at hl 1 rfl) ?_
        refine z_aald (ad := (fun j => a (2 + j))) (n := 4) hx hb hK hP _ 5 (wLn_at1 cy a s2.2) rfl hF dX1_runTick_15 (fun h9 hF => ?_)
        refine z_cVv (b := a (2 + zn s2.1)) (As := []) (rest := []) (wc := (wSt cy (a (2 + zn s2.1)) (s2.2 (zn s2.1)))) (wcf := fun o' => (wSt cy (a (2 + zn s2.1)) o')) (wf := fun o' => (wLn cy a (va_up s2.2 (zn s2.1) o'))) hF (fun o' hz => c_X4_countOn l G cy st (a (2 + zn s2.1)) (s2.2 (zn s2.1)) o' hz) (fun o' => (wLn_cutS cy a s2.2 h9 _)) ⟨hx, hb, hml, hown, hts⟩ (cwV 0 hts gX1_runTick_X4_countOn rfl rfl rfl (by decide +kernel) ⟨by decide, by decide⟩) (ci := 4) (q0 := 0) rfl (wSt_at0 cy (a (2 + zn s2.1)) (s2.2 (zn s2.1))) hK hSE hA hP hD hS rfl hl.1 rfl (Nat.le_of_ble_eq_true rfl) dX1_runTick_16 ⟨Nat.le_refl _, Nat.le_refl _⟩ (fun o10 hF H locs hP hD hS => ?_)
        refine z_nameW (wf := (fun y => (wLn cy a y))) hF hP hD (fun v_11 hF hP hD => ?_)
        refine lv_aload_n hx hb dX1_runTick_19 rfl (lv_at hl 0 rfl) ?_
        refine va_get (ci := 1) (C := RX1) (T := TX1) (N := 6) (fs := (zLn a v_11)) (v := .ref (a 6)) hx hb hts iX1 hown hK hP _ (wLn_at0 cy a v_11) rfl 1 (by decide) k17 (fun _ h9 => h9) rfl dX1_runTick_20 ?_
        refine lv_iload_n hx hb dX1_runTick_23 rfl (lv_at hl 1 rfl) ?_
        refine lv_aload_n hx hb dX1_runTick_24 rfl (lv_at hl 0 rfl) ?_
        refine va_get (ci := 1) (C := RX1) (T := TX1) (N := 6) (fs := (zLn a v_11)) (v := .ref (a 1)) hx hb hts iX1 hown hK hP _ (wLn_at0 cy a v_11) rfl 0 (by decide) k11 (fun _ h9 => h9) rfl dX1_runTick_25 ?_
        refine lv_iload_n hx hb dX1_runTick_28 rfl (lv_at hl 1 rfl) ?_
        refine z_aald (ad := (fun j => a (2 + j))) (n := 4) hx hb hK hP _ 5 (wLn_at1 cy a v_11) rfl hF dX1_runTick_29 (fun h12 hF => ?_)
        refine va_get (ci := 4) (C := RX4) (T := TX4) (N := 15) (fs := (zSt (v_11 (zn s2.1)))) (v := .int (v_11 (zn s2.1) 8)) hx hb hts iX4 hown hK hP _ (wLn_atS cy a v_11 h12) rfl 8 (by decide) k86 (fun _ h9 => h9) rfl dX1_runTick_30 ?_
        refine lv_aload_n hx hb dX1_runTick_33 rfl (lv_at hl 0 rfl) ?_
        refine va_get (ci := 1) (C := RX1) (T := TX1) (N := 6) (fs := (zLn a v_11)) (v := .ref (a 1)) hx hb hts iX1 hown hK hP _ (wLn_at0 cy a v_11) rfl 0 (by decide) k11 (fun _ h9 => h9) rfl dX1_runTick_34 ?_
        refine lv_iload_n hx hb dX1_runTick_37 rfl (lv_at hl 1 rfl) ?_
        refine z_aald (ad := (fun j => a (2 + j))) (n := 4) hx hb hK hP _ 5 (wLn_at1 cy a v_11) rfl hF dX1_runTick_38 (fun h13 hF => ?_)
        refine va_get (ci := 4) (C := RX4) (T := TX4) (N := 15) (fs := (zSt (v_11 (zn s2.1)))) (v := .int (v_11 (zn s2.1) 3)) hx hb hts iX4 hown hK hP _ (wLn_atS cy a v_11 h13) rfl 3 (by decide) k89 (fun _ h9 => h9) rfl dX1_runTick_39 ?_
        have J50 : ∀ (t14 : Int32) (H : Heap) (locs : List Loc) (ls : Array Slot), va_P G vwCl (wLn cy a v_11) H → va_D A (wLn cy a v_11) → va_S A s.heap H locs → lv_has ls 2 [(0, .ref (a 0)), (1, .int s2.1)] → j_X1_runTick_50 rc2 s2 v_11 t14 = some o → W p l e (zR 5) s m ([.ref (a 0)] : List Value).toArray below meth c H locs 0 0 (MQ below (zQv G cy A (wLn cy a o)) ([.ref (a 0)] : List Value).toArray s 0 0 A) (F0 m 50 ls [.int t14, .int s2.1, .ref (a 6)]) := by
          intro t14 H locs ls hP hD hS hl hF
          unfold j_X1_runTick_50 at hF
          refine z_zast (n := 4) (f := (v_11 4)) (i := s2.1) (x := t14) (wf := (fun y => (wLn cy a y))) hx hb hK hP hD hS _ 3 (wLn_foc6 cy a v_11 _) rfl hF dX1_runTick_50 (fun v_15 hF H locs hP hD hS => ?_)
          refine z_name hF (fun x16 ex16 hF => ?_)
          refine lv_iinc (v := x16) (lv' := [(1, .int x16), (0, .ref (a 0))]) hx hb dX1_runTick_51 hl (k := 1) rfl (by rw [ex16]; rfl) (by decide) rfl (fun ls hl => ?_)
          refine lv_goto (tgt := 2) hx hb dX1_runTick_54 (by decide) ?_
          exact ih2 (x16, v_15) _ _ ls hP hD hS (lv_sub hl [1, 0] rfl) hF
        refine zi_lt (tgt := 49) hx hb hF dX1_runTick_42 (by decide) (fun hF => ?_) (fun hF => ?_)
        · refine lv_iconst (v := 0) hx hb dX1_runTick_49 (by decide) ?_
          exact J50 0 _ _ ls hP hD hS (lv_sub hl [0, 1] rfl) hF
        · refine lv_iconst (v := 1) hx hb dX1_runTick_45 (by decide) ?_
          refine lv_goto (tgt := 50) hx hb dX1_runTick_46 (by decide) ?_
          exact J50 1 _ _ ls hP hD hS (lv_sub hl [0, 1] rfl) hF
  exact L2 1000 (0, v) _ _ ls hP hD hS (lv_sub hl [1, 0] rfl) hF
