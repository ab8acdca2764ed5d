/-! ===== 20.stage: laid by a program out of the decode rows ===== -/
def f_X4_turned (g : Nat → Int32) : Option (Int32) :=
some (1000 + ((g 7) * (g 0)))
set_option maxHeartbeats 4000000 in
set_option maxRecDepth 100000 in
theorem c_X4_turned (l : Launch) (G : va_G) (cy : Nat → ClassId) (st : Nat → Nat) (a : Nat) (g : Nat → Int32) (o : Int32) (hF : f_X4_turned g = some o) : zMi l yX4_turned wsX4_turned (zR 1) G cy st [.ref a] (wSt cy a g) (wSt cy a g) o := by
  refine zM_of (cc := cX4_turned) (maxL := 1) (ret := (some .int)) (Qc := fun A => zQi G cy A (wSt cy a g) o) (by decide) rfl (Nat.le_of_ble_eq_true rfl) ?_
  intro p e s m below meth c A ls hx hb hml hr hlocks hown hts hK hSE hA hP hD hS hl
  have hown : s.vm.findClass RX4 = some m.cls := hown
  have hl : lv_has ls 1 [(0, .ref a)] := hl
  have k37 := hts (.fieldLink RX4 37 "TapCascade$Stage" "tap" "I") (by decide +kernel)
  have iX4 : ∀ w ∈ wsX40, w ∈ wsX4_turned := fun w h => List.mem_cons_of_mem _ (List.mem_append_right _ h)
  have k13 := hts (.fieldLink RX4 13 "TapCascade$Stage" "step" "I") (by decide +kernel)
  unfold f_X4_turned at hF
  refine lv_sipush (v := 1000) hx hb dX4_turned_0 (by decide) ?_
  refine lv_aload_n hx hb dX4_turned_3 rfl (lv_at hl 0 rfl) ?_
  refine va_get (ci := 4) (C := RX4) (T := TX4) (N := 15) (fs := (zSt g)) (v := .int (g 7)) hx hb hts iX4 hown hK hP _ (wSt_at0 cy a g) rfl 7 (by decide) k37 (fun _ h9 => h9) rfl dX4_turned_4 ?_
  refine lv_aload_n hx hb dX4_turned_7 rfl (lv_at hl 0 rfl) ?_
  refine va_get (ci := 4) (C := RX4) (T := TX4) (N := 15) (fs := (zSt g)) (v := .int (g 0)) hx hb hts iX4 hown hK hP _ (wSt_at0 cy a g) rfl 0 (by decide) k13 (fun _ h9 => h9) rfl dX4_turned_8 ?_
  refine lv_imul hx hb dX4_turned_11 ?_
  refine lv_iadd hx hb dX4_turned_12 ?_
  refine z_iret (o := o) (o1 := (1000 + ((g 7) * (g 0)))) (v := (1000 + ((g 7) * (g 0)))) (wf := (fun o => (wSt cy a g))) (rf := fun o => o) hx hb hr hlocks hK ?_ ?_ hS ?_ rfl dX4_turned_13
  · exact hP
  · exact hD
  · exact hF
def f_X4_off (g : Nat → Int32) : Option (Int32) :=
some (zabs ((g 14) - (g 1)))
set_option maxHeartbeats 4000000 in
set_option maxRecDepth 100000 in
theorem c_X4_off (l : Launch) (G : va_G) (cy : Nat → ClassId) (st : Nat → Nat) (a : Nat) (g : Nat → Int32) (o : Int32) (hF : f_X4_off g = some o) : zMi l yX4_off wsX4_off (zR 1) G cy st [.ref a] (wSt cy a g) (wSt cy a g) o := by
  refine zM_of (cc := cX4_off) (maxL := 1) (ret := (some .int)) (Qc := fun A => zQi G cy A (wSt cy a g) o) (by decide) rfl (Nat.le_of_ble_eq_true rfl) ?_
  intro p e s m below meth c A ls hx hb hml hr hlocks hown hts hK hSE hA hP hD hS hl
  have hown : s.vm.findClass RX4 = some m.cls := hown
  have hl : lv_has ls 1 [(0, .ref a)] := hl
  have k59 := hts (.fieldLink RX4 59 "TapCascade$Stage" "out" "I") (by decide +kernel)
  have iX4 : ∀ w ∈ wsX40, w ∈ wsX4_off := fun w h => List.mem_cons_of_mem _ (List.mem_append_right _ h)
  have k19 := hts (.fieldLink RX4 19 "TapCascade$Stage" "target" "I") (by decide +kernel)
  have k62 := hts (.methodLink RX4 62 Lib.Math.abs.name) (by decide +kernel)
  have k62s := hts (.static Lib.Math.abs.name) (by decide +kernel)
  have kMi := hts (.initialized "java/lang/Math") (by decide +kernel)
  have k62c := hts (.code Lib.Math.abs.name Lib.Math.abs.code 1 (some .int)) (by decide +kernel)
  unfold f_X4_off at hF
  refine lv_aload_n hx hb dX4_off_0 rfl (lv_at hl 0 rfl) ?_
  refine va_get (ci := 4) (C := RX4) (T := TX4) (N := 15) (fs := (zSt g)) (v := .int (g 14)) hx hb hts iX4 hown hK hP _ (wSt_at0 cy a g) rfl 14 (by decide) k59 (fun _ h9 => h9) rfl dX4_off_1 ?_
  refine lv_aload_n hx hb dX4_off_4 rfl (lv_at hl 0 rfl) ?_
  refine va_get (ci := 4) (C := RX4) (T := TX4) (N := 15) (fs := (zSt g)) (v := .int (g 1)) hx hb hts iX4 hown hK hP _ (wSt_at0 cy a g) rfl 1 (by decide) k19 (fun _ h9 => h9) rfl dX4_off_5 ?_
  refine lv_isub hx hb dX4_off_8 ?_
  refine va_mabs hx hb (hml.trans hl.1.symm) hown k62 k62s kMi k62c (by decide) (Nat.le_of_ble_eq_true rfl) (Nat.zero_le _) (Nat.zero_le _) dX4_off_9 ?_
  refine z_iret (o := o) (o1 := (zabs ((g 14) - (g 1)))) (v := (zabs ((g 14) - (g 1)))) (wf := (fun o => (wSt cy a g))) (rf := fun o => o) hx hb hr hlocks hK ?_ ?_ hS ?_ rfl dX4_off_12
  · exact hP
  · exact hD
  · exact hF
def f_X4_judged (g : Nat → Int32) : Option (Int32) :=
if ((g 1) - (g 2)) ≤ (g 14) then (
if (g 14) ≤ ((g 1) + (g 2)) then (
some 0) else (
some 2)) else (
some 1)
set_option maxHeartbeats 4000000 in
set_option maxRecDepth 100000 in
theorem c_X4_judged (l : Launch) (G : va_G) (cy : Nat → ClassId) (st : Nat → Nat) (a : Nat) (g : Nat → Int32) (o : Int32) (hF : f_X4_judged g = some o) : zMi l yX4_judged wsX4_judged (zR 1) G cy st [.ref a] (wSt cy a g) (wSt cy a g) o := by
  refine zM_of (cc := cX4_judged) (maxL := 1) (ret := (some .int)) (Qc := fun A => zQi G cy A (wSt cy a g) o) (by decide) rfl (Nat.le_of_ble_eq_true rfl) ?_
  intro p e s m below meth c A ls hx hb hml hr hlocks hown hts hK hSE hA hP hD hS hl
  have hown : s.vm.findClass RX4 = some m.cls := hown
  have hl : lv_has ls 1 [(0, .ref a)] := hl
  have k59 := hts (.fieldLink RX4 59 "TapCascade$Stage" "out" "I") (by decide +kernel)
  have iX4 : ∀ w ∈ wsX40, w ∈ wsX4_judged := fun w h => List.mem_cons_of_mem _ (List.mem_append_right _ h)
  have k19 := hts (.fieldLink RX4 19 "TapCascade$Stage" "target" "I") (by decide +kernel)
  have k22 := hts (.fieldLink RX4 22 "TapCascade$Stage" "band" "I") (by decide +kernel)
  unfold f_X4_judged at hF
  refine lv_aload_n hx hb dX4_judged_0 rfl (lv_at hl 0 rfl) ?_
  refine va_get (ci := 4) (C := RX4) (T := TX4) (N := 15) (fs := (zSt g)) (v := .int (g 14)) hx hb hts iX4 hown hK hP _ (wSt_at0 cy a g) rfl 14 (by decide) k59 (fun _ h9 => h9) rfl dX4_judged_1 ?_
  refine lv_aload_n hx hb dX4_judged_4 rfl (lv_at hl 0 rfl) ?_
  refine va_get (ci := 4) (C := RX4) (T := TX4) (N := 15) (fs := (zSt g)) (v := .int (g 1)) hx hb hts iX4 hown hK hP _ (wSt_at0 cy a g) rfl 1 (by decide) k19 (fun _ h9 => h9) rfl dX4_judged_5 ?_
  refine lv_aload_n hx hb dX4_judged_8 rfl (lv_at hl 0 rfl) ?_
  refine va_get (ci := 4) (C := RX4) (T := TX4) (N := 15) (fs := (zSt g)) (v := .int (g 2)) hx hb hts iX4 hown hK hP _ (wSt_at0 cy a g) rfl 2 (by decide) k22 (fun _ h9 => h9) rfl dX4_judged_9 ?_
  refine lv_isub hx hb dX4_judged_12 ?_
  refine zi_ge (tgt := 18) hx hb hF dX4_judged_13 (by decide) (fun hF => ?_) (fun hF => ?_)
  · refine lv_aload_n hx hb dX4_judged_18 rfl (lv_at hl 0 rfl) ?_
    refine va_get (ci := 4) (C := RX4) (T := TX4) (N := 15) (fs := (zSt g)) (v := .int (g 14)) hx hb hts iX4 hown hK hP _ (wSt_at0 cy a g) rfl 14 (by decide) k59 (fun _ h9 => h9) rfl dX4_judged_19 ?_
    refine lv_aload_n hx hb dX4_judged_22 rfl (lv_at hl 0 rfl) ?_
    refine va_get (ci := 4) (C := RX4) (T := TX4) (N := 15) (fs := (zSt g)) (v := .int (g 1)) hx hb hts iX4 hown hK hP _ (wSt_at0 cy a g) rfl 1 (by decide) k19 (fun _ h9 => h9) rfl dX4_judged_23 ?_
    refine lv_aload_n hx hb dX4_judged_26 rfl (lv_at hl 0 rfl) ?_
    refine va_get (ci := 4) (C := RX4) (T := TX4) (N := 15) (fs := (zSt g)) (v := .int (g 2)) hx hb hts iX4 hown hK hP _ (wSt_at0 cy a g) rfl 2 (by decide) k22 (fun _ h9 => h9) rfl dX4_judged_27 ?_
    refine lv_iadd hx hb dX4_judged_30 ?_
    refine zi_le (tgt := 38) hx hb hF dX4_judged_31 (by decide) (fun hF => ?_) (fun hF => ?_)
    · refine lv_iconst (v := 0) hx hb dX4_judged_38 (by decide) ?_
      refine z_iret (o := o) (o1 := 0) (v := 0) (wf := (fun o => (wSt cy a g))) (rf := fun o => o) hx hb hr hlocks hK ?_ ?_ hS ?_ rfl dX4_judged_39
      · exact hP
      · exact hD
      · exact hF
    · refine lv_iconst (v := 2) hx hb dX4_judged_34 (by decide) ?_
      refine lv_goto (tgt := 39) hx hb dX4_judged_35 (by decide) ?_
      refine z_iret (o := o) (o1 := 2) (v := 2) (wf := (fun o => (wSt cy a g))) (rf := fun o => o) hx hb hr hlocks hK ?_ ?_ hS ?_ rfl dX4_judged_39
      · exact hP
      · exact hD
      · exact hF
  · refine lv_iconst (v := 1) hx hb dX4_judged_16 (by decide) ?_
    refine z_iret (o := o) (o1 := 1) (v := 1) (wf := (fun o => (wSt cy a g))) (rf := fun o => o) hx hb hr hlocks hK ?_ ?_ hS ?_ rfl dX4_judged_17
    · exact hP
    · exact hD
    · exact hF
def j_X4_wants_57 (t2 : Int32) (t3 : Int32) : Option (Int32) :=
if t3 = t2 then (
some 2) else (
some 1)
def j_X4_wants_46 (o1 : Int32) (t2 : Int32) : Option (Int32) :=
if o1 = (1 : Int32) then (
j_X4_wants_57 t2 1) else (
j_X4_wants_57 t2 0)
def j_X4_wants_45 (o1 : Int32) : Option (Int32) :=
j_X4_wants_46 o1 0
def j_X4_wants_26 (g : Nat → Int32) (o1 : Int32) : Option (Int32) :=
if 0 ≤ (g 12) then (
j_X4_wants_45 o1) else (
if (g 4) = (2 : Int32) then (
j_X4_wants_46 o1 1) else (
j_X4_wants_45 o1))
def f_X4_wants (g : Nat → Int32) : Option (Int32) :=
zbd (f_X4_judged g) fun o1 =>
if o1 = 0 then (
some 0) else (
if 0 ≤ (g 12) then (
j_X4_wants_26 g o1) else (
if (g 4) = (1 : Int32) then (
some 0) else (
j_X4_wants_26 g o1)))
set_option maxHeartbeats 4000000 in
set_option maxRecDepth 100000 in
theorem c_X4_wants (l : Launch) (G : va_G) (cy : Nat → ClassId) (st : Nat → Nat) (a : Nat) (g : Nat → Int32) (o : Int32) (hF : f_X4_wants g = some o) : zMi l yX4_wants wsX4_wants (zR 2) G cy st [.ref a] (wSt cy a g) (wSt cy a g) o := by
  refine zM_of (cc := cX4_wants) (maxL := 3) (ret := (some .int)) (Qc := fun A => zQi G cy A (wSt cy a g) o) (by decide) rfl (Nat.le_of_ble_eq_true rfl) ?_
  intro p e s m below meth c A ls hx hb hml hr hlocks hown hts hK hSE hA hP hD hS hl
  have hown : s.vm.findClass RX4 = some m.cls := hown
  have hl : lv_has ls 3 [(0, .ref a)] := hl
  have k53 := hts (.fieldLink RX4 53 "TapCascade$Stage" "flow" "I") (by decide +kernel)
  have iX4 : ∀ w ∈ wsX40, w ∈ wsX4_wants := fun w h => List.mem_cons_of_mem _ (List.mem_append_right _ h)
  have k28 := hts (.fieldLink RX4 28 "TapCascade$Stage" "rule" "I") (by decide +kernel)
  unfold f_X4_wants at hF
  refine lv_aload_n hx hb dX4_wants_0 rfl (lv_at hl 0 rfl) ?_
  refine z_cVi (b := a) (As := []) (rest := []) (wc := (wSt cy a g)) (wcf := fun o' => (wSt cy a g)) (wf := fun o' => (wSt cy a g)) (rf := fun o' => o') hF (fun o' hz => c_X4_judged l G cy st a g o' hz) (fun o' => zCut_all) ⟨hx, hb, hml, hown, hts⟩ (cwV 0 hts gX4_wants_X4_judged rfl rfl rfl (by decide +kernel) ⟨by decide, by decide⟩) (ci := 4) (q0 := 0) rfl (wSt_at0 cy a g) hK hSE hA hP hD hS rfl hl.1 rfl (Nat.le_of_ble_eq_true rfl) dX4_wants_1 ⟨Nat.le_refl _, Nat.le_refl _⟩ (fun o1 hF H locs hP hD hS => ?_)
  refine lv_istore_n (lv' := [(1, .int o1), (0, .ref a)]) hx hb dX4_wants_4 rfl hl (by decide) rfl (fun ls hl => ?_)
  refine lv_iload_n hx hb dX4_wants_5 rfl (lv_at hl 0 rfl) ?_
  refine zf_eq (tgt := 24) hx hb hF dX4_wants_6 (by decide) (fun hF => ?_) (fun hF => ?_)
  · refine lv_iconst (v := 0) hx hb dX4_wants_24 (by decide) ?_
    refine z_iret (o := o) (o1 := 0) (v := 0) (wf := (fun o => (wSt cy a g))) (rf := fun o => o) hx hb hr hlocks hK ?_ ?_ hS ?_ rfl dX4_wants_25
    · exact hP
    · exact hD
    · exact hF
  · refine lv_aload_n hx hb dX4_wants_9 rfl (lv_at hl 1 rfl) ?_
    refine va_get (ci := 4) (C := RX4) (T := TX4) (N := 15) (fs := (zSt g)) (v := .int (g 12)) hx hb hts iX4 hown hK hP _ (wSt_at0 cy a g) rfl 12 (by decide) k53 (fun _ h9 => h9) rfl dX4_wants_10 ?_
    have J26 : ∀ (H : Heap) (locs : List Loc) (ls : Array Slot), va_P G vwCl (wSt cy a g) H → va_D A (wSt cy a g) → va_S A s.heap H locs → lv_has ls 3 [(0, .ref a), (1, .int o1)] → j_X4_wants_26 g o1 = some o → W p l e (zR 2) s m ([.ref a] : List Value).toArray below meth c H locs 0 0 (MQ below (zQi G cy A (wSt cy a g) o) ([.ref a] : List Value).toArray s 0 0 A) (F0 m 26 ls []) := by
      intro H locs ls hP hD hS hl hF
      unfold j_X4_wants_26 at hF
      refine lv_aload_n hx hb dX4_wants_26 rfl (lv_at hl 0 rfl) ?_
      refine va_get (ci := 4) (C := RX4) (T := TX4) (N := 15) (fs := (zSt g)) (v := .int (g 12)) hx hb hts iX4 hown hK hP _ (wSt_at0 cy a g) rfl 12 (by decide) k53 (fun _ h9 => h9) rfl dX4_wants_27 ?_
      have J46 : ∀ (t2 : Int32) (H : Heap) (locs : List Loc) (ls : Array Slot), va_P G vwCl (wSt cy a g) H → va_D A (wSt cy a g) → va_S A s.heap H locs → lv_has ls 3 [(1, .int o1)] → j_X4_wants_46 o1 t2 = some o → W p l e (zR 2) s m ([.ref a] : List Value).toArray below meth c H locs 0 0 (MQ below (zQi G cy A (wSt cy a g) o) ([.ref a] : List Value).toArray s 0 0 A) (F0 m 46 ls [.int t2]) := by
        intro t2 H locs ls hP hD hS hl hF
        unfold j_X4_wants_46 at hF
        refine lv_istore_n (lv' := [(2, .int t2), (1, .int o1)]) hx hb dX4_wants_46 rfl hl (by decide) rfl (fun ls hl => ?_)
        refine lv_iload_n hx hb dX4_wants_47 rfl (lv_at hl 1 rfl) ?_
        refine lv_iconst (v := 1) hx hb dX4_wants_48 (by decide) ?_
        have J57 : ∀ (t3 : Int32) (H : Heap) (locs : List Loc) (ls : Array Slot), va_P G vwCl (wSt cy a g) H → va_D A (wSt cy a g) → va_S A s.heap H locs → lv_has ls 3 [(2, .int t2)] → j_X4_wants_57 t2 t3 = some o → W p l e (zR 2) s m ([.ref a] : List Value).toArray below meth c H locs 0 0 (MQ below (zQi G cy A (wSt cy a g) o) ([.ref a] : List Value).toArray s 0 0 A) (F0 m 57 ls [.int t3]) := by
          intro t3 H locs ls hP hD hS hl hF
          unfold j_X4_wants_57 at hF
          refine lv_iload_n hx hb dX4_wants_57 rfl (lv_at hl 0 rfl) ?_
          refine zi_eq (tgt := 65) hx hb hF dX4_wants_58 (by decide) (fun hF => ?_) (fun hF => ?_)
          · refine lv_iconst (v := 2) hx hb dX4_wants_65 (by decide) ?_
            refine z_iret (o := o) (o1 := 2) (v := 2) (wf := (fun o => (wSt cy a g))) (rf := fun o => o) hx hb hr hlocks hK ?_ ?_ hS ?_ rfl dX4_wants_66
            · exact hP
            · exact hD
            · exact hF
          · refine lv_iconst (v := 1) hx hb dX4_wants_61 (by decide) ?_
            refine lv_goto (tgt := 66) hx hb dX4_wants_62 (by decide) ?_
            refine z_iret (o := o) (o1 := 1) (v := 1) (wf := (fun o => (wSt cy a g))) (rf := fun o => o) hx hb hr hlocks hK ?_ ?_ hS ?_ rfl dX4_wants_66
            · exact hP
            · exact hD
            · exact hF
        refine zi_ne (tgt := 56) hx hb hF dX4_wants_49 (by decide) (fun hF => ?_) (fun hF => ?_)
        · refine lv_iconst (v := 0) hx hb dX4_wants_56 (by decide) ?_
          exact J57 0 _ _ ls hP hD hS (lv_sub hl [0] rfl) hF
        · refine lv_iconst (v := 1) hx hb dX4_wants_52 (by decide) ?_
          refine lv_goto (tgt := 57) hx hb dX4_wants_53 (by decide) ?_
          exact J57 1 _ _ ls hP hD hS (lv_sub hl [0] rfl) hF
      have J45 : ∀ (H : Heap) (locs : List Loc) (ls : Array Slot), va_P G vwCl (wSt cy a g) H → va_D A (wSt cy a g) → va_S A s.heap H locs → lv_has ls 3 [(1, .int o1)] → j_X4_wants_45 o1 = some o → W p l e (zR 2) s m ([.ref a] : List Value).toArray below meth c H locs 0 0 (MQ below (zQi G cy A (wSt cy a g) o) ([.ref a] : List Value).toArray s 0 0 A) (F0 m 45 ls []) := by
        intro H locs ls hP hD hS hl hF
        unfold j_X4_wants_45 at hF
        refine lv_iconst (v := 0) hx hb dX4_wants_45 (by decide) ?_
        exact J46 0 _ _ ls hP hD hS (lv_sub hl [0] rfl) hF
      refine zf_ge (tgt := 45) hx hb hF dX4_wants_30 (by decide) (fun hF => ?_) (fun hF => ?_)
      · exact J45 _ _ ls hP hD hS (lv_sub hl [1] rfl) hF
      · refine lv_aload_n hx hb dX4_wants_33 rfl (lv_at hl 0 rfl) ?_
        refine va_get (ci := 4) (C := RX4) (T := TX4) (N := 15) (fs := (zSt g)) (v := .int (g 4)) hx hb hts iX4 hown hK hP _ (wSt_at0 cy a g) rfl 4 (by decide) k28 (fun _ h9 => h9) rfl dX4_wants_34 ?_
        refine lv_iconst (v := 2) hx hb dX4_wants_37 (by decide) ?_
        refine zi_ne (tgt := 45) hx hb hF dX4_wants_38 (by decide) (fun hF => ?_) (fun hF => ?_)
        · exact J45 _ _ ls hP hD hS (lv_sub hl [1] rfl) hF
        · refine lv_iconst (v := 1) hx hb dX4_wants_41 (by decide) ?_
          refine lv_goto (tgt := 46) hx hb dX4_wants_42 (by decide) ?_
          exact J46 1 _ _ ls hP hD hS (lv_sub hl [1] rfl) hF
    refine zf_ge (tgt := 26) hx hb hF dX4_wants_13 (by decide) (fun hF => ?_) (fun hF => ?_)
    · exact J26 _ _ ls hP hD hS (lv_sub hl [1, 0] rfl) hF
    · refine lv_aload_n hx hb dX4_wants_16 rfl (lv_at hl 1 rfl) ?_
      refine va_get (ci := 4) (C := RX4) (T := TX4) (N := 15) (fs := (zSt g)) (v := .int (g 4)) hx hb hts iX4 hown hK hP _ (wSt_at0 cy a g) rfl 4 (by decide) k28 (fun _ h9 => h9) rfl dX4_wants_17 ?_
      refine lv_iconst (v := 1) hx hb dX4_wants_20 (by decide) ?_
      refine zi_ne (tgt := 26) hx hb hF dX4_wants_21 (by decide) (fun hF => ?_) (fun hF => ?_)
      · exact J26 _ _ ls hP hD hS (lv_sub hl [1, 0] rfl) hF
      · refine lv_iconst (v := 0) hx hb dX4_wants_24 (by decide) ?_
        refine z_iret (o := o) (o1 := 0) (v := 0) (wf := (fun o => (wSt cy a g))) (rf := fun o => o) hx hb hr hlocks hK ?_ ?_ hS ?_ rfl dX4_wants_25
        · exact hP
        · exact hD
        · exact hF
def f_X4_canAsItWants (g : Nat → Int32) : Option (Int32) :=
if (g 11) = 0 then (
zbd (f_X4_wants g) fun o1 =>
if o1 = 1 then (
if (5 : Int32) ≤ (g 7) then (
some 0) else (
some 1)) else (
if o1 = 2 then (
if (g 7) ≤ (-5 : Int32) then (
some 0) else (
some 1)) else (
some 0))) else (
some 0)
set_option maxHeartbeats 4000000 in
set_option maxRecDepth 100000 in
theorem c_X4_canAsItWants (l : Launch) (G : va_G) (cy : Nat → ClassId) (st : Nat → Nat) (a : Nat) (g : Nat → Int32) (o : Int32) (hF : f_X4_canAsItWants g = some o) : zMi l yX4_canAsItWants wsX4_canAsItWants (zR 3) G cy st [.ref a] (wSt cy a g) (wSt cy a g) o := by
  refine zM_of (cc := cX4_canAsItWants) (maxL := 1) (ret := (some .boolean)) (Qc := fun A => zQi G cy A (wSt cy a g) o) (by decide) rfl (Nat.le_of_ble_eq_true rfl) ?_
  intro p e s m below meth c A ls hx hb hml hr hlocks hown hts hK hSE hA hP hD hS hl
  have hown : s.vm.findClass RX4 = some m.cls := hown
  have hl : lv_has ls 1 [(0, .ref a)] := hl
  have k49 := hts (.fieldLink RX4 49 "TapCascade$Stage" "stuck" "Z") (by decide +kernel)
  have iX4 : ∀ w ∈ wsX40, w ∈ wsX4_canAsItWants := fun w h => List.mem_cons_of_mem _ (List.mem_append_right _ h)
  have k37 := hts (.fieldLink RX4 37 "TapCascade$Stage" "tap" "I") (by decide +kernel)
  unfold f_X4_canAsItWants at hF
  refine lv_aload_n hx hb dX4_canAsItWants_0 rfl (lv_at hl 0 rfl) ?_
  refine va_get (ci := 4) (C := RX4) (T := TX4) (N := 15) (fs := (zSt g)) (v := .int (g 11)) hx hb hts iX4 hown hK hP _ (wSt_at0 cy a g) rfl 11 (by decide) k49 (fun _ h9 => h9) rfl dX4_canAsItWants_1 ?_
  refine zf_eq (tgt := 9) hx hb hF dX4_canAsItWants_4 (by decide) (fun hF => ?_) (fun hF => ?_)
  · refine lv_aload_n hx hb dX4_canAsItWants_9 rfl (lv_at hl 0 rfl) ?_
    refine z_cVi (b := a) (As := []) (rest := []) (wc := (wSt cy a g)) (wcf := fun o' => (wSt cy a g)) (wf := fun o' => (wSt cy a g)) (rf := fun o' => o') hF (fun o' hz => c_X4_wants l G cy st a g o' hz) (fun o' => zCut_all) ⟨hx, hb, hml, hown, hts⟩ (cwV 0 hts gX4_canAsItWants_X4_wants rfl rfl rfl (by decide +kernel) ⟨by decide, by decide⟩) (ci := 4) (q0 := 0) rfl (wSt_at0 cy a g) hK hSE hA hP hD hS rfl hl.1 rfl (Nat.le_of_ble_eq_true rfl) dX4_canAsItWants_10 ⟨Nat.le_refl _, Nat.le_refl _⟩ (fun o1 hF H locs hP hD hS => ?_)
    by_cases h2 : o1 = 1
    · have hF := (if_pos h2).symm.trans hF
      refine lv_lookup (off := 27) (tgt := 40) hx hb dX4_canAsItWants_13 (by decide) (by rw [h2]; decide) (by decide) ?_
      refine lv_aload_n hx hb dX4_canAsItWants_40 rfl (lv_at hl 0 rfl) ?_
      refine va_get (ci := 4) (C := RX4) (T := TX4) (N := 15) (fs := (zSt g)) (v := .int (g 7)) hx hb hts iX4 hown hK hP _ (wSt_at0 cy a g) rfl 7 (by decide) k37 (fun _ h9 => h9) rfl dX4_canAsItWants_41 ?_
      refine lv_iconst (v := 5) hx hb dX4_canAsItWants_44 (by decide) ?_
      refine zi_ge (tgt := 52) hx hb hF dX4_canAsItWants_45 (by decide) (fun hF => ?_) (fun hF => ?_)
      · refine lv_iconst (v := 0) hx hb dX4_canAsItWants_52 (by decide) ?_
        refine z_zret (o := o) (o1 := 0) (v := 0) (wf := (fun o => (wSt cy a g))) (rf := fun o => o) hx hb hr hlocks hK ?_ ?_ hS ?_ rfl rfl dX4_canAsItWants_53
        · exact hP
        · exact hD
        · exact hF
      · refine lv_iconst (v := 1) hx hb dX4_canAsItWants_48 (by decide) ?_
        refine lv_goto (tgt := 53) hx hb dX4_canAsItWants_49 (by decide) ?_
        refine z_zret (o := o) (o1 := 1) (v := 1) (wf := (fun o => (wSt cy a g))) (rf := fun o => o) hx hb hr hlocks hK ?_ ?_ hS ?_ rfl rfl dX4_canAsItWants_53
        · exact hP
        · exact hD
        · exact hF
    have hF := (if_neg h2).symm.trans hF
    by_cases h3 : o1 = 2
    · have hF := (if_pos h3).symm.trans hF
      refine lv_lookup (off := 41) (tgt := 54) hx hb dX4_canAsItWants_13 (by decide) (by rw [h3]; decide) (by decide) ?_
      refine lv_aload_n hx hb dX4_canAsItWants_54 rfl (lv_at hl 0 rfl) ?_
      refine va_get (ci := 4) (C := RX4) (T := TX4) (N := 15) (fs := (zSt g)) (v := .int (g 7)) hx hb hts iX4 hown hK hP _ (wSt_at0 cy a g) rfl 7 (by decide) k37 (fun _ h9 => h9) rfl dX4_canAsItWants_55 ?_
      refine lv_bipush (v := (-5)) hx hb dX4_canAsItWants_58 (by decide) ?_
      refine zi_le (tgt := 67) hx hb hF dX4_canAsItWants_60 (by decide) (fun hF => ?_) (fun hF => ?_)
      · refine lv_iconst (v := 0) hx hb dX4_canAsItWants_67 (by decide) ?_
        refine z_zret (o := o) (o1 := 0) (v := 0) (wf := (fun o => (wSt cy a g))) (rf := fun o => o) hx hb hr hlocks hK ?_ ?_ hS ?_ rfl rfl dX4_canAsItWants_68
        · exact hP
        · exact hD
        · exact hF
      · refine lv_iconst (v := 1) hx hb dX4_canAsItWants_63 (by decide) ?_
        refine lv_goto (tgt := 68) hx hb dX4_canAsItWants_64 (by decide) ?_
        refine z_zret (o := o) (o1 := 1) (v := 1) (wf := (fun o => (wSt cy a g))) (rf := fun o => o) hx hb hr hlocks hK ?_ ?_ hS ?_ rfl rfl dX4_canAsItWants_68
        · exact hP
        · exact hD
        · exact hF
    have hF := (if_neg h3).symm.trans hF
    refine lv_lookup (off := 56) (tgt := 69) hx hb dX4_canAsItWants_13 (by decide) (by show Op.lookupswitch.offset [(1, 27), (2, 41)] 56 _ = _; rw [lv_osw h2 (by decide), lv_osw h3 (by decide)]; rfl) (by decide) ?_
    refine lv_iconst (v := 0) hx hb dX4_canAsItWants_69 (by decide) ?_
    refine z_zret (o := o) (o1 := 0) (v := 0) (wf := (fun o => (wSt cy a g))) (rf := fun o => o) hx hb hr hlocks hK ?_ ?_ hS ?_ rfl rfl dX4_canAsItWants_70
    · exact hP
    · exact hD
    · exact hF
  · refine lv_iconst (v := 0) hx hb dX4_canAsItWants_7 (by decide) ?_
    refine z_zret (o := o) (o1 := 0) (v := 0) (wf := (fun o => (wSt cy a g))) (rf := fun o => o) hx hb hr hlocks hK ?_ ?_ hS ?_ rfl rfl dX4_canAsItWants_8
    · exact hP
    · exact hD
    · exact hF
def j_X4_countOn_39 (o1 : Int32) (g_2 : Nat → Int32) : Option ((Nat → Int32)) :=
zlet (upd g_2 9 o1) fun g_3 =>
some g_3
def j_X4_countOn_36 (g : Nat → Int32) (o1 : Int32) (t4 : Int32) : Option ((Nat → Int32)) :=
zlet (upd g 8 t4) fun g_5 =>
j_X4_countOn_39 o1 g_5
def f_X4_countOn (g : Nat → Int32) : Option ((Nat → Int32)) :=
zbd (f_X4_wants g) fun o1 =>
if o1 = 0 then (
zlet (upd g 8 0) fun g_6 =>
j_X4_countOn_39 o1 g_6) else (
if o1 = (g 9) then (
j_X4_countOn_36 g o1 ((g 8) + 1)) else (
j_X4_countOn_36 g o1 1))
set_option maxHeartbeats 4000000 in
set_option maxRecDepth 100000 in
theorem c_X4_countOn (l : Launch) (G : va_G) (cy : Nat → ClassId) (st : Nat → Nat) (a : Nat) (g : Nat → Int32) (o : (Nat → Int32)) (hF : f_X4_countOn g = some o) : zMv l yX4_countOn wsX4_countOn (zR 3) G cy st [.ref a] (wSt cy a g) (wSt cy a o) := by
  refine zM_of (cc := cX4_countOn) (maxL := 2) (ret := none) (Qc := fun A => zQv G cy A (wSt cy a o)) (by decide) rfl (Nat.le_of_ble_eq_true rfl) ?_
  intro p e s m below meth c A ls hx hb hml hr hlocks hown hts hK hSE hA hP hD hS hl
  have hown : s.vm.findClass RX4 = some m.cls := hown
  have hl : lv_has ls 2 [(0, .ref a)] := hl
  have k43 := hts (.fieldLink RX4 43 "TapCascade$Stage" "wanted" "I") (by decide +kernel)
  have iX4 : ∀ w ∈ wsX40, w ∈ wsX4_countOn := fun w h => List.mem_cons_of_mem _ (List.mem_append_right _ h)
  have k40 := hts (.fieldLink RX4 40 "TapCascade$Stage" "count" "I") (by decide +kernel)
  unfold f_X4_countOn at hF
  refine lv_aload_n hx hb dX4_countOn_0 rfl (lv_at hl 0 rfl) ?_
  refine z_cVi (b := a) (As := []) (rest := []) (wc := (wSt cy a g)) (wcf := fun o' => (wSt cy a g)) (wf := fun o' => (wSt cy a g)) (rf := fun o' => o') hF (fun o' hz => c_X4_wants l G cy st a g o' hz) (fun o' => zCut_all) ⟨hx, hb, hml, hown, hts⟩ (cwV 0 hts gX4_countOn_X4_wants rfl rfl rfl (by decide +kernel) ⟨by decide, by decide⟩) (ci := 4) (q0 := 0) rfl (wSt_at0 cy a g) hK hSE hA hP hD hS rfl hl.1 rfl (Nat.le_of_ble_eq_true rfl) dX4_countOn_1 ⟨Nat.le_refl _, Nat.le_refl _⟩ (fun o1 hF H locs hP hD hS => ?_)
  refine lv_istore_n (lv' := [(1, .int o1), (0, .ref a)]) hx hb dX4_countOn_4 rfl hl (by decide) rfl (fun ls hl => ?_)
  refine lv_iload_n hx hb dX4_countOn_5 rfl (lv_at hl 0 rfl) ?_
  have J39 : ∀ (g_2 : Nat → Int32) (H : Heap) (locs : List Loc) (ls : Array Slot), va_P G vwCl (wSt cy a g_2) H → va_D A (wSt cy a g_2) → va_S A s.heap H locs → lv_has ls 2 [(0, .ref a), (1, .int o1)] → j_X4_countOn_39 o1 g_2 = some o → W p l e (zR 3) s m ([.ref a] : List Value).toArray below meth c H locs 0 0 (MQ below (zQv G cy A (wSt cy a o)) ([.ref a] : List Value).toArray s 0 0 A) (F0 m 39 ls []) := by
    intro g_2 H locs ls hP hD hS hl hF
    unfold j_X4_countOn_39 at hF
    refine lv_aload_n hx hb dX4_countOn_39 rfl (lv_at hl 0 rfl) ?_
    refine lv_iload_n hx hb dX4_countOn_40 rfl (lv_at hl 1 rfl) ?_
    refine z_puti (ci := 4) (C := RX4) (T := TX4) (N := 15) (fs := (zSt g_2)) (x := o1) (wf := (fun y => (wSt cy a y))) hx hb hts iX4 tyX4 tyX4_ok nmX4 hown hK hP hD hS _ 9 (wSt_foc cy a g_2 9 (by decide) o1) rfl (by decide) k43 (fun _ h9 => h9) rfl (by decide +kernel) (Nat.le_of_ble_eq_true rfl) hF dX4_countOn_41 (fun g_3 hF H locs hP hD hS => ?_)
    refine z_vret (o := o) (o1 := g_3) (wf := (fun o => (wSt cy a o))) hx hb hr hlocks hK ?_ ?_ hS ?_ dX4_countOn_44
    · exact hP
    · exact hD
    · exact hF
  refine zf_ne (tgt := 17) hx hb hF dX4_countOn_6 (by decide) (fun hF => ?_) (fun hF => ?_)
  · refine lv_aload_n hx hb dX4_countOn_17 rfl (lv_at hl 1 rfl) ?_
    refine lv_iload_n hx hb dX4_countOn_18 rfl (lv_at hl 0 rfl) ?_
    refine lv_aload_n hx hb dX4_countOn_19 rfl (lv_at hl 1 rfl) ?_
    refine va_get (ci := 4) (C := RX4) (T := TX4) (N := 15) (fs := (zSt g)) (v := .int (g 9)) hx hb hts iX4 hown hK hP _ (wSt_at0 cy a g) rfl 9 (by decide) k43 (fun _ h9 => h9) rfl dX4_countOn_20 ?_
    have J36 : ∀ (t4 : Int32) (H : Heap) (locs : List Loc) (ls : Array Slot), va_P G vwCl (wSt cy a g) H → va_D A (wSt cy a g) → va_S A s.heap H locs → lv_has ls 2 [(0, .ref a), (1, .int o1)] → j_X4_countOn_36 g o1 t4 = some o → W p l e (zR 3) s m ([.ref a] : List Value).toArray below meth c H locs 0 0 (MQ below (zQv G cy A (wSt cy a o)) ([.ref a] : List Value).toArray s 0 0 A) (F0 m 36 ls [.int t4, .ref a]) := by
      intro t4 H locs ls hP hD hS hl hF
      unfold j_X4_countOn_36 at hF
      refine z_puti (ci := 4) (C := RX4) (T := TX4) (N := 15) (fs := (zSt g)) (x := t4) (wf := (fun y => (wSt cy a y))) hx hb hts iX4 tyX4 tyX4_ok nmX4 hown hK hP hD hS _ 8 (wSt_foc cy a g 8 (by decide) t4) rfl (by decide) k40 (fun _ h9 => h9) rfl (by decide +kernel) (Nat.le_of_ble_eq_true rfl) hF dX4_countOn_36 (fun g_5 hF H locs hP hD hS => ?_)
      exact J39 g_5 _ _ ls hP hD hS (lv_sub hl [0, 1] rfl) hF
    refine zi_ne (tgt := 35) hx hb hF dX4_countOn_23 (by decide) (fun hF => ?_) (fun hF => ?_)
    · refine lv_iconst (v := 1) hx hb dX4_countOn_35 (by decide) ?_
      exact J36 1 _ _ ls hP hD hS (lv_sub hl [1, 0] rfl) hF
    · refine lv_aload_n hx hb dX4_countOn_26 rfl (lv_at hl 1 rfl) ?_
      refine va_get (ci := 4) (C := RX4) (T := TX4) (N := 15) (fs := (zSt g)) (v := .int (g 8)) hx hb hts iX4 hown hK hP _ (wSt_at0 cy a g) rfl 8 (by decide) k40 (fun _ h9 => h9) rfl dX4_countOn_27 ?_
      refine lv_iconst (v := 1) hx hb dX4_countOn_30 (by decide) ?_
      refine lv_iadd hx hb dX4_countOn_31 ?_
      refine lv_goto (tgt := 36) hx hb dX4_countOn_32 (by decide) ?_
      exact J36 ((g 8) + 1) _ _ ls hP hD hS (lv_sub hl [1, 0] rfl) hF
  · refine lv_aload_n hx hb dX4_countOn_9 rfl (lv_at hl 1 rfl) ?_
    refine lv_iconst (v := 0) hx hb dX4_countOn_10 (by decide) ?_
    refine z_puti (ci := 4) (C := RX4) (T := TX4) (N := 15) (fs := (zSt g)) (x := 0) (wf := (fun y => (wSt cy a y))) hx hb hts iX4 tyX4 tyX4_ok nmX4 hown hK hP hD hS _ 8 (wSt_foc cy a g 8 (by decide) 0) rfl (by decide) k40 (fun _ h9 => h9) rfl (by decide +kernel) (Nat.le_of_ble_eq_true rfl) hF dX4_countOn_11 (fun g_6 hF H locs hP hD hS => ?_)
    refine lv_goto (tgt := 39) hx hb dX4_countOn_14 (by decide) ?_
    exact J39 g_6 _ _ ls hP hD hS (lv_sub hl [1, 0] rfl) hF
def f_X4_valueToTell (g : Nat → Int32) (x01 : Int32) : Option (Int32) :=
if x01 = 0 then (
some ((g 5) + 1000)) else (
if x01 = 1 then (
some ((g 7) + 1000)) else (
some (g 3)))
set_option maxHeartbeats 4000000 in
set_option maxRecDepth 100000 in
theorem c_X4_valueToTell (l : Launch) (G : va_G) (cy : Nat → ClassId) (st : Nat → Nat) (a : Nat) (g : Nat → Int32) (x01 : Int32) (o : Int32) (hF : f_X4_valueToTell g x01 = some o) : zMi l yX4_valueToTell wsX4_valueToTell (zR 1) G cy st [.ref a, .int x01] (wSt cy a g) (wSt cy a g) o := by
  refine zM_of (cc := cX4_valueToTell) (maxL := 2) (ret := (some .int)) (Qc := fun A => zQi G cy A (wSt cy a g) o) (by decide) rfl (Nat.le_of_ble_eq_true rfl) ?_
  intro p e s m below meth c A ls hx hb hml hr hlocks hown hts hK hSE hA hP hD hS hl
  have hown : s.vm.findClass RX4 = some m.cls := hown
  have hl : lv_has ls 2 [(0, .ref a), (1, .int x01)] := hl
  have k31 := hts (.fieldLink RX4 31 "TapCascade$Stage" "load" "I") (by decide +kernel)
  have iX4 : ∀ w ∈ wsX40, w ∈ wsX4_valueToTell := fun w h => List.mem_cons_of_mem _ (List.mem_append_right _ h)
  have k37 := hts (.fieldLink RX4 37 "TapCascade$Stage" "tap" "I") (by decide +kernel)
  have k25 := hts (.fieldLink RX4 25 "TapCascade$Stage" "wait" "I") (by decide +kernel)
  unfold f_X4_valueToTell at hF
  refine lv_iload_n hx hb dX4_valueToTell_0 rfl (lv_at hl 1 rfl) ?_
  by_cases h1 : x01 = 0
  · have hF := (if_pos h1).symm.trans hF
    refine lv_lookup (off := 27) (tgt := 28) hx hb dX4_valueToTell_1 (by decide) (by rw [h1]; decide) (by decide) ?_
    refine lv_aload_n hx hb dX4_valueToTell_28 rfl (lv_at hl 0 rfl) ?_
    refine va_get (ci := 4) (C := RX4) (T := TX4) (N := 15) (fs := (zSt g)) (v := .int (g 5)) hx hb hts iX4 hown hK hP _ (wSt_at0 cy a g) rfl 5 (by decide) k31 (fun _ h9 => h9) rfl dX4_valueToTell_29 ?_
    refine lv_sipush (v := 1000) hx hb dX4_valueToTell_32 (by decide) ?_
    refine lv_iadd hx hb dX4_valueToTell_35 ?_
    refine z_iret (o := o) (o1 := ((g 5) + 1000)) (v := ((g 5) + 1000)) (wf := (fun o => (wSt cy a g))) (rf := fun o => o) hx hb hr hlocks hK ?_ ?_ hS ?_ rfl dX4_valueToTell_36
    · exact hP
    · exact hD
    · exact hF
  have hF := (if_neg h1).symm.trans hF
  by_cases h2 : x01 = 1
  · have hF := (if_pos h2).symm.trans hF
    refine lv_lookup (off := 36) (tgt := 37) hx hb dX4_valueToTell_1 (by decide) (by rw [h2]; decide) (by decide) ?_
    refine lv_aload_n hx hb dX4_valueToTell_37 rfl (lv_at hl 0 rfl) ?_
    refine va_get (ci := 4) (C := RX4) (T := TX4) (N := 15) (fs := (zSt g)) (v := .int (g 7)) hx hb hts iX4 hown hK hP _ (wSt_at0 cy a g) rfl 7 (by decide) k37 (fun _ h9 => h9) rfl dX4_valueToTell_38 ?_
    refine lv_sipush (v := 1000) hx hb dX4_valueToTell_41 (by decide) ?_
    refine lv_iadd hx hb dX4_valueToTell_44 ?_
    refine z_iret (o := o) (o1 := ((g 7) + 1000)) (v := ((g 7) + 1000)) (wf := (fun o => (wSt cy a g))) (rf := fun o => o) hx hb hr hlocks hK ?_ ?_ hS ?_ rfl dX4_valueToTell_45
    · exact hP
    · exact hD
    · exact hF
  have hF := (if_neg h2).symm.trans hF
  refine lv_lookup (off := 45) (tgt := 46) hx hb dX4_valueToTell_1 (by decide) (by show Op.lookupswitch.offset [(0, 27), (1, 36)] 45 _ = _; rw [lv_osw h1 (by decide), lv_osw h2 (by decide)]; rfl) (by decide) ?_
  refine lv_aload_n hx hb dX4_valueToTell_46 rfl (lv_at hl 0 rfl) ?_
  refine va_get (ci := 4) (C := RX4) (T := TX4) (N := 15) (fs := (zSt g)) (v := .int (g 3)) hx hb hts iX4 hown hK hP _ (wSt_at0 cy a g) rfl 3 (by decide) k25 (fun _ h9 => h9) rfl dX4_valueToTell_47 ?_
  refine z_iret (o := o) (o1 := (g 3)) (v := g 3) (wf := (fun o => (wSt cy a g))) (rf := fun o => o) hx hb hr hlocks hK ?_ ?_ hS ?_ rfl dX4_valueToTell_50
  · exact hP
  · exact hD
  · exact hF
def f_X4_takeTold (g : Nat → Int32) (x01 : Int32) (x02 : Int32) : Option ((Nat → Int32)) :=
if x01 = 0 then (
zlet (upd g 5 (x02 - 1000)) fun g_2 =>
some g_2) else (
if x01 = 1 then (
zlet (upd g 7 (x02 - 1000)) fun g_4 =>
some g_4) else (
zlet (upd g 3 x02) fun g_5 =>
some g_5))
set_option maxHeartbeats 4000000 in
set_option maxRecDepth 100000 in
theorem c_X4_takeTold (l : Launch) (G : va_G) (cy : Nat → ClassId) (st : Nat → Nat) (a : Nat) (g : Nat → Int32) (x01 : Int32) (x02 : Int32) (o : (Nat → Int32)) (hF : f_X4_takeTold g x01 x02 = some o) : zMv l yX4_takeTold wsX4_takeTold (zR 1) G cy st [.ref a, .int x01, .int x02] (wSt cy a g) (wSt cy a o) := by
  refine zM_of (cc := cX4_takeTold) (maxL := 3) (ret := none) (Qc := fun A => zQv G cy A (wSt cy a o)) (by decide) rfl (Nat.le_of_ble_eq_true rfl) ?_
  intro p e s m below meth c A ls hx hb hml hr hlocks hown hts hK hSE hA hP hD hS hl
  have hown : s.vm.findClass RX4 = some m.cls := hown
  have hl : lv_has ls 3 [(0, .ref a), (1, .int x01), (2, .int x02)] := hl
  have k31 := hts (.fieldLink RX4 31 "TapCascade$Stage" "load" "I") (by decide +kernel)
  have iX4 : ∀ w ∈ wsX40, w ∈ wsX4_takeTold := fun w h => List.mem_cons_of_mem _ (List.mem_append_right _ h)
  have k37 := hts (.fieldLink RX4 37 "TapCascade$Stage" "tap" "I") (by decide +kernel)
  have k25 := hts (.fieldLink RX4 25 "TapCascade$Stage" "wait" "I") (by decide +kernel)
  unfold f_X4_takeTold at hF
  refine lv_iload_n hx hb dX4_takeTold_0 rfl (lv_at hl 1 rfl) ?_
  by_cases h1 : x01 = 0
  · have hF := (if_pos h1).symm.trans hF
    refine lv_lookup (off := 27) (tgt := 28) hx hb dX4_takeTold_1 (by decide) (by rw [h1]; decide) (by decide) ?_
    refine lv_aload_n hx hb dX4_takeTold_28 rfl (lv_at hl 0 rfl) ?_
    refine lv_iload_n hx hb dX4_takeTold_29 rfl (lv_at hl 2 rfl) ?_
    refine lv_sipush (v := 1000) hx hb dX4_takeTold_30 (by decide) ?_
    refine lv_isub hx hb dX4_takeTold_33 ?_
    refine z_puti (ci := 4) (C := RX4) (T := TX4) (N := 15) (fs := (zSt g)) (x := (x02 - 1000)) (wf := (fun y => (wSt cy a y))) hx hb hts iX4 tyX4 tyX4_ok nmX4 hown hK hP hD hS _ 5 (wSt_foc cy a g 5 (by decide) (x02 - 1000)) rfl (by decide) k31 (fun _ h9 => h9) rfl (by decide +kernel) (Nat.le_of_ble_eq_true rfl) hF dX4_takeTold_34 (fun g_2 hF H locs hP hD hS => ?_)
    refine lv_goto (tgt := 57) hx hb dX4_takeTold_37 (by decide) ?_
    refine z_vret (o := o) (o1 := g_2) (wf := (fun o => (wSt cy a o))) hx hb hr hlocks hK ?_ ?_ hS ?_ dX4_takeTold_57
    · exact hP
    · exact hD
    · exact hF
  have hF := (if_neg h1).symm.trans hF
  by_cases h3 : x01 = 1
  · have hF := (if_pos h3).symm.trans hF
    refine lv_lookup (off := 39) (tgt := 40) hx hb dX4_takeTold_1 (by decide) (by rw [h3]; decide) (by decide) ?_
    refine lv_aload_n hx hb dX4_takeTold_40 rfl (lv_at hl 0 rfl) ?_
    refine lv_iload_n hx hb dX4_takeTold_41 rfl (lv_at hl 2 rfl) ?_
    refine lv_sipush (v := 1000) hx hb dX4_takeTold_42 (by decide) ?_
    refine lv_isub hx hb dX4_takeTold_45 ?_
    refine z_puti (ci := 4) (C := RX4) (T := TX4) (N := 15) (fs := (zSt g)) (x := (x02 - 1000)) (wf := (fun y => (wSt cy a y))) hx hb hts iX4 tyX4 tyX4_ok nmX4 hown hK hP hD hS _ 7 (wSt_foc cy a g 7 (by decide) (x02 - 1000)) rfl (by decide) k37 (fun _ h9 => h9) rfl (by decide +kernel) (Nat.le_of_ble_eq_true rfl) hF dX4_takeTold_46 (fun g_4 hF H locs hP hD hS => ?_)
    refine lv_goto (tgt := 57) hx hb dX4_takeTold_49 (by decide) ?_
    refine z_vret (o := o) (o1 := g_4) (wf := (fun o => (wSt cy a o))) hx hb hr hlocks hK ?_ ?_ hS ?_ dX4_takeTold_57
    · exact hP
    · exact hD
    · exact hF
  have hF := (if_neg h3).symm.trans hF
  refine lv_lookup (off := 51) (tgt := 52) hx hb dX4_takeTold_1 (by decide) (by show Op.lookupswitch.offset [(0, 27), (1, 39)] 51 _ = _; rw [lv_osw h1 (by decide), lv_osw h3 (by decide)]; rfl) (by decide) ?_
  refine lv_aload_n hx hb dX4_takeTold_52 rfl (lv_at hl 0 rfl) ?_
  refine lv_iload_n hx hb dX4_takeTold_53 rfl (lv_at hl 2 rfl) ?_
  refine z_puti (ci := 4) (C := RX4) (T := TX4) (N := 15) (fs := (zSt g)) (x := x02) (wf := (fun y => (wSt cy a y))) hx hb hts iX4 tyX4 tyX4_ok nmX4 hown hK hP hD hS _ 3 (wSt_foc cy a g 3 (by decide) x02) rfl (by decide) k25 (fun _ h9 => h9) rfl (by decide +kernel) (Nat.le_of_ble_eq_true rfl) hF dX4_takeTold_54 (fun g_5 hF H locs hP hD hS => ?_)
  refine z_vret (o := o) (o1 := g_5) (wf := (fun o => (wSt cy a o))) hx hb hr hlocks hK ?_ ?_ hS ?_ dX4_takeTold_57
  · exact hP
  · exact hD
  · exact hF
def f_X4_valueOf (g : Nat → Int32) (x01 : Int32) : Option (Int32) :=
if x01 = 0 then (
some (g 0)) else (
if x01 = 1 then (
some (g 1)) else (
if x01 = 2 then (
some (g 2)) else (
if x01 = 3 then (
some (g 3)) else (
if x01 = 4 then (
some (g 4)) else (
if x01 = 5 then (
some ((g 5) + 1000)) else (
if x01 = 6 then (
some (g 6)) else (
if x01 = 7 then (
some ((g 7) + 1000)) else (
if x01 = 8 then (
if (g 11) = 0 then (
some 0) else (
some 1)) else (
if x01 = 9 then (
some ((g 12) + 1000)) else (
if x01 = 10 then (
some ((g 13) + 1000)) else (
if x01 = 11 then (
some ((g 14) + 1000)) else (
if x01 = 12 then (
zbd (f_X4_judged g) fun o14 =>
some o14) else (
if x01 = 13 then (
zbd (f_X4_wants g) fun o16 =>
some o16) else (
if x01 = 14 then (
some (g 8)) else (
if x01 = 15 then (
zbd (f_X4_canAsItWants g) fun o19 =>
if o19 = 0 then (
some 0) else (
some 1)) else (
some (-1)))))))))))))))))
set_option maxHeartbeats 4000000 in
set_option maxRecDepth 100000 in
theorem c_X4_valueOf (l : Launch) (G : va_G) (cy : Nat → ClassId) (st : Nat → Nat) (a : Nat) (g : Nat → Int32) (x01 : Int32) (o : Int32) (hF : f_X4_valueOf g x01 = some o) : zMi l yX4_valueOf wsX4_valueOf (zR 4) G cy st [.ref a, .int x01] (wSt cy a g) (wSt cy a g) o := by
  refine zM_of (cc := cX4_valueOf) (maxL := 2) (ret := (some .int)) (Qc := fun A => zQi G cy A (wSt cy a g) o) (by decide) rfl (Nat.le_of_ble_eq_true rfl) ?_
  intro p e s m below meth c A ls hx hb hml hr hlocks hown hts hK hSE hA hP hD hS hl
  have hown : s.vm.findClass RX4 = some m.cls := hown
  have hl : lv_has ls 2 [(0, .ref a), (1, .int x01)] := hl
  have k13 := hts (.fieldLink RX4 13 "TapCascade$Stage" "step" "I") (by decide +kernel)
  have iX4 : ∀ w ∈ wsX40, w ∈ wsX4_valueOf := fun w h => List.mem_cons_of_mem _ (List.mem_append_right _ h)
  have k19 := hts (.fieldLink RX4 19 "TapCascade$Stage" "target" "I") (by decide +kernel)
  have k22 := hts (.fieldLink RX4 22 "TapCascade$Stage" "band" "I") (by decide +kernel)
  have k25 := hts (.fieldLink RX4 25 "TapCascade$Stage" "wait" "I") (by decide +kernel)
  have k28 := hts (.fieldLink RX4 28 "TapCascade$Stage" "rule" "I") (by decide +kernel)
  have k31 := hts (.fieldLink RX4 31 "TapCascade$Stage" "load" "I") (by decide +kernel)
  have k34 := hts (.fieldLink RX4 34 "TapCascade$Stage" "way" "I") (by decide +kernel)
  have k37 := hts (.fieldLink RX4 37 "TapCascade$Stage" "tap" "I") (by decide +kernel)
  have k49 := hts (.fieldLink RX4 49 "TapCascade$Stage" "stuck" "Z") (by decide +kernel)
  have k53 := hts (.fieldLink RX4 53 "TapCascade$Stage" "flow" "I") (by decide +kernel)
  have k56 := hts (.fieldLink RX4 56 "TapCascade$Stage" "in" "I") (by decide +kernel)
  have k59 := hts (.fieldLink RX4 59 "TapCascade$Stage" "out" "I") (by decide +kernel)
  have k40 := hts (.fieldLink RX4 40 "TapCascade$Stage" "count" "I") (by decide +kernel)
  unfold f_X4_valueOf at hF
  refine lv_iload_n hx hb dX4_valueOf_0 rfl (lv_at hl 1 rfl) ?_
  by_cases h1 : x01 = 0
  · have hF := (if_pos h1).symm.trans hF
    refine lv_tableIn (off := 79) (tgt := 80) hx hb dX4_valueOf_1 (by rw [h1]; decide) (by rw [h1]; decide) (by rw [h1]; decide) (by decide) ?_
    refine lv_aload_n hx hb dX4_valueOf_80 rfl (lv_at hl 0 rfl) ?_
    refine va_get (ci := 4) (C := RX4) (T := TX4) (N := 15) (fs := (zSt g)) (v := .int (g 0)) hx hb hts iX4 hown hK hP _ (wSt_at0 cy a g) rfl 0 (by decide) k13 (fun _ h9 => h9) rfl dX4_valueOf_81 ?_
    refine z_iret (o := o) (o1 := (g 0)) (v := g 0) (wf := (fun o => (wSt cy a g))) (rf := fun o => o) hx hb hr hlocks hK ?_ ?_ hS ?_ rfl dX4_valueOf_84
    · exact hP
    · exact hD
    · exact hF
  have hF := (if_neg h1).symm.trans hF
  by_cases h2 : x01 = 1
  · have hF := (if_pos h2).symm.trans hF
    refine lv_tableIn (off := 84) (tgt := 85) hx hb dX4_valueOf_1 (by rw [h2]; decide) (by rw [h2]; decide) (by rw [h2]; decide) (by decide) ?_
    refine lv_aload_n hx hb dX4_valueOf_85 rfl (lv_at hl 0 rfl) ?_
    refine va_get (ci := 4) (C := RX4) (T := TX4) (N := 15) (fs := (zSt g)) (v := .int (g 1)) hx hb hts iX4 hown hK hP _ (wSt_at0 cy a g) rfl 1 (by decide) k19 (fun _ h9 => h9) rfl dX4_valueOf_86 ?_
    refine z_iret (o := o) (o1 := (g 1)) (v := g 1) (wf := (fun o => (wSt cy a g))) (rf := fun o => o) hx hb hr hlocks hK ?_ ?_ hS ?_ rfl dX4_valueOf_89
    · exact hP
    · exact hD
    · exact hF
  have hF := (if_neg h2).symm.trans hF
  by_cases h3 : x01 = 2
  · have hF := (if_pos h3).symm.trans hF
    refine lv_tableIn (off := 89) (tgt := 90) hx hb dX4_valueOf_1 (by rw [h3]; decide) (by rw [h3]; decide) (by rw [h3]; decide) (by decide) ?_
    refine lv_aload_n hx hb dX4_valueOf_90 rfl (lv_at hl 0 rfl) ?_
    refine va_get (ci := 4) (C := RX4) (T := TX4) (N := 15) (fs := (zSt g)) (v := .int (g 2)) hx hb hts iX4 hown hK hP _ (wSt_at0 cy a g) rfl 2 (by decide) k22 (fun _ h9 => h9) rfl dX4_valueOf_91 ?_
    refine z_iret (o := o) (o1 := (g 2)) (v := g 2) (wf := (fun o => (wSt cy a g))) (rf := fun o => o) hx hb hr hlocks hK ?_ ?_ hS ?_ rfl dX4_valueOf_94
    · exact hP
    · exact hD
    · exact hF
  have hF := (if_neg h3).symm.trans hF
  by_cases h4 : x01 = 3
  · have hF := (if_pos h4).symm.trans hF
    refine lv_tableIn (off := 94) (tgt := 95) hx hb dX4_valueOf_1 (by rw [h4]; decide) (by rw [h4]; decide) (by rw [h4]; decide) (by decide) ?_
    refine lv_aload_n hx hb dX4_valueOf_95 rfl (lv_at hl 0 rfl) ?_
    refine va_get (ci := 4) (C := RX4) (T := TX4) (N := 15) (fs := (zSt g)) (v := .int (g 3)) hx hb hts iX4 hown hK hP _ (wSt_at0 cy a g) rfl 3 (by decide) k25 (fun _ h9 => h9) rfl dX4_valueOf_96 ?_
    refine z_iret (o := o) (o1 := (g 3)) (v := g 3) (wf := (fun o => (wSt cy a g))) (rf := fun o => o) hx hb hr hlocks hK ?_ ?_ hS ?_ rfl dX4_valueOf_99
    · exact hP
    · exact hD
    · exact hF
  have hF := (if_neg h4).symm.trans hF
  by_cases h5 : x01 = 4
  · have hF := (if_pos h5).symm.trans hF
    refine lv_tableIn (off := 99) (tgt := 100) hx hb dX4_valueOf_1 (by rw [h5]; decide) (by rw [h5]; decide) (by rw [h5]; decide) (by decide) ?_
    refine lv_aload_n hx hb dX4_valueOf_100 rfl (lv_at hl 0 rfl) ?_
    refine va_get (ci := 4) (C := RX4) (T := TX4) (N := 15) (fs := (zSt g)) (v := .int (g 4)) hx hb hts iX4 hown hK hP _ (wSt_at0 cy a g) rfl 4 (by decide) k28 (fun _ h9 => h9) rfl dX4_valueOf_101 ?_
    refine z_iret (o := o) (o1 := (g 4)) (v := g 4) (wf := (fun o => (wSt cy a g))) (rf := fun o => o) hx hb hr hlocks hK ?_ ?_ hS ?_ rfl dX4_valueOf_104
    · exact hP
    · exact hD
    · exact hF
  have hF := (if_neg h5).symm.trans hF
  by_cases h6 : x01 = 5
  · have hF := (if_pos h6).symm.trans hF
    refine lv_tableIn (off := 104) (tgt := 105) hx hb dX4_valueOf_1 (by rw [h6]; decide) (by rw [h6]; decide) (by rw [h6]; decide) (by decide) ?_
    refine lv_aload_n hx hb dX4_valueOf_105 rfl (lv_at hl 0 rfl) ?_
    refine va_get (ci := 4) (C := RX4) (T := TX4) (N := 15) (fs := (zSt g)) (v := .int (g 5)) hx hb hts iX4 hown hK hP _ (wSt_at0 cy a g) rfl 5 (by decide) k31 (fun _ h9 => h9) rfl dX4_valueOf_106 ?_
    refine lv_sipush (v := 1000) hx hb dX4_valueOf_109 (by decide) ?_
    refine lv_iadd hx hb dX4_valueOf_112 ?_
    refine z_iret (o := o) (o1 := ((g 5) + 1000)) (v := ((g 5) + 1000)) (wf := (fun o => (wSt cy a g))) (rf := fun o => o) hx hb hr hlocks hK ?_ ?_ hS ?_ rfl dX4_valueOf_113
    · exact hP
    · exact hD
    · exact hF
  have hF := (if_neg h6).symm.trans hF
  by_cases h7 : x01 = 6
  · have hF := (if_pos h7).symm.trans hF
    refine lv_tableIn (off := 113) (tgt := 114) hx hb dX4_valueOf_1 (by rw [h7]; decide) (by rw [h7]; decide) (by rw [h7]; decide) (by decide) ?_
    refine lv_aload_n hx hb dX4_valueOf_114 rfl (lv_at hl 0 rfl) ?_
    refine va_get (ci := 4) (C := RX4) (T := TX4) (N := 15) (fs := (zSt g)) (v := .int (g 6)) hx hb hts iX4 hown hK hP _ (wSt_at0 cy a g) rfl 6 (by decide) k34 (fun _ h9 => h9) rfl dX4_valueOf_115 ?_
    refine z_iret (o := o) (o1 := (g 6)) (v := g 6) (wf := (fun o => (wSt cy a g))) (rf := fun o => o) hx hb hr hlocks hK ?_ ?_ hS ?_ rfl dX4_valueOf_118
    · exact hP
    · exact hD
    · exact hF
  have hF := (if_neg h7).symm.trans hF
  by_cases h8 : x01 = 7
  · have hF := (if_pos h8).symm.trans hF
    refine lv_tableIn (off := 118) (tgt := 119) hx hb dX4_valueOf_1 (by rw [h8]; decide) (by rw [h8]; decide) (by rw [h8]; decide) (by decide) ?_
    refine lv_aload_n hx hb dX4_valueOf_119 rfl (lv_at hl 0 rfl) ?_
    refine va_get (ci := 4) (C := RX4) (T := TX4) (N := 15) (fs := (zSt g)) (v := .int (g 7)) hx hb hts iX4 hown hK hP _ (wSt_at0 cy a g) rfl 7 (by decide) k37 (fun _ h9 => h9) rfl dX4_valueOf_120 ?_
    refine lv_sipush (v := 1000) hx hb dX4_valueOf_123 (by decide) ?_
    refine lv_iadd hx hb dX4_valueOf_126 ?_
    refine z_iret (o := o) (o1 := ((g 7) + 1000)) (v := ((g 7) + 1000)) (wf := (fun o => (wSt cy a g))) (rf := fun o => o) hx hb hr hlocks hK ?_ ?_ hS ?_ rfl dX4_valueOf_127
    · exact hP
    · exact hD
    · exact hF
  have hF := (if_neg h8).symm.trans hF
  by_cases h9 : x01 = 8
  · have hF := (if_pos h9).symm.trans hF
    refine lv_tableIn (off := 127) (tgt := 128) hx hb dX4_valueOf_1 (by rw [h9]; decide) (by rw [h9]; decide) (by rw [h9]; decide) (by decide) ?_
    refine lv_aload_n hx hb dX4_valueOf_128 rfl (lv_at hl 0 rfl) ?_
    refine va_get (ci := 4) (C := RX4) (T := TX4) (N := 15) (fs := (zSt g)) (v := .int (g 11)) hx hb hts iX4 hown hK hP _ (wSt_at0 cy a g) rfl 11 (by decide) k49 (fun _ h9 => h9) rfl dX4_valueOf_129 ?_
    refine zf_eq (tgt := 139) hx hb hF dX4_valueOf_132 (by decide) (fun hF => ?_) (fun hF => ?_)
    · refine lv_iconst (v := 0) hx hb dX4_valueOf_139 (by decide) ?_
      refine z_iret (o := o) (o1 := 0) (v := 0) (wf := (fun o => (wSt cy a g))) (rf := fun o => o) hx hb hr hlocks hK ?_ ?_ hS ?_ rfl dX4_valueOf_140
      · exact hP
      · exact hD
      · exact hF
    · refine lv_iconst (v := 1) hx hb dX4_valueOf_135 (by decide) ?_
      refine lv_goto (tgt := 140) hx hb dX4_valueOf_136 (by decide) ?_
      refine z_iret (o := o) (o1 := 1) (v := 1) (wf := (fun o => (wSt cy a g))) (rf := fun o => o) hx hb hr hlocks hK ?_ ?_ hS ?_ rfl dX4_valueOf_140
      · exact hP
      · exact hD
      · exact hF
  have hF := (if_neg h9).symm.trans hF
  by_cases h10 : x01 = 9
  · have hF := (if_pos h10).symm.trans hF
    refine lv_tableIn (off := 140) (tgt := 141) hx hb dX4_valueOf_1 (by rw [h10]; decide) (by rw [h10]; decide) (by rw [h10]; decide) (by decide) ?_
    refine lv_aload_n hx hb dX4_valueOf_141 rfl (lv_at hl 0 rfl) ?_
    refine va_get (ci := 4) (C := RX4) (T := TX4) (N := 15) (fs := (zSt g)) (v := .int (g 12)) hx hb hts iX4 hown hK hP _ (wSt_at0 cy a g) rfl 12 (by decide) k53 (fun _ h9 => h9) rfl dX4_valueOf_142 ?_
    refine lv_sipush (v := 1000) hx hb dX4_valueOf_145 (by decide) ?_
    refine lv_iadd hx hb dX4_valueOf_148 ?_
    refine z_iret (o := o) (o1 := ((g 12) + 1000)) (v := ((g 12) + 1000)) (wf := (fun o => (wSt cy a g))) (rf := fun o => o) hx hb hr hlocks hK ?_ ?_ hS ?_ rfl dX4_valueOf_149
    · exact hP
    · exact hD
    · exact hF
  have hF := (if_neg h10).symm.trans hF
  by_cases h11 : x01 = 10
  · have hF := (if_pos h11).symm.trans hF
    refine lv_tableIn (off := 149) (tgt := 150) hx hb dX4_valueOf_1 (by rw [h11]; decide) (by rw [h11]; decide) (by rw [h11]; decide) (by decide) ?_
    refine lv_aload_n hx hb dX4_valueOf_150 rfl (lv_at hl 0 rfl) ?_
    refine va_get (ci := 4) (C := RX4) (T := TX4) (N := 15) (fs := (zSt g)) (v := .int (g 13)) hx hb hts iX4 hown hK hP _ (wSt_at0 cy a g) rfl 13 (by decide) k56 (fun _ h9 => h9) rfl dX4_valueOf_151 ?_
    refine lv_sipush (v := 1000) hx hb dX4_valueOf_154 (by decide) ?_
    refine lv_iadd hx hb dX4_valueOf_157 ?_
    refine z_iret (o := o) (o1 := ((g 13) + 1000)) (v := ((g 13) + 1000)) (wf := (fun o => (wSt cy a g))) (rf := fun o => o) hx hb hr hlocks hK ?_ ?_ hS ?_ rfl dX4_valueOf_158
    · exact hP
    · exact hD
    · exact hF
  have hF := (if_neg h11).symm.trans hF
  by_cases h12 : x01 = 11
  · have hF := (if_pos h12).symm.trans hF
    refine lv_tableIn (off := 158) (tgt := 159) hx hb dX4_valueOf_1 (by rw [h12]; decide) (by rw [h12]; decide) (by rw [h12]; decide) (by decide) ?_
    refine lv_aload_n hx hb dX4_valueOf_159 rfl (lv_at hl 0 rfl) ?_
    refine va_get (ci := 4) (C := RX4) (T := TX4) (N := 15) (fs := (zSt g)) (v := .int (g 14)) hx hb hts iX4 hown hK hP _ (wSt_at0 cy a g) rfl 14 (by decide) k59 (fun _ h9 => h9) rfl dX4_valueOf_160 ?_
    refine lv_sipush (v := 1000) hx hb dX4_valueOf_163 (by decide) ?_
    refine lv_iadd hx hb dX4_valueOf_166 ?_
    refine z_iret (o := o) (o1 := ((g 14) + 1000)) (v := ((g 14) + 1000)) (wf := (fun o => (wSt cy a g))) (rf := fun o => o) hx hb hr hlocks hK ?_ ?_ hS ?_ rfl dX4_valueOf_167
    · exact hP
    · exact hD
    · exact hF
  have hF := (if_neg h12).symm.trans hF
  by_cases h13 : x01 = 12
  · have hF := (if_pos h13).symm.trans hF
    refine lv_tableIn (off := 167) (tgt := 168) hx hb dX4_valueOf_1 (by rw [h13]; decide) (by rw [h13]; decide) (by rw [h13]; decide) (by decide) ?_
    refine lv_aload_n hx hb dX4_valueOf_168 rfl (lv_at hl 0 rfl) ?_
    refine z_cVi (b := a) (As := []) (rest := []) (wc := (wSt cy a g)) (wcf := fun o' => (wSt cy a g)) (wf := fun o' => (wSt cy a g)) (rf := fun o' => o') hF (fun o' hz => c_X4_judged l G cy st a g o' hz) (fun o' => zCut_all) ⟨hx, hb, hml, hown, hts⟩ (cwV 0 hts gX4_valueOf_X4_judged rfl rfl rfl (by decide +kernel) ⟨by decide, by decide⟩) (ci := 4) (q0 := 0) rfl (wSt_at0 cy a g) hK hSE hA hP hD hS rfl hl.1 rfl (Nat.le_of_ble_eq_true rfl) dX4_valueOf_169 ⟨Nat.le_refl _, Nat.le_refl _⟩ (fun o14 hF H locs hP hD hS => ?_)
    refine z_iret (o := o) (o1 := o14) (v := o14) (wf := (fun o => (wSt cy a g))) (rf := fun o => o) hx hb hr hlocks hK ?_ ?_ hS ?_ rfl dX4_valueOf_172
    · exact hP
    · exact hD
    · exact hF
  have hF := (if_neg h13).symm.trans hF
  by_cases h15 : x01 = 13
  · have hF := (if_pos h15).symm.trans hF
    refine lv_tableIn (off := 172) (tgt := 173) hx hb dX4_valueOf_1 (by rw [h15]; decide) (by rw [h15]; decide) (by rw [h15]; decide) (by decide) ?_
    refine lv_aload_n hx hb dX4_valueOf_173 rfl (lv_at hl 0 rfl) ?_
    refine z_cVi (b := a) (As := []) (rest := []) (wc := (wSt cy a g)) (wcf := fun o' => (wSt cy a g)) (wf := fun o' => (wSt cy a g)) (rf := fun o' => o') hF (fun o' hz => c_X4_wants l G cy st a g o' hz) (fun o' => zCut_all) ⟨hx, hb, hml, hown, hts⟩ (cwV 0 hts gX4_valueOf_X4_wants rfl rfl rfl (by decide +kernel) ⟨by decide, by decide⟩) (ci := 4) (q0 := 0) rfl (wSt_at0 cy a g) hK hSE hA hP hD hS rfl hl.1 rfl (Nat.le_of_ble_eq_true rfl) dX4_valueOf_174 ⟨Nat.le_refl _, Nat.le_refl _⟩ (fun o16 hF H locs hP hD hS => ?_)
    refine z_iret (o := o) (o1 := o16) (v := o16) (wf := (fun o => (wSt cy a g))) (rf := fun o => o) hx hb hr hlocks hK ?_ ?_ hS ?_ rfl dX4_valueOf_177
    · exact hP
    · exact hD
    · exact hF
  have hF := (if_neg h15).symm.trans hF
  by_cases h17 : x01 = 14
  · have hF := (if_pos h17).symm.trans hF
    refine lv_tableIn (off := 177) (tgt := 178) hx hb dX4_valueOf_1 (by rw [h17]; decide) (by rw [h17]; decide) (by rw [h17]; decide) (by decide) ?_
    refine lv_aload_n hx hb dX4_valueOf_178 rfl (lv_at hl 0 rfl) ?_
    refine va_get (ci := 4) (C := RX4) (T := TX4) (N := 15) (fs := (zSt g)) (v := .int (g 8)) hx hb hts iX4 hown hK hP _ (wSt_at0 cy a g) rfl 8 (by decide) k40 (fun _ h9 => h9) rfl dX4_valueOf_179 ?_
    refine z_iret (o := o) (o1 := (g 8)) (v := g 8) (wf := (fun o => (wSt cy a g))) (rf := fun o => o) hx hb hr hlocks hK ?_ ?_ hS ?_ rfl dX4_valueOf_182
    · exact hP
    · exact hD
    · exact hF
  have hF := (if_neg h17).symm.trans hF
  by_cases h18 : x01 = 15
  · have hF := (if_pos h18).symm.trans hF
    refine lv_tableIn (off := 182) (tgt := 183) hx hb dX4_valueOf_1 (by rw [h18]; decide) (by rw [h18]; decide) (by rw [h18]; decide) (by decide) ?_
    refine lv_aload_n hx hb dX4_valueOf_183 rfl (lv_at hl 0 rfl) ?_
    refine z_cVi (b := a) (As := []) (rest := []) (wc := (wSt cy a g)) (wcf := fun o' => (wSt cy a g)) (wf := fun o' => (wSt cy a g)) (rf := fun o' => o') hF (fun o' hz => c_X4_canAsItWants l G cy st a g o' hz) (fun o' => zCut_all) ⟨hx, hb, hml, hown, hts⟩ (cwV 0 hts gX4_valueOf_X4_canAsItWants rfl rfl rfl (by decide +kernel) ⟨by decide, by decide⟩) (ci := 4) (q0 := 0) rfl (wSt_at0 cy a g) hK hSE hA hP hD hS rfl hl.1 rfl (Nat.le_of_ble_eq_true rfl) dX4_valueOf_184 ⟨Nat.le_refl _, Nat.le_refl _⟩ (fun o19 hF H locs hP hD hS => ?_)
    refine zf_eq (tgt := 194) hx hb hF dX4_valueOf_187 (by decide) (fun hF => ?_) (fun hF => ?_)
    · refine lv_iconst (v := 0) hx hb dX4_valueOf_194 (by decide) ?_
      refine z_iret (o := o) (o1 := 0) (v := 0) (wf := (fun o => (wSt cy a g))) (rf := fun o => o) hx hb hr hlocks hK ?_ ?_ hS ?_ rfl dX4_valueOf_195
      · exact hP
      · exact hD
      · exact hF
    · refine lv_iconst (v := 1) hx hb dX4_valueOf_190 (by decide) ?_
      refine lv_goto (tgt := 195) hx hb dX4_valueOf_191 (by decide) ?_
      refine z_iret (o := o) (o1 := 1) (v := 1) (wf := (fun o => (wSt cy a g))) (rf := fun o => o) hx hb hr hlocks hK ?_ ?_ hS ?_ rfl dX4_valueOf_195
      · exact hP
      · exact hD
      · exact hF
  have hF := (if_neg h18).symm.trans hF
  refine lv_tableOut (x := x01) (tgt := 196) hx hb dX4_valueOf_1 (by have q0 := lv_neT (a := 0) h1 (by decide); have q1 := lv_neT (a := 1) h2 (by decide); have q2 := lv_neT (a := 2) h3 (by decide); have q3 := lv_neT (a := 3) h4 (by decide); have q4 := lv_neT (a := 4) h5 (by decide); have q5 := lv_neT (a := 5) h6 (by decide); have q6 := lv_neT (a := 6) h7 (by decide); have q7 := lv_neT (a := 7) h8 (by decide); have q8 := lv_neT (a := 8) h9 (by decide); have q9 := lv_neT (a := 9) h10 (by decide); have q10 := lv_neT (a := 10) h11 (by decide); have q11 := lv_neT (a := 11) h12 (by decide); have q12 := lv_neT (a := 12) h13 (by decide); have q13 := lv_neT (a := 13) h15 (by decide); have q14 := lv_neT (a := 14) h17 (by decide); have q15 := lv_neT (a := 15) h18 (by decide); omega) (by decide) ?_
  refine lv_iconst (v := (-1)) hx hb dX4_valueOf_196 (by decide) ?_
  refine z_iret (o := o) (o1 := (-1)) (v := (-1)) (wf := (fun o => (wSt cy a g))) (rf := fun o => o) hx hb hr hlocks hK ?_ ?_ hS ?_ rfl dX4_valueOf_197
  · exact hP
  · exact hD
  · exact hF
def f_X4_copyFrom (g : Nat → Int32) (g2 : Nat → Int32) : Option ((Nat → Int32)) :=
zlet (upd g 0 (g2 0)) fun g_1 =>
zlet (upd g_1 1 (g2 1)) fun g_2 =>
zlet (upd g_2 2 (g2 2)) fun g_3 =>
zlet (upd g_3 3 (g2 3)) fun g_4 =>
zlet (upd g_4 4 (g2 4)) fun g_5 =>
zlet (upd g_5 5 (g2 5)) fun g_6 =>
zlet (upd g_6 6 (g2 6)) fun g_7 =>
zlet (upd g_7 7 (g2 7)) fun g_8 =>
zlet (upd g_8 8 (g2 8)) fun g_9 =>
zlet (upd g_9 9 (g2 9)) fun g_10 =>
zlet (upd g_10 10 (g2 10)) fun g_11 =>
zg (zbo (g2 11)) (
zlet (upd g_11 11 (g2 11)) fun g_12 =>
zlet (upd g_12 12 (g2 12)) fun g_13 =>
zlet (upd g_13 13 (g2 13)) fun g_14 =>
zlet (upd g_14 14 (g2 14)) fun g_15 =>
some g_15)
set_option maxHeartbeats 4000000 in
set_option maxRecDepth 100000 in
theorem c_X4_copyFrom (l : Launch) (G : va_G) (cy : Nat → ClassId) (st : Nat → Nat) (a : Nat) (b : Nat) (g : Nat → Int32) (g2 : Nat → Int32) (o : (Nat → Int32)) (hF : f_X4_copyFrom g g2 = some o) : zMv l yX4_copyFrom wsX4_copyFrom (zR 1) G cy st [.ref a, .ref b] ((wSt cy a g) ++ (wSt cy b g2)) ((wSt cy a o) ++ (wSt cy b g2)) := by
  refine zM_of (cc := cX4_copyFrom) (maxL := 2) (ret := none) (Qc := fun A => zQv G cy A ((wSt cy a o) ++ (wSt cy b g2))) (by decide) rfl (Nat.le_of_ble_eq_true rfl) ?_
  intro p e s m below meth c A ls hx hb hml hr hlocks hown hts hK hSE hA hP hD hS hl
  have hown : s.vm.findClass RX4 = some m.cls := hown
  have hl : lv_has ls 2 [(0, .ref a), (1, .ref b)] := hl
  have k13 := hts (.fieldLink RX4 13 "TapCascade$Stage" "step" "I") (by decide +kernel)
  have iX4 : ∀ w ∈ wsX40, w ∈ wsX4_copyFrom := fun w h => List.mem_cons_of_mem _ (List.mem_append_right _ h)
  have k19 := hts (.fieldLink RX4 19 "TapCascade$Stage" "target" "I") (by decide +kernel)
  have k22 := hts (.fieldLink RX4 22 "TapCascade$Stage" "band" "I") (by decide +kernel)
  have k25 := hts (.fieldLink RX4 25 "TapCascade$Stage" "wait" "I") (by decide +kernel)
  have k28 := hts (.fieldLink RX4 28 "TapCascade$Stage" "rule" "I") (by decide +kernel)
  have k31 := hts (.fieldLink RX4 31 "TapCascade$Stage" "load" "I") (by decide +kernel)
  have k34 := hts (.fieldLink RX4 34 "TapCascade$Stage" "way" "I") (by decide +kernel)
  have k37 := hts (.fieldLink RX4 37 "TapCascade$Stage" "tap" "I") (by decide +kernel)
  have k40 := hts (.fieldLink RX4 40 "TapCascade$Stage" "count" "I") (by decide +kernel)
  have k43 := hts (.fieldLink RX4 43 "TapCascade$Stage" "wanted" "I") (by decide +kernel)
  have k46 := hts (.fieldLink RX4 46 "TapCascade$Stage" "lastStep" "I") (by decide +kernel)
  have k49 := hts (.fieldLink RX4 49 "TapCascade$Stage" "stuck" "Z") (by decide +kernel)
  have k53 := hts (.fieldLink RX4 53 "TapCascade$Stage" "flow" "I") (by decide +kernel)
  have k56 := hts (.fieldLink RX4 56 "TapCascade$Stage" "in" "I") (by decide +kernel)
  have k59 := hts (.fieldLink RX4 59 "TapCascade$Stage" "out" "I") (by decide +kernel)
  unfold f_X4_copyFrom at hF
  refine lv_aload_n hx hb dX4_copyFrom_0 rfl (lv_at hl 0 rfl) ?_
  refine lv_aload_n hx hb dX4_copyFrom_1 rfl (lv_at hl 1 rfl) ?_
  refine va_get (ci := 4) (C := RX4) (T := TX4) (N := 15) (fs := (zSt g2)) (v := .int (g2 0)) hx hb hts iX4 hown hK hP _ (zat_r (wSt_len cy a g) (wSt_at0 cy b g2)) rfl 0 (by decide) k13 (fun _ h9 => h9) rfl dX4_copyFrom_2 ?_
  refine z_puti (ci := 4) (C := RX4) (T := TX4) (N := 15) (fs := (zSt g)) (x := g2 0) (wf := (fun y => ((wSt cy a y) ++ (wSt cy b g2)))) hx hb hts iX4 tyX4 tyX4_ok nmX4 hown hK hP hD hS _ 0 (zFoc_l (wSt_foc cy a g 0 (by decide) (g2 0))) rfl (by decide) k13 (fun _ h9 => h9) rfl (by decide +kernel) (Nat.le_of_ble_eq_true rfl) hF dX4_copyFrom_5 (fun g_1 hF H locs hP hD hS => ?_)
  refine lv_aload_n hx hb dX4_copyFrom_8 rfl (lv_at hl 0 rfl) ?_
  refine lv_aload_n hx hb dX4_copyFrom_9 rfl (lv_at hl 1 rfl) ?_
  refine va_get (ci := 4) (C := RX4) (T := TX4) (N := 15) (fs := (zSt g2)) (v := .int (g2 1)) hx hb hts iX4 hown hK hP _ (zat_r (wSt_len cy a g_1) (wSt_at0 cy b g2)) rfl 1 (by decide) k19 (fun _ h9 => h9) rfl dX4_copyFrom_10 ?_
  refine z_puti (ci := 4) (C := RX4) (T := TX4) (N := 15) (fs := (zSt g_1)) (x := g2 1) (wf := (fun y => ((wSt cy a y) ++ (wSt cy b g2)))) hx hb hts iX4 tyX4 tyX4_ok nmX4 hown hK hP hD hS _ 1 (zFoc_l (wSt_foc cy a g_1 1 (by decide) (g2 1))) rfl (by decide) k19 (fun _ h9 => h9) rfl (by decide +kernel) (Nat.le_of_ble_eq_true rfl) hF dX4_copyFrom_13 (fun g_2 hF H locs hP hD hS => ?_)
  refine lv_aload_n hx hb dX4_copyFrom_16 rfl (lv_at hl 0 rfl) ?_
  refine lv_aload_n hx hb dX4_copyFrom_17 rfl (lv_at hl 1 rfl) ?_
  refine va_get (ci := 4) (C := RX4) (T := TX4) (N := 15) (fs := (zSt g2)) (v := .int (g2 2)) hx hb hts iX4 hown hK hP _ (zat_r (wSt_len cy a g_2) (wSt_at0 cy b g2)) rfl 2 (by decide) k22 (fun _ h9 => h9) rfl dX4_copyFrom_18 ?_
  refine z_puti (ci := 4) (C := RX4) (T := TX4) (N := 15) (fs := (zSt g_2)) (x := g2 2) (wf := (fun y => ((wSt cy a y) ++ (wSt cy b g2)))) hx hb hts iX4 tyX4 tyX4_ok nmX4 hown hK hP hD hS _ 2 (zFoc_l (wSt_foc cy a g_2 2 (by decide) (g2 2))) rfl (by decide) k22 (fun _ h9 => h9) rfl (by decide +kernel) (Nat.le_of_ble_eq_true rfl) hF dX4_copyFrom_21 (fun g_3 hF H locs hP hD hS => ?_)
  refine lv_aload_n hx hb dX4_copyFrom_24 rfl (lv_at hl 0 rfl) ?_
  refine lv_aload_n hx hb dX4_copyFrom_25 rfl (lv_at hl 1 rfl) ?_
  refine va_get (ci := 4) (C := RX4) (T := TX4) (N := 15) (fs := (zSt g2)) (v := .int (g2 3)) hx hb hts iX4 hown hK hP _ (zat_r (wSt_len cy a g_3) (wSt_at0 cy b g2)) rfl 3 (by decide) k25 (fun _ h9 => h9) rfl dX4_copyFrom_26 ?_
  refine z_puti (ci := 4) (C := RX4) (T := TX4) (N := 15) (fs := (zSt g_3)) (x := g2 3) (wf := (fun y => ((wSt cy a y) ++ (wSt cy b g2)))) hx hb hts iX4 tyX4 tyX4_ok nmX4 hown hK hP hD hS _ 3 (zFoc_l (wSt_foc cy a g_3 3 (by decide) (g2 3))) rfl (by decide) k25 (fun _ h9 => h9) rfl (by decide +kernel) (Nat.le_of_ble_eq_true rfl) hF dX4_copyFrom_29 (fun g_4 hF H locs hP hD hS => ?_)
  refine lv_aload_n hx hb dX4_copyFrom_32 rfl (lv_at hl 0 rfl) ?_
  refine lv_aload_n hx hb dX4_copyFrom_33 rfl (lv_at hl 1 rfl) ?_
  refine va_get (ci := 4) (C := RX4) (T := TX4) (N := 15) (fs := (zSt g2)) (v := .int (g2 4)) hx hb hts iX4 hown hK hP _ (zat_r (wSt_len cy a g_4) (wSt_at0 cy b g2)) rfl 4 (by decide) k28 (fun _ h9 => h9) rfl dX4_copyFrom_34 ?_
  refine z_puti (ci := 4) (C := RX4) (T := TX4) (N := 15) (fs := (zSt g_4)) (x := g2 4) (wf := (fun y => ((wSt cy a y) ++ (wSt cy b g2)))) hx hb hts iX4 tyX4 tyX4_ok nmX4 hown hK hP hD hS _ 4 (zFoc_l (wSt_foc cy a g_4 4 (by decide) (g2 4))) rfl (by decide) k28 (fun _ h9 => h9) rfl (by decide +kernel) (Nat.le_of_ble_eq_true rfl) hF dX4_copyFrom_37 (fun g_5 hF H locs hP hD hS => ?_)
  refine lv_aload_n hx hb dX4_copyFrom_40 rfl (lv_at hl 0 rfl) ?_
  refine lv_aload_n hx hb dX4_copyFrom_41 rfl (lv_at hl 1 rfl) ?_
  refine va_get (ci := 4) (C := RX4) (T := TX4) (N := 15) (fs := (zSt g2)) (v := .int (g2 5)) hx hb hts iX4 hown hK hP _ (zat_r (wSt_len cy a g_5) (wSt_at0 cy b g2)) rfl 5 (by decide) k31 (fun _ h9 => h9) rfl dX4_copyFrom_42 ?_
  refine z_puti (ci := 4) (C := RX4) (T := TX4) (N := 15) (fs := (zSt g_5)) (x := g2 5) (wf := (fun y => ((wSt cy a y) ++ (wSt cy b g2)))) hx hb hts iX4 tyX4 tyX4_ok nmX4 hown hK hP hD hS _ 5 (zFoc_l (wSt_foc cy a g_5 5 (by decide) (g2 5))) rfl (by decide) k31 (fun _ h9 => h9) rfl (by decide +kernel) (Nat.le_of_ble_eq_true rfl) hF dX4_copyFrom_45 (fun g_6 hF H locs hP hD hS => ?_)
  refine lv_aload_n hx hb dX4_copyFrom_48 rfl (lv_at hl 0 rfl) ?_
  refine lv_aload_n hx hb dX4_copyFrom_49 rfl (lv_at hl 1 rfl) ?_
  refine va_get (ci := 4) (C := RX4) (T := TX4) (N := 15) (fs := (zSt g2)) (v := .int (g2 6)) hx hb hts iX4 hown hK hP _ (zat_r (wSt_len cy a g_6) (wSt_at0 cy b g2)) rfl 6 (by decide) k34 (fun _ h9 => h9) rfl dX4_copyFrom_50 ?_
  refine z_puti (ci := 4) (C := RX4) (T := TX4) (N := 15) (fs := (zSt g_6)) (x := g2 6) (wf := (fun y => ((wSt cy a y) ++ (wSt cy b g2)))) hx hb hts iX4 tyX4 tyX4_ok nmX4 hown hK hP hD hS _ 6 (zFoc_l (wSt_foc cy a g_6 6 (by decide) (g2 6))) rfl (by decide) k34 (fun _ h9 => h9) rfl (by decide +kernel) (Nat.le_of_ble_eq_true rfl) hF dX4_copyFrom_53 (fun g_7 hF H locs hP hD hS => ?_)
  refine lv_aload_n hx hb dX4_copyFrom_56 rfl (lv_at hl 0 rfl) ?_
  refine lv_aload_n hx hb dX4_copyFrom_57 rfl (lv_at hl 1 rfl) ?_
  refine va_get (ci := 4) (C := RX4) (T := TX4) (N := 15) (fs := (zSt g2)) (v := .int (g2 7)) hx hb hts iX4 hown hK hP _ (zat_r (wSt_len cy a g_7) (wSt_at0 cy b g2)) rfl 7 (by decide) k37 (fun _ h9 => h9) rfl dX4_copyFrom_58 ?_
  refine z_puti (ci := 4) (C := RX4) (T := TX4) (N := 15) (fs := (zSt g_7)) (x := g2 7) (wf := (fun y => ((wSt cy a y) ++ (wSt cy b g2)))) hx hb hts iX4 tyX4 tyX4_ok nmX4 hown hK hP hD hS _ 7 (zFoc_l (wSt_foc cy a g_7 7 (by decide) (g2 7))) rfl (by decide) k37 (fun _ h9 => h9) rfl (by decide +kernel) (Nat.le_of_ble_eq_true rfl) hF dX4_copyFrom_61 (fun g_8 hF H locs hP hD hS => ?_)
  refine lv_aload_n hx hb dX4_copyFrom_64 rfl (lv_at hl 0 rfl) ?_
  refine lv_aload_n hx hb dX4_copyFrom_65 rfl (lv_at hl 1 rfl) ?_
  refine va_get (ci := 4) (C := RX4) (T := TX4) (N := 15) (fs := (zSt g2)) (v := .int (g2 8)) hx hb hts iX4 hown hK hP _ (zat_r (wSt_len cy a g_8) (wSt_at0 cy b g2)) rfl 8 (by decide) k40 (fun _ h9 => h9) rfl dX4_copyFrom_66 ?_
  refine z_puti (ci := 4) (C := RX4) (T := TX4) (N := 15) (fs := (zSt g_8)) (x := g2 8) (wf := (fun y => ((wSt cy a y) ++ (wSt cy b g2)))) hx hb hts iX4 tyX4 tyX4_ok nmX4 hown hK hP hD hS _ 8 (zFoc_l (wSt_foc cy a g_8 8 (by decide) (g2 8))) rfl (by decide) k40 (fun _ h9 => h9) rfl (by decide +kernel) (Nat.le_of_ble_eq_true rfl) hF dX4_copyFrom_69 (fun g_9 hF H locs hP hD hS => ?_)
  refine lv_aload_n hx hb dX4_copyFrom_72 rfl (lv_at hl 0 rfl) ?_
  refine lv_aload_n hx hb dX4_copyFrom_73 rfl (lv_at hl 1 rfl) ?_
  refine va_get (ci := 4) (C := RX4) (T := TX4) (N := 15) (fs := (zSt g2)) (v := .int (g2 9)) hx hb hts iX4 hown hK hP _ (zat_r (wSt_len cy a g_9) (wSt_at0 cy b g2)) rfl 9 (by decide) k43 (fun _ h9 => h9) rfl dX4_copyFrom_74 ?_
  refine z_puti (ci := 4) (C := RX4) (T := TX4) (N := 15) (fs := (zSt g_9)) (x := g2 9) (wf := (fun y => ((wSt cy a y) ++ (wSt cy b g2)))) hx hb hts iX4 tyX4 tyX4_ok nmX4 hown hK hP hD hS _ 9 (zFoc_l (wSt_foc cy a g_9 9 (by decide) (g2 9))) rfl (by decide) k43 (fun _ h9 => h9) rfl (by decide +kernel) (Nat.le_of_ble_eq_true rfl) hF dX4_copyFrom_77 (fun g_10 hF H locs hP hD hS => ?_)
  refine lv_aload_n hx hb dX4_copyFrom_80 rfl (lv_at hl 0 rfl) ?_
  refine lv_aload_n hx hb dX4_copyFrom_81 rfl (lv_at hl 1 rfl) ?_
  refine va_get (ci := 4) (C := RX4) (T := TX4) (N := 15) (fs := (zSt g2)) (v := .int (g2 10)) hx hb hts iX4 hown hK hP _ (zat_r (wSt_len cy a g_10) (wSt_at0 cy b g2)) rfl 10 (by decide) k46 (fun _ h9 => h9) rfl dX4_copyFrom_82 ?_
  refine z_puti (ci := 4) (C := RX4) (T := TX4) (N := 15) (fs := (zSt g_10)) (x := g2 10) (wf := (fun y => ((wSt cy a y) ++ (wSt cy b g2)))) hx hb hts iX4 tyX4 tyX4_ok nmX4 hown hK hP hD hS _ 10 (zFoc_l (wSt_foc cy a g_10 10 (by decide) (g2 10))) rfl (by decide) k46 (fun _ h9 => h9) rfl (by decide +kernel) (Nat.le_of_ble_eq_true rfl) hF dX4_copyFrom_85 (fun g_11 hF H locs hP hD hS => ?_)
  refine lv_aload_n hx hb dX4_copyFrom_88 rfl (lv_at hl 0 rfl) ?_
  refine lv_aload_n hx hb dX4_copyFrom_89 rfl (lv_at hl 1 rfl) ?_
  refine va_get (ci := 4) (C := RX4) (T := TX4) (N := 15) (fs := (zSt g2)) (v := .int (g2 11)) hx hb hts iX4 hown hK hP _ (zat_r (wSt_len cy a g_11) (wSt_at0 cy b g2)) rfl 11 (by decide) k49 (fun _ h9 => h9) rfl dX4_copyFrom_90 ?_
  refine z_putz (ci := 4) (C := RX4) (T := TX4) (N := 15) (fs := (zSt g_11)) (x := g2 11) (wf := (fun y => ((wSt cy a y) ++ (wSt cy b g2)))) hx hb hts iX4 tyX4 tyX4_ok nmX4 hown hK hP hD hS _ 11 (zFoc_l (wSt_foc cy a g_11 11 (by decide) (g2 11))) rfl (by decide) k49 (fun _ h9 => h9) rfl (by decide +kernel) (Nat.le_of_ble_eq_true rfl) hF dX4_copyFrom_93 (fun g_12 hF H locs hP hD hS => ?_)
  refine lv_aload_n hx hb dX4_copyFrom_96 rfl (lv_at hl 0 rfl) ?_
  refine lv_aload_n hx hb dX4_copyFrom_97 rfl (lv_at hl 1 rfl) ?_
  refine va_get (ci := 4) (C := RX4) (T := TX4) (N := 15) (fs := (zSt g2)) (v := .int (g2 12)) hx hb hts iX4 hown hK hP _ (zat_r (wSt_len cy a g_12) (wSt_at0 cy b g2)) rfl 12 (by decide) k53 (fun _ h9 => h9) rfl dX4_copyFrom_98 ?_
  refine z_puti (ci := 4) (C := RX4) (T := TX4) (N := 15) (fs := (zSt g_12)) (x := g2 12) (wf := (fun y => ((wSt cy a y) ++ (wSt cy b g2)))) hx hb hts iX4 tyX4 tyX4_ok nmX4 hown hK hP hD hS _ 12 (zFoc_l (wSt_foc cy a g_12 12 (by decide) (g2 12))) rfl (by decide) k53 (fun _ h9 => h9) rfl (by decide +kernel) (Nat.le_of_ble_eq_true rfl) hF dX4_copyFrom_101 (fun g_13 hF H locs hP hD hS => ?_)
  refine lv_aload_n hx hb dX4_copyFrom_104 rfl (lv_at hl 0 rfl) ?_
  refine lv_aload_n hx hb dX4_copyFrom_105 rfl (lv_at hl 1 rfl) ?_
  refine va_get (ci := 4) (C := RX4) (T := TX4) (N := 15) (fs := (zSt g2)) (v := .int (g2 13)) hx hb hts iX4 hown hK hP _ (zat_r (wSt_len cy a g_13) (wSt_at0 cy b g2)) rfl 13 (by decide) k56 (fun _ h9 => h9) rfl dX4_copyFrom_106 ?_
  refine z_puti (ci := 4) (C := RX4) (T := TX4) (N := 15) (fs := (zSt g_13)) (x := g2 13) (wf := (fun y => ((wSt cy a y) ++ (wSt cy b g2)))) hx hb hts iX4 tyX4 tyX4_ok nmX4 hown hK hP hD hS _ 13 (zFoc_l (wSt_foc cy a g_13 13 (by decide) (g2 13))) rfl (by decide) k56 (fun _ h9 => h9) rfl (by decide +kernel) (Nat.le_of_ble_eq_true rfl) hF dX4_copyFrom_109 (fun g_14 hF H locs hP hD hS => ?_)
  refine lv_aload_n hx hb dX4_copyFrom_112 rfl (lv_at hl 0 rfl) ?_
  refine lv_aload_n hx hb dX4_copyFrom_113 rfl (lv_at hl 1 rfl) ?_
  refine va_get (ci := 4) (C := RX4) (T := TX4) (N := 15) (fs := (zSt g2)) (v := .int (g2 14)) hx hb hts iX4 hown hK hP _ (zat_r (wSt_len cy a g_14) (wSt_at0 cy b g2)) rfl 14 (by decide) k59 (fun _ h9 => h9) rfl dX4_copyFrom_114 ?_
  refine z_puti (ci := 4) (C := RX4) (T := TX4) (N := 15) (fs := (zSt g_14)) (x := g2 14) (wf := (fun y => ((wSt cy a y) ++ (wSt cy b g2)))) hx hb hts iX4 tyX4 tyX4_ok nmX4 hown hK hP hD hS _ 14 (zFoc_l (wSt_foc cy a g_14 14 (by decide) (g2 14))) rfl (by decide) k59 (fun _ h9 => h9) rfl (by decide +kernel) (Nat.le_of_ble_eq_true rfl) hF dX4_copyFrom_117 (fun g_15 hF H locs hP hD hS => ?_)
  refine z_vret (o := o) (o1 := g_15) (wf := (fun o => ((wSt cy a o) ++ (wSt cy b g2)))) hx hb hr hlocks hK ?_ ?_ hS ?_ dX4_copyFrom_120
  · exact hP
  · exact hD
  · exact hF
def f_X4_layDown (g : Nat → Int32) (t : Nat → Int32) : Option ((Nat → Int32)) :=
if (7 : Int32) ≤ (7 : Int32) then (
zg (zin 0 7) (
zlet (upd g 0 (t (zn 0))) fun g_1 =>
zg (zin 1 7) (
zlet (upd g_1 1 (t (zn 1))) fun g_2 =>
zg (zin 2 7) (
zlet (upd g_2 2 (t (zn 2))) fun g_3 =>
zg (zin 3 7) (
zlet (upd g_3 3 (t (zn 3))) fun g_4 =>
zg (zin 4 7) (
zlet (upd g_4 4 (t (zn 4))) fun g_5 =>
zg (zin 5 7) (
zlet (upd g_5 5 (t (zn 5))) fun g_6 =>
zg (zin 6 7) (
zlet (upd g_6 6 (t (zn 6))) fun g_7 =>
zlet (upd g_7 7 0) fun g_8 =>
zlet (upd g_8 8 0) fun g_9 =>
zlet (upd g_9 9 0) fun g_10 =>
zlet (upd g_10 10 0) fun g_11 =>
zg (zbo 0) (
zlet (upd g_11 11 0) fun g_12 =>
some g_12))))))))) else (
some g)
set_option maxHeartbeats 4000000 in
set_option maxRecDepth 100000 in
theorem c_X4_layDown (l : Launch) (G : va_G) (cy : Nat → ClassId) (st : Nat → Nat) (a : Nat) (b : Nat) (g : Nat → Int32) (t : Nat → Int32) (o : (Nat → Int32)) (hF : f_X4_layDown g t = some o) : zMv l yX4_layDown wsX4_layDown (zR 1) G cy st [.ref a, .ref b] ((wSt cy a g) ++ (wAr cy b t)) ((wSt cy a o) ++ (wAr cy b t)) := by
  refine zM_of (cc := cX4_layDown) (maxL := 2) (ret := none) (Qc := fun A => zQv G cy A ((wSt cy a o) ++ (wAr cy b t))) (by decide) rfl (Nat.le_of_ble_eq_true rfl) ?_
  intro p e s m below meth c A ls hx hb hml hr hlocks hown hts hK hSE hA hP hD hS hl
  have hown : s.vm.findClass RX4 = some m.cls := hown
  have hl : lv_has ls 2 [(0, .ref a), (1, .ref b)] := hl
  have k13 := hts (.fieldLink RX4 13 "TapCascade$Stage" "step" "I") (by decide +kernel)
  have iX4 : ∀ w ∈ wsX40, w ∈ wsX4_layDown := fun w h => List.mem_cons_of_mem _ (List.mem_append_right _ h)
  have k19 := hts (.fieldLink RX4 19 "TapCascade$Stage" "target" "I") (by decide +kernel)
  have k22 := hts (.fieldLink RX4 22 "TapCascade$Stage" "band" "I") (by decide +kernel)
  have k25 := hts (.fieldLink RX4 25 "TapCascade$Stage" "wait" "I") (by decide +kernel)
  have k28 := hts (.fieldLink RX4 28 "TapCascade$Stage" "rule" "I") (by decide +kernel)
  have k31 := hts (.fieldLink RX4 31 "TapCascade$Stage" "load" "I") (by decide +kernel)
  have k34 := hts (.fieldLink RX4 34 "TapCascade$Stage" "way" "I") (by decide +kernel)
  have k37 := hts (.fieldLink RX4 37 "TapCascade$Stage" "tap" "I") (by decide +kernel)
  have k40 := hts (.fieldLink RX4 40 "TapCascade$Stage" "count" "I") (by decide +kernel)
  have k43 := hts (.fieldLink RX4 43 "TapCascade$Stage" "wanted" "I") (by decide +kernel)
  have k46 := hts (.fieldLink RX4 46 "TapCascade$Stage" "lastStep" "I") (by decide +kernel)
  have k49 := hts (.fieldLink RX4 49 "TapCascade$Stage" "stuck" "Z") (by decide +kernel)
  unfold f_X4_layDown at hF
  refine lv_aload_n hx hb dX4_layDown_0 rfl (lv_at hl 1 rfl) ?_
  refine va_alen (v := 7) hx hb hK hP _ 1 (zat_r (wSt_len cy a g) (wAr_at0 cy b t)) rfl rfl dX4_layDown_1 ?_
  refine va_getsN hx hb hSE.1.1 hS hown (va_Nw.use rfl hSE.2.2.1.1) (fun _ h9 => h9) dX4_layDown_2 ?_
  refine va_tlen (N := 7) (v := 7) hx hb hSE.1.2 hS (by decide) dX4_layDown_5 ?_
  refine zi_ge (tgt := 10) hx hb hF dX4_layDown_6 (by decide) (fun hF => ?_) (fun hF => ?_)
  · refine lv_aload_n hx hb dX4_layDown_10 rfl (lv_at hl 0 rfl) ?_
    refine lv_aload_n hx hb dX4_layDown_11 rfl (lv_at hl 1 rfl) ?_
    refine lv_iconst (v := 0) hx hb dX4_layDown_12 (by decide) ?_
    refine z_iald (n := 7) (f := t) hx hb hK hP _ 1 (zat_r (wSt_len cy a g) (wAr_at0 cy b t)) rfl hF dX4_layDown_13 (fun hF => ?_)
    refine z_puti (ci := 4) (C := RX4) (T := TX4) (N := 15) (fs := (zSt g)) (x := (t (zn 0))) (wf := (fun y => ((wSt cy a y) ++ (wAr cy b t)))) hx hb hts iX4 tyX4 tyX4_ok nmX4 hown hK hP hD hS _ 0 (zFoc_l (wSt_foc cy a g 0 (by decide) (t (zn 0)))) rfl (by decide) k13 (fun _ h9 => h9) rfl (by decide +kernel) (Nat.le_of_ble_eq_true rfl) hF dX4_layDown_14 (fun g_1 hF H locs hP hD hS => ?_)
    refine lv_aload_n hx hb dX4_layDown_17 rfl (lv_at hl 0 rfl) ?_
    refine lv_aload_n hx hb dX4_layDown_18 rfl (lv_at hl 1 rfl) ?_
    refine lv_iconst (v := 1) hx hb dX4_layDown_19 (by decide) ?_
    refine z_iald (n := 7) (f := t) hx hb hK hP _ 1 (zat_r (wSt_len cy a g_1) (wAr_at0 cy b t)) rfl hF dX4_layDown_20 (fun hF => ?_)
    refine z_puti (ci := 4) (C := RX4) (T := TX4) (N := 15) (fs := (zSt g_1)) (x := (t (zn 1))) (wf := (fun y => ((wSt cy a y) ++ (wAr cy b t)))) hx hb hts iX4 tyX4 tyX4_ok nmX4 hown hK hP hD hS _ 1 (zFoc_l (wSt_foc cy a g_1 1 (by decide) (t (zn 1)))) rfl (by decide) k19 (fun _ h9 => h9) rfl (by decide +kernel) (Nat.le_of_ble_eq_true rfl) hF dX4_layDown_21 (fun g_2 hF H locs hP hD hS => ?_)
    refine lv_aload_n hx hb dX4_layDown_24 rfl (lv_at hl 0 rfl) ?_
    refine lv_aload_n hx hb dX4_layDown_25 rfl (lv_at hl 1 rfl) ?_
    refine lv_iconst (v := 2) hx hb dX4_layDown_26 (by decide) ?_
    refine z_iald (n := 7) (f := t) hx hb hK hP _ 1 (zat_r (wSt_len cy a g_2) (wAr_at0 cy b t)) rfl hF dX4_layDown_27 (fun hF => ?_)
    refine z_puti (ci := 4) (C := RX4) (T := TX4) (N := 15) (fs := (zSt g_2)) (x := (t (zn 2))) (wf := (fun y => ((wSt cy a y) ++ (wAr cy b t)))) hx hb hts iX4 tyX4 tyX4_ok nmX4 hown hK hP hD hS _ 2 (zFoc_l (wSt_foc cy a g_2 2 (by decide) (t (zn 2)))) rfl (by decide) k22 (fun _ h9 => h9) rfl (by decide +kernel) (Nat.le_of_ble_eq_true rfl) hF dX4_layDown_28 (fun g_3 hF H locs hP hD hS => ?_)
    refine lv_aload_n hx hb dX4_layDown_31 rfl (lv_at hl 0 rfl) ?_
    refine lv_aload_n hx hb dX4_layDown_32 rfl (lv_at hl 1 rfl) ?_
    refine lv_iconst (v := 3) hx hb dX4_layDown_33 (by decide) ?_
    refine z_iald (n := 7) (f := t) hx hb hK hP _ 1 (zat_r (wSt_len cy a g_3) (wAr_at0 cy b t)) rfl hF dX4_layDown_34 (fun hF => ?_)
    refine z_puti (ci := 4) (C := RX4) (T := TX4) (N := 15) (fs := (zSt g_3)) (x := (t (zn 3))) (wf := (fun y => ((wSt cy a y) ++ (wAr cy b t)))) hx hb hts iX4 tyX4 tyX4_ok nmX4 hown hK hP hD hS _ 3 (zFoc_l (wSt_foc cy a g_3 3 (by decide) (t (zn 3)))) rfl (by decide) k25 (fun _ h9 => h9) rfl (by decide +kernel) (Nat.le_of_ble_eq_true rfl) hF dX4_layDown_35 (fun g_4 hF H locs hP hD hS => ?_)
    refine lv_aload_n hx hb dX4_layDown_38 rfl (lv_at hl 0 rfl) ?_
    refine lv_aload_n hx hb dX4_layDown_39 rfl (lv_at hl 1 rfl) ?_
    refine lv_iconst (v := 4) hx hb dX4_layDown_40 (by decide) ?_
    refine z_iald (n := 7) (f := t) hx hb hK hP _ 1 (zat_r (wSt_len cy a g_4) (wAr_at0 cy b t)) rfl hF dX4_layDown_41 (fun hF => ?_)
    refine z_puti (ci := 4) (C := RX4) (T := TX4) (N := 15) (fs := (zSt g_4)) (x := (t (zn 4))) (wf := (fun y => ((wSt cy a y) ++ (wAr cy b t)))) hx hb hts iX4 tyX4 tyX4_ok nmX4 hown hK hP hD hS _ 4 (zFoc_l (wSt_foc cy a g_4 4 (by decide) (t (zn 4)))) rfl (by decide) k28 (fun _ h9 => h9) rfl (by decide +kernel) (Nat.le_of_ble_eq_true rfl) hF dX4_layDown_42 (fun g_5 hF H locs hP hD hS => ?_)
    refine lv_aload_n hx hb dX4_layDown_45 rfl (lv_at hl 0 rfl) ?_
    refine lv_aload_n hx hb dX4_layDown_46 rfl (lv_at hl 1 rfl) ?_
    refine lv_iconst (v := 5) hx hb dX4_layDown_47 (by decide) ?_
    refine z_iald (n := 7) (f := t) hx hb hK hP _ 1 (zat_r (wSt_len cy a g_5) (wAr_at0 cy b t)) rfl hF dX4_layDown_48 (fun hF => ?_)
    refine z_puti (ci := 4) (C := RX4) (T := TX4) (N := 15) (fs := (zSt g_5)) (x := (t (zn 5))) (wf := (fun y => ((wSt cy a y) ++ (wAr cy b t)))) hx hb hts iX4 tyX4 tyX4_ok nmX4 hown hK hP hD hS _ 5 (zFoc_l (wSt_foc cy a g_5 5 (by decide) (t (zn 5)))) rfl (by decide) k31 (fun _ h9 => h9) rfl (by decide +kernel) (Nat.le_of_ble_eq_true rfl) hF dX4_layDown_49 (fun g_6 hF H locs hP hD hS => ?_)
    refine lv_aload_n hx hb dX4_layDown_52 rfl (lv_at hl 0 rfl) ?_
    refine lv_aload_n hx hb dX4_layDown_53 rfl (lv_at hl 1 rfl) ?_
    refine lv_bipush (v := 6) hx hb dX4_layDown_54 (by decide) ?_
    refine z_iald (n := 7) (f := t) hx hb hK hP _ 1 (zat_r (wSt_len cy a g_6) (wAr_at0 cy b t)) rfl hF dX4_layDown_56 (fun hF => ?_)
    refine z_puti (ci := 4) (C := RX4) (T := TX4) (N := 15) (fs := (zSt g_6)) (x := (t (zn 6))) (wf := (fun y => ((wSt cy a y) ++ (wAr cy b t)))) hx hb hts iX4 tyX4 tyX4_ok nmX4 hown hK hP hD hS _ 6 (zFoc_l (wSt_foc cy a g_6 6 (by decide) (t (zn 6)))) rfl (by decide) k34 (fun _ h9 => h9) rfl (by decide +kernel) (Nat.le_of_ble_eq_true rfl) hF dX4_layDown_57 (fun g_7 hF H locs hP hD hS => ?_)
    refine lv_aload_n hx hb dX4_layDown_60 rfl (lv_at hl 0 rfl) ?_
    refine lv_iconst (v := 0) hx hb dX4_layDown_61 (by decide) ?_
    refine z_puti (ci := 4) (C := RX4) (T := TX4) (N := 15) (fs := (zSt g_7)) (x := 0) (wf := (fun y => ((wSt cy a y) ++ (wAr cy b t)))) hx hb hts iX4 tyX4 tyX4_ok nmX4 hown hK hP hD hS _ 7 (zFoc_l (wSt_foc cy a g_7 7 (by decide) 0)) rfl (by decide) k37 (fun _ h9 => h9) rfl (by decide +kernel) (Nat.le_of_ble_eq_true rfl) hF dX4_layDown_62 (fun g_8 hF H locs hP hD hS => ?_)
    refine lv_aload_n hx hb dX4_layDown_65 rfl (lv_at hl 0 rfl) ?_
    refine lv_iconst (v := 0) hx hb dX4_layDown_66 (by decide) ?_
    refine z_puti (ci := 4) (C := RX4) (T := TX4) (N := 15) (fs := (zSt g_8)) (x := 0) (wf := (fun y => ((wSt cy a y) ++ (wAr cy b t)))) hx hb hts iX4 tyX4 tyX4_ok nmX4 hown hK hP hD hS _ 8 (zFoc_l (wSt_foc cy a g_8 8 (by decide) 0)) rfl (by decide) k40 (fun _ h9 => h9) rfl (by decide +kernel) (Nat.le_of_ble_eq_true rfl) hF dX4_layDown_67 (fun g_9 hF H locs hP hD hS => ?_)
    refine lv_aload_n hx hb dX4_layDown_70 rfl (lv_at hl 0 rfl) ?_
    refine lv_iconst (v := 0) hx hb dX4_layDown_71 (by decide) ?_
    refine z_puti (ci := 4) (C := RX4) (T := TX4) (N := 15) (fs := (zSt g_9)) (x := 0) (wf := (fun y => ((wSt cy a y) ++ (wAr cy b t)))) hx hb hts iX4 tyX4 tyX4_ok nmX4 hown hK hP hD hS _ 9 (zFoc_l (wSt_foc cy a g_9 9 (by decide) 0)) rfl (by decide) k43 (fun _ h9 => h9) rfl (by decide +kernel) (Nat.le_of_ble_eq_true rfl) hF dX4_layDown_72 (fun g_10 hF H locs hP hD hS => ?_)
    refine lv_aload_n hx hb dX4_layDown_75 rfl (lv_at hl 0 rfl) ?_
    refine lv_iconst (v := 0) hx hb dX4_layDown_76 (by decide) ?_
    refine z_puti (ci := 4) (C := RX4) (T := TX4) (N := 15) (fs := (zSt g_10)) (x := 0) (wf := (fun y => ((wSt cy a y) ++ (wAr cy b t)))) hx hb hts iX4 tyX4 tyX4_ok nmX4 hown hK hP hD hS _ 10 (zFoc_l (wSt_foc cy a g_10 10 (by decide) 0)) rfl (by decide) k46 (fun _ h9 => h9) rfl (by decide +kernel) (Nat.le_of_ble_eq_true rfl) hF dX4_layDown_77 (fun g_11 hF H locs hP hD hS => ?_)
    refine lv_aload_n hx hb dX4_layDown_80 rfl (lv_at hl 0 rfl) ?_
    refine lv_iconst (v := 0) hx hb dX4_layDown_81 (by decide) ?_
    refine z_putz (ci := 4) (C := RX4) (T := TX4) (N := 15) (fs := (zSt g_11)) (x := 0) (wf := (fun y => ((wSt cy a y) ++ (wAr cy b t)))) hx hb hts iX4 tyX4 tyX4_ok nmX4 hown hK hP hD hS _ 11 (zFoc_l (wSt_foc cy a g_11 11 (by decide) 0)) rfl (by decide) k49 (fun _ h9 => h9) rfl (by decide +kernel) (Nat.le_of_ble_eq_true rfl) hF dX4_layDown_82 (fun g_12 hF H locs hP hD hS => ?_)
    refine z_vret (o := o) (o1 := g_12) (wf := (fun o => ((wSt cy a o) ++ (wAr cy b t)))) hx hb hr hlocks hK ?_ ?_ hS ?_ dX4_layDown_85
    · exact hP
    · exact hD
    · exact hF
  · refine z_vret (o := o) (o1 := g) (wf := (fun o => ((wSt cy a o) ++ (wAr cy b t)))) hx hb hr hlocks hK ?_ ?_ hS ?_ dX4_layDown_9
    · exact hP
    · exact hD
    · exact hF
