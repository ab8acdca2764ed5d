/-! ===== 28.model_c: laid by a program out of the decode rows ===== -/
def j_X8_nextTaps_34 (y2 : Int32) (ms_3 : Nat → Int32) : Option (Int32 × (Nat → Int32)) :=
zbd (f_X8_of ms_3 y2 7) fun o4 =>
zbd (f_X8_puts ms_3 y2 7 (o4 + 1)) fun o5 =>
some (1, o5)
def j_X8_nextTaps_61 (rc9 : (Int32 × (Nat → Int32)) → Option (Int32 × (Nat → Int32))) (s9 : Int32 × (Nat → Int32)) (ms_7 : Nat → Int32) : Option (Int32 × (Nat → Int32)) :=
zlet (s9.1 + (-1)) fun x8 =>
rc9 (x8, ms_7)
def b_X8_nextTaps_9 (rc9 : (Int32 × (Nat → Int32)) → Option (Int32 × (Nat → Int32))) (s9 : Int32 × (Nat → Int32)) : Option (Int32 × (Nat → Int32)) :=
if s9.1 < 0 then (
some (0, s9.2)) else (
zbd (f_X8_of s9.2 s9.1 8) fun o6 =>
if o6 = 0 then (
zbd (f_X8_of s9.2 s9.1 7) fun o9 =>
if (5 : Int32) ≤ o9 then (
zbd (f_X8_puts s9.2 s9.1 7 (-5)) fun o10 =>
j_X8_nextTaps_61 rc9 s9 o10) else (
j_X8_nextTaps_34 s9.1 s9.2)) else (
j_X8_nextTaps_61 rc9 s9 s9.2))
def f_X8_nextTaps (ms : Nat → Int32) : Option (Int32 × (Nat → Int32)) :=
zg (zin 0 114) (
zlet ((ms (zn 0)) - 1) fun x1 =>
zloop (b_X8_nextTaps_9) 1000 (x1, ms))
set_option maxHeartbeats 4000000 in
set_option maxRecDepth 100000 in
theorem c_X8_nextTaps (l : Launch) (G : va_G) (cy : Nat → ClassId) (st : Nat → Nat) (a : Nat → Nat) (m0 : Int32) (m1 : Int32) (m2 : Int32) (m3 : Int32) (m4 : Int32) (m5 : Int32) (m6 : Int32) (m7 : Int32) (m8 : Int32) (m9 : Int32) (mb : Nat → Int32) (ms : Nat → Int32) (md : Nat → Int32) (mp : Nat → Int32) (mf : Nat → Int32) (mi : Nat → Int32) (mo : Nat → Int32) (mw : Nat → Int32) (mn : Nat → Int32) (mk : Nat → Int32) (mt : Nat → Int64) (mq : Nat → Int32) (mz : Nat → Int32) (me : Nat → Int32) (o : Int32 × (Nat → Int32)) (hF : f_X8_nextTaps ms = some o) : zMi l yX8_nextTaps wsX8_nextTaps (zR 2) G cy st [.ref (a 0)] (wMo cy a m0 m1 m2 m3 m4 m5 m6 m7 m8 m9 mb ms md mp mf mi mo mw mn mk mt mq mz me) (wMo cy a m0 m1 m2 m3 m4 m5 m6 m7 m8 m9 mb o.2 md mp mf mi mo mw mn mk mt mq mz me) o.1 := by
  refine zM_of (cc := cX8_nextTaps) (maxL := 2) (ret := (some .boolean)) (Qc := fun A => zQi G cy A (wMo cy a m0 m1 m2 m3 m4 m5 m6 m7 m8 m9 mb o.2 md mp mf mi mo mw mn mk mt mq mz me) o.1) (by decide) rfl (Nat.le_of_ble_eq_true rfl) ?_
  intro p e s m below meth c A ls hx hb hml hr hlocks hown hts hK hSE hA hP hD hS hl
  have hown : s.vm.findClass RX8 = some m.cls := hown
  have hl : lv_has ls 2 [(0, .ref (a 0))] := hl
  have k13 := hts (.fieldLink RX8 13 "TapCascadeModel" "s" "[I") (by decide +kernel)
  have iX8 : ∀ w ∈ wsX80, w ∈ wsX8_nextTaps := fun w h => List.mem_cons_of_mem _ (List.mem_append_right _ h)
  unfold f_X8_nextTaps at hF
  refine lv_aload_n hx hb dX8_nextTaps_0 rfl (lv_at hl 0 rfl) ?_
  refine va_get (ci := 8) (C := RX8) (T := TX8) (N := 24) (fs := (zMo a m0 m1 m2 m3 m4 m5 m6 m7 m8 m9)) (v := .ref (a 2)) hx hb hts iX8 hown hK hP _ (wMo_at0 cy a m0 m1 m2 m3 m4 m5 m6 m7 m8 m9 mb ms md mp mf mi mo mw mn mk mt mq mz me) rfl 3 (by decide) k13 (fun _ h9 => h9) rfl dX8_nextTaps_1 ?_
  refine lv_iconst (v := 0) hx hb dX8_nextTaps_4 (by decide) ?_
  refine z_iald (n := 114) (f := ms) hx hb hK hP _ 1 (wMo_at2 cy a m0 m1 m2 m3 m4 m5 m6 m7 m8 m9 mb ms md mp mf mi mo mw mn mk mt mq mz me) rfl hF dX8_nextTaps_5 (fun hF => ?_)
  refine lv_iconst (v := 1) hx hb dX8_nextTaps_6 (by decide) ?_
  refine lv_isub hx hb dX8_nextTaps_7 ?_
  refine z_leti hF (fun x1 hF => ?_)
  refine lv_istore_n (lv' := [(1, .int x1), (0, .ref (a 0))]) hx hb dX8_nextTaps_8 rfl hl (by decide) rfl (fun ls hl => ?_)
  have J34 : ∀ (y2 : Int32) (ms_3 : Nat → Int32) (H : Heap) (locs : List Loc) (ls : Array Slot), va_P G vwCl (wMo cy a m0 m1 m2 m3 m4 m5 m6 m7 m8 m9 mb ms_3 md mp mf mi mo mw mn mk mt mq mz me) H → va_D A (wMo cy a m0 m1 m2 m3 m4 m5 m6 m7 m8 m9 mb ms_3 md mp mf mi mo mw mn mk mt mq mz me) → va_S A s.heap H locs → lv_has ls 2 [(0, .ref (a 0)), (1, .int y2)] → j_X8_nextTaps_34 y2 ms_3 = some o → W p l e (zR 2) s m ([.ref (a 0)] : List Value).toArray below meth c H locs 0 0 (MQ below (zQi G cy A (wMo cy a m0 m1 m2 m3 m4 m5 m6 m7 m8 m9 mb o.2 md mp mf mi mo mw mn mk mt mq mz me) o.1) ([.ref (a 0)] : List Value).toArray s 0 0 A) (F0 m 34 ls []) := by
    intro y2 ms_3 H locs ls hP hD hS hl hF
    unfold j_X8_nextTaps_34 at hF
    refine lv_aload_n hx hb dX8_nextTaps_34 rfl (lv_at hl 0 rfl) ?_
    refine lv_iload_n hx hb dX8_nextTaps_35 rfl (lv_at hl 1 rfl) ?_
    refine lv_bipush (v := 7) hx hb dX8_nextTaps_36 (by decide) ?_
    refine lv_aload_n hx hb dX8_nextTaps_38 rfl (lv_at hl 0 rfl) ?_
    refine lv_iload_n hx hb dX8_nextTaps_39 rfl (lv_at hl 1 rfl) ?_
    refine lv_bipush (v := 7) hx hb dX8_nextTaps_40 (by decide) ?_
    refine z_cVi (b := a 0) (As := [.int y2, .int 7]) (rest := [.int 7, .int y2, .ref (a 0)]) (wc := (wMo cy a m0 m1 m2 m3 m4 m5 m6 m7 m8 m9 mb ms_3 md mp mf mi mo mw mn mk mt mq mz me)) (wcf := fun o' => (wMo cy a m0 m1 m2 m3 m4 m5 m6 m7 m8 m9 mb ms_3 md mp mf mi mo mw mn mk mt mq mz me)) (wf := fun o' => (wMo cy a m0 m1 m2 m3 m4 m5 m6 m7 m8 m9 mb ms_3 md mp mf mi mo mw mn mk mt mq mz me)) (rf := fun o' => o') hF (fun o' hz => c_X8_of l G cy st a m0 m1 m2 m3 m4 m5 m6 m7 m8 m9 mb ms_3 md mp mf mi mo mw mn mk mt mq mz me y2 7 o' hz) (fun o' => zCut_all) ⟨hx, hb, hml, hown, hts⟩ (cwV 2 hts gX8_nextTaps_X8_of rfl rfl rfl (by decide +kernel) ⟨by decide, by decide⟩) (ci := 8) (q0 := 0) rfl (wMo_at0 cy a m0 m1 m2 m3 m4 m5 m6 m7 m8 m9 mb ms_3 md mp mf mi mo mw mn mk mt mq mz me) hK hSE hA hP hD hS rfl hl.1 rfl (Nat.le_of_ble_eq_true rfl) dX8_nextTaps_42 ⟨Nat.le_refl _, Nat.le_refl _⟩ (fun o4 hF H locs hP hD hS => ?_)
    refine lv_iconst (v := 1) hx hb dX8_nextTaps_45 (by decide) ?_
    refine lv_iadd hx hb dX8_nextTaps_46 ?_
    refine z_cVv (b := a 0) (As := [.int y2, .int 7, .int (o4 + 1)]) (rest := []) (wc := (wMo cy a m0 m1 m2 m3 m4 m5 m6 m7 m8 m9 mb ms_3 md mp mf mi mo mw mn mk mt mq mz me)) (wcf := fun o' => (wMo cy a m0 m1 m2 m3 m4 m5 m6 m7 m8 m9 mb o' md mp mf mi mo mw mn mk mt mq mz me)) (wf := fun o' => (wMo cy a m0 m1 m2 m3 m4 m5 m6 m7 m8 m9 mb o' md mp mf mi mo mw mn mk mt mq mz me)) hF (fun o' hz => c_X8_puts l G cy st a m0 m1 m2 m3 m4 m5 m6 m7 m8 m9 mb ms_3 md mp mf mi mo mw mn mk mt mq mz me y2 7 (o4 + 1) o' hz) (fun o' => zCut_all) ⟨hx, hb, hml, hown, hts⟩ (cwV 3 hts gX8_nextTaps_X8_puts rfl rfl rfl (by decide +kernel) ⟨by decide, by decide⟩) (ci := 8) (q0 := 0) rfl (wMo_at0 cy a m0 m1 m2 m3 m4 m5 m6 m7 m8 m9 mb ms_3 md mp mf mi mo mw mn mk mt mq mz me) hK hSE hA hP hD hS rfl hl.1 rfl (Nat.le_of_ble_eq_true rfl) dX8_nextTaps_47 ⟨Nat.le_refl _, Nat.le_refl _⟩ (fun o5 hF H locs hP hD hS => ?_)
    refine lv_iconst (v := 1) hx hb dX8_nextTaps_50 (by decide) ?_
    refine z_zret (o := o) (o1 := (1, o5)) (v := 1) (wf := (fun o => (wMo cy a m0 m1 m2 m3 m4 m5 m6 m7 m8 m9 mb o.2 md mp mf mi mo mw mn mk mt mq mz me))) (rf := fun o => o.1) hx hb hr hlocks hK ?_ ?_ hS ?_ rfl rfl dX8_nextTaps_51
    · exact hP
    · exact hD
    · exact hF
  have L9 : ∀ (n : Nat) (s9 : Int32 × (Nat → Int32)) (H : Heap) (locs : List Loc) (ls : Array Slot), va_P G vwCl (wMo cy a m0 m1 m2 m3 m4 m5 m6 m7 m8 m9 mb s9.2 md mp mf mi mo mw mn mk mt mq mz me) H → va_D A (wMo cy a m0 m1 m2 m3 m4 m5 m6 m7 m8 m9 mb s9.2 md mp mf mi mo mw mn mk mt mq mz me) → va_S A s.heap H locs → lv_has ls 2 [(0, .ref (a 0)), (1, .int s9.1)] → zloop (b_X8_nextTaps_9) n s9 = some o → W p l e (zR 2) s m ([.ref (a 0)] : List Value).toArray below meth c H locs 0 0 (MQ below (zQi G cy A (wMo cy a m0 m1 m2 m3 m4 m5 m6 m7 m8 m9 mb o.2 md mp mf mi mo mw mn mk mt mq mz me) o.1) ([.ref (a 0)] : List Value).toArray s 0 0 A) (F0 m 9 ls []) := by
    intro n
    induction n with
    | zero => exact fun s9 H locs ls _ _ _ _ hF => (zloop_0 hF).elim
    | succ n ih9 =>
      intro s9 H locs ls hP hD hS hl hF
      have hF : b_X8_nextTaps_9 (zloop (b_X8_nextTaps_9) n) s9 = some o := hF
      generalize zloop (b_X8_nextTaps_9) n = rc9 at ih9 hF
      unfold b_X8_nextTaps_9 at hF
      refine lv_iload_n hx hb dX8_nextTaps_9 rfl (lv_at hl 1 rfl) ?_
      refine zf_lt (tgt := 67) hx hb hF dX8_nextTaps_10 (by decide) (fun hF => ?_) (fun hF => ?_)
      · refine lv_iconst (v := 0) hx hb dX8_nextTaps_67 (by decide) ?_
        refine z_zret (o := o) (o1 := (0, s9.2)) (v := 0) (wf := (fun o => (wMo cy a m0 m1 m2 m3 m4 m5 m6 m7 m8 m9 mb o.2 md mp mf mi mo mw mn mk mt mq mz me))) (rf := fun o => o.1) hx hb hr hlocks hK ?_ ?_ hS ?_ rfl rfl dX8_nextTaps_68
        · exact hP
        · exact hD
        · exact hF
      · refine lv_aload_n hx hb dX8_nextTaps_13 rfl (lv_at hl 0 rfl) ?_
        refine lv_iload_n hx hb dX8_nextTaps_14 rfl (lv_at hl 1 rfl) ?_
        refine lv_bipush (v := 8) hx hb dX8_nextTaps_15 (by decide) ?_
        refine z_cVi (b := a 0) (As := [.int s9.1, .int 8]) (rest := []) (wc := (wMo cy a m0 m1 m2 m3 m4 m5 m6 m7 m8 m9 mb s9.2 md mp mf mi mo mw mn mk mt mq mz me)) (wcf := fun o' => (wMo cy a m0 m1 m2 m3 m4 m5 m6 m7 m8 m9 mb s9.2 md mp mf mi mo mw mn mk mt mq mz me)) (wf := fun o' => (wMo cy a m0 m1 m2 m3 m4 m5 m6 m7 m8 m9 mb s9.2 md mp mf mi mo mw mn mk mt mq mz me)) (rf := fun o' => o') hF (fun o' hz => c_X8_of l G cy st a m0 m1 m2 m3 m4 m5 m6 m7 m8 m9 mb s9.2 md mp mf mi mo mw mn mk mt mq mz me s9.1 8 o' hz) (fun o' => zCut_all) ⟨hx, hb, hml, hown, hts⟩ (cwV 2 hts gX8_nextTaps_X8_of rfl rfl rfl (by decide +kernel) ⟨by decide, by decide⟩) (ci := 8) (q0 := 0) rfl (wMo_at0 cy a m0 m1 m2 m3 m4 m5 m6 m7 m8 m9 mb s9.2 md mp mf mi mo mw mn mk mt mq mz me) hK hSE hA hP hD hS rfl hl.1 rfl (Nat.le_of_ble_eq_true rfl) dX8_nextTaps_17 ⟨Nat.le_refl _, Nat.le_refl _⟩ (fun o6 hF H locs hP hD hS => ?_)
        have J61 : ∀ (ms_7 : Nat → Int32) (H : Heap) (locs : List Loc) (ls : Array Slot), va_P G vwCl (wMo cy a m0 m1 m2 m3 m4 m5 m6 m7 m8 m9 mb ms_7 md mp mf mi mo mw mn mk mt mq mz me) H → va_D A (wMo cy a m0 m1 m2 m3 m4 m5 m6 m7 m8 m9 mb ms_7 md mp mf mi mo mw mn mk mt mq mz me) → va_S A s.heap H locs → lv_has ls 2 [(0, .ref (a 0)), (1, .int s9.1)] → j_X8_nextTaps_61 rc9 s9 ms_7 = some o → W p l e (zR 2) s m ([.ref (a 0)] : List Value).toArray below meth c H locs 0 0 (MQ below (zQi G cy A (wMo cy a m0 m1 m2 m3 m4 m5 m6 m7 m8 m9 mb o.2 md mp mf mi mo mw mn mk mt mq mz me) o.1) ([.ref (a 0)] : List Value).toArray s 0 0 A) (F0 m 61 ls []) := by
          intro ms_7 H locs ls hP hD hS hl hF
          unfold j_X8_nextTaps_61 at hF
          refine z_name hF (fun x8 ex8 hF => ?_)
          refine lv_iinc (v := x8) (lv' := [(1, .int x8), (0, .ref (a 0))]) hx hb dX8_nextTaps_61 hl (k := 1) rfl (by rw [ex8]; rfl) (by decide) rfl (fun ls hl => ?_)
          refine lv_goto (tgt := 9) hx hb dX8_nextTaps_64 (by decide) ?_
          exact ih9 (x8, ms_7) _ _ ls hP hD hS (lv_sub hl [1, 0] rfl) hF
        refine zf_ne (tgt := 61) hx hb hF dX8_nextTaps_20 (by decide) (fun hF => ?_) (fun hF => ?_)
        · exact J61 s9.2 _ _ ls hP hD hS (lv_sub hl [0, 1] rfl) hF
        · refine lv_aload_n hx hb dX8_nextTaps_23 rfl (lv_at hl 0 rfl) ?_
          refine lv_iload_n hx hb dX8_nextTaps_24 rfl (lv_at hl 1 rfl) ?_
          refine lv_bipush (v := 7) hx hb dX8_nextTaps_25 (by decide) ?_
          refine z_cVi (b := a 0) (As := [.int s9.1, .int 7]) (rest := []) (wc := (wMo cy a m0 m1 m2 m3 m4 m5 m6 m7 m8 m9 mb s9.2 md mp mf mi mo mw mn mk mt mq mz me)) (wcf := fun o' => (wMo cy a m0 m1 m2 m3 m4 m5 m6 m7 m8 m9 mb s9.2 md mp mf mi mo mw mn mk mt mq mz me)) (wf := fun o' => (wMo cy a m0 m1 m2 m3 m4 m5 m6 m7 m8 m9 mb s9.2 md mp mf mi mo mw mn mk mt mq mz me)) (rf := fun o' => o') hF (fun o' hz => c_X8_of l G cy st a m0 m1 m2 m3 m4 m5 m6 m7 m8 m9 mb s9.2 md mp mf mi mo mw mn mk mt mq mz me s9.1 7 o' hz) (fun o' => zCut_all) ⟨hx, hb, hml, hown, hts⟩ (cwV 2 hts gX8_nextTaps_X8_of rfl rfl rfl (by decide +kernel) ⟨by decide, by decide⟩) (ci := 8) (q0 := 0) rfl (wMo_at0 cy a m0 m1 m2 m3 m4 m5 m6 m7 m8 m9 mb s9.2 md mp mf mi mo mw mn mk mt mq mz me) hK hSE hA hP hD hS rfl hl.1 rfl (Nat.le_of_ble_eq_true rfl) dX8_nextTaps_27 ⟨Nat.le_refl _, Nat.le_refl _⟩ (fun o9 hF H locs hP hD hS => ?_)
          refine lv_iconst (v := 5) hx hb dX8_nextTaps_30 (by decide) ?_
          refine zi_ge (tgt := 52) hx hb hF dX8_nextTaps_31 (by decide) (fun hF => ?_) (fun hF => ?_)
          · refine lv_aload_n hx hb dX8_nextTaps_52 rfl (lv_at hl 0 rfl) ?_
            refine lv_iload_n hx hb dX8_nextTaps_53 rfl (lv_at hl 1 rfl) ?_
            refine lv_bipush (v := 7) hx hb dX8_nextTaps_54 (by decide) ?_
            refine lv_bipush (v := (-5)) hx hb dX8_nextTaps_56 (by decide) ?_
            refine z_cVv (b := a 0) (As := [.int s9.1, .int 7, .int (-5)]) (rest := []) (wc := (wMo cy a m0 m1 m2 m3 m4 m5 m6 m7 m8 m9 mb s9.2 md mp mf mi mo mw mn mk mt mq mz me)) (wcf := fun o' => (wMo cy a m0 m1 m2 m3 m4 m5 m6 m7 m8 m9 mb o' md mp mf mi mo mw mn mk mt mq mz me)) (wf := fun o' => (wMo cy a m0 m1 m2 m3 m4 m5 m6 m7 m8 m9 mb o' md mp mf mi mo mw mn mk mt mq mz me)) hF (fun o' hz => c_X8_puts l G cy st a m0 m1 m2 m3 m4 m5 m6 m7 m8 m9 mb s9.2 md mp mf mi mo mw mn mk mt mq mz me s9.1 7 (-5) o' hz) (fun o' => zCut_all) ⟨hx, hb, hml, hown, hts⟩ (cwV 3 hts gX8_nextTaps_X8_puts rfl rfl rfl (by decide +kernel) ⟨by decide, by decide⟩) (ci := 8) (q0 := 0) rfl (wMo_at0 cy a m0 m1 m2 m3 m4 m5 m6 m7 m8 m9 mb s9.2 md mp mf mi mo mw mn mk mt mq mz me) hK hSE hA hP hD hS rfl hl.1 rfl (Nat.le_of_ble_eq_true rfl) dX8_nextTaps_58 ⟨Nat.le_refl _, Nat.le_refl _⟩ (fun o10 hF H locs hP hD hS => ?_)
            exact J61 o10 _ _ ls hP hD hS (lv_sub hl [0, 1] rfl) hF
          · exact J34 s9.1 s9.2 _ _ ls hP hD hS (lv_sub hl [0, 1] rfl) hF
  exact L9 1000 (x1, ms) _ _ ls hP hD hS (lv_sub hl [1, 0] rfl) hF
def b_X8_findsBest_148 (mz_1 : Nat → Int32) (m_4 : Int32) (mf_6 : Nat → Int32) (mi_7 : Nat → Int32) (mo_8 : Nat → Int32) (mw_9 : Nat → Int32) (mn_10 : Nat → Int32) (me_11 : Nat → Int32) (rc148 : (Int32 × (Nat → Int32)) → Option (Int32 × (Nat → Int32) × (Nat → Int32) × (Nat → Int32) × (Nat → Int32) × (Nat → Int32) × (Nat → Int32) × (Nat → Int32) × (Nat → Int32))) (s148 : Int32 × (Nat → Int32)) : Option (Int32 × (Nat → Int32) × (Nat → Int32) × (Nat → Int32) × (Nat → Int32) × (Nat → Int32) × (Nat → Int32) × (Nat → Int32) × (Nat → Int32)) :=
if (114 : Int32) ≤ s148.1 then (
some (m_4, s148.2, mf_6, mi_7, mo_8, mw_9, mn_10, mz_1, me_11)) else (
zg (zin s148.1 114) (
zg (zin s148.1 114) (
zlet (upd s148.2 (zn s148.1) (mz_1 (zn s148.1))) fun ms_12 =>
zlet (s148.1 + 1) fun x13 =>
rc148 (x13, ms_12))))
def j_X8_findsBest_146 (mz_1 : Nat → Int32) (m_4 : Int32) (ms_5 : Nat → Int32) (mf_6 : Nat → Int32) (mi_7 : Nat → Int32) (mo_8 : Nat → Int32) (mw_9 : Nat → Int32) (mn_10 : Nat → Int32) (me_11 : Nat → Int32) : Option (Int32 × (Nat → Int32) × (Nat → Int32) × (Nat → Int32) × (Nat → Int32) × (Nat → Int32) × (Nat → Int32) × (Nat → Int32) × (Nat → Int32)) :=
zloop (b_X8_findsBest_148 mz_1 m_4 mf_6 mi_7 mo_8 mw_9 mn_10 me_11) 20000 (0, ms_5)
def j_X8_findsBest_138 (rc71 : (Int32 × Int32 × (Nat → Int32) × (Nat → Int32) × (Nat → Int32) × (Nat → Int32) × (Nat → Int32) × (Nat → Int32) × (Nat → Int32)) → Option (Int32 × (Nat → Int32) × (Nat → Int32) × (Nat → Int32) × (Nat → Int32) × (Nat → Int32) × (Nat → Int32) × (Nat → Int32) × (Nat → Int32))) (s71 : Int32 × Int32 × (Nat → Int32) × (Nat → Int32) × (Nat → Int32) × (Nat → Int32) × (Nat → Int32) × (Nat → Int32) × (Nat → Int32)) (mf_15 : Nat → Int32) (mi_16 : Nat → Int32) (mo_17 : Nat → Int32) (mw_18 : Nat → Int32) (mn_19 : Nat → Int32) (m_20 : Int32) (me_21 : Nat → Int32) : Option (Int32 × (Nat → Int32) × (Nat → Int32) × (Nat → Int32) × (Nat → Int32) × (Nat → Int32) × (Nat → Int32) × (Nat → Int32) × (Nat → Int32)) :=
zbd (f_X8_nextTaps s71.2.2.1) fun o22 =>
rc71 (o22.1, m_20, o22.2, mf_15, mi_16, mo_17, mw_18, mn_19, me_21)
def b_X8_findsBest_109 (rc71 : (Int32 × Int32 × (Nat → Int32) × (Nat → Int32) × (Nat → Int32) × (Nat → Int32) × (Nat → Int32) × (Nat → Int32) × (Nat → Int32)) → Option (Int32 × (Nat → Int32) × (Nat → Int32) × (Nat → Int32) × (Nat → Int32) × (Nat → Int32) × (Nat → Int32) × (Nat → Int32) × (Nat → Int32))) (s71 : Int32 × Int32 × (Nat → Int32) × (Nat → Int32) × (Nat → Int32) × (Nat → Int32) × (Nat → Int32) × (Nat → Int32) × (Nat → Int32)) (mf_15 : Nat → Int32) (mi_16 : Nat → Int32) (mo_17 : Nat → Int32) (mw_18 : Nat → Int32) (mn_19 : Nat → Int32) (m_24 : Int32) (rc109 : (Int32 × (Nat → Int32)) → Option (Int32 × (Nat → Int32) × (Nat → Int32) × (Nat → Int32) × (Nat → Int32) × (Nat → Int32) × (Nat → Int32) × (Nat → Int32) × (Nat → Int32))) (s109 : Int32 × (Nat → Int32)) : Option (Int32 × (Nat → Int32) × (Nat → Int32) × (Nat → Int32) × (Nat → Int32) × (Nat → Int32) × (Nat → Int32) × (Nat → Int32) × (Nat → Int32)) :=
zg (zin 0 114) (
if (s71.2.2.1 (zn 0)) ≤ s109.1 then (
j_X8_findsBest_138 rc71 s71 mf_15 mi_16 mo_17 mw_18 mn_19 m_24 s109.2) else (
zbd (f_X8_of s71.2.2.1 s109.1 7) fun o25 =>
zg (zin s109.1 4) (
zlet (upd s109.2 (zn s109.1) o25) fun me_26 =>
zlet (s109.1 + 1) fun x27 =>
rc109 (x27, me_26))))
def j_X8_findsBest_99 (rc71 : (Int32 × Int32 × (Nat → Int32) × (Nat → Int32) × (Nat → Int32) × (Nat → Int32) × (Nat → Int32) × (Nat → Int32) × (Nat → Int32)) → Option (Int32 × (Nat → Int32) × (Nat → Int32) × (Nat → Int32) × (Nat → Int32) × (Nat → Int32) × (Nat → Int32) × (Nat → Int32) × (Nat → Int32))) (s71 : Int32 × Int32 × (Nat → Int32) × (Nat → Int32) × (Nat → Int32) × (Nat → Int32) × (Nat → Int32) × (Nat → Int32) × (Nat → Int32)) (mf_15 : Nat → Int32) (mi_16 : Nat → Int32) (mo_17 : Nat → Int32) (mw_18 : Nat → Int32) (mn_19 : Nat → Int32) : Option (Int32 × (Nat → Int32) × (Nat → Int32) × (Nat → Int32) × (Nat → Int32) × (Nat → Int32) × (Nat → Int32) × (Nat → Int32) × (Nat → Int32)) :=
zbd (f_X8_offOf s71.2.2.1 mo_17) fun o23 =>
zlet o23 fun m_24 =>
zloop (b_X8_findsBest_109 rc71 s71 mf_15 mi_16 mo_17 mw_18 mn_19 m_24) 20000 (0, s71.2.2.2.2.2.2.2.2)
def b_X8_findsBest_71 (mz_1 : Nat → Int32) (rc71 : (Int32 × Int32 × (Nat → Int32) × (Nat → Int32) × (Nat → Int32) × (Nat → Int32) × (Nat → Int32) × (Nat → Int32) × (Nat → Int32)) → Option (Int32 × (Nat → Int32) × (Nat → Int32) × (Nat → Int32) × (Nat → Int32) × (Nat → Int32) × (Nat → Int32) × (Nat → Int32) × (Nat → Int32))) (s71 : Int32 × Int32 × (Nat → Int32) × (Nat → Int32) × (Nat → Int32) × (Nat → Int32) × (Nat → Int32) × (Nat → Int32) × (Nat → Int32)) : Option (Int32 × (Nat → Int32) × (Nat → Int32) × (Nat → Int32) × (Nat → Int32) × (Nat → Int32) × (Nat → Int32) × (Nat → Int32) × (Nat → Int32)) :=
if s71.1 = 0 then (
j_X8_findsBest_146 mz_1 s71.2.1 s71.2.2.1 s71.2.2.2.1 s71.2.2.2.2.1 s71.2.2.2.2.2.1 s71.2.2.2.2.2.2.1 s71.2.2.2.2.2.2.2.1 s71.2.2.2.2.2.2.2.2) else (
zbd (f_X8_lays s71.2.2.1 s71.2.2.2.1 s71.2.2.2.2.1 s71.2.2.2.2.2.1 s71.2.2.2.2.2.2.1 s71.2.2.2.2.2.2.2.1) fun o14 =>
zlet (o14.1) fun mf_15 =>
zlet (o14.2.1) fun mi_16 =>
zlet (o14.2.2.1) fun mo_17 =>
zlet (o14.2.2.2.1) fun mw_18 =>
zlet (o14.2.2.2.2) fun mn_19 =>
if s71.2.1 = (-4 : Int32) then (
j_X8_findsBest_99 rc71 s71 mf_15 mi_16 mo_17 mw_18 mn_19) else (
zbd (f_X8_offOf s71.2.2.1 mo_17) fun o28 =>
if s71.2.1 ≤ o28 then (
j_X8_findsBest_138 rc71 s71 mf_15 mi_16 mo_17 mw_18 mn_19 s71.2.1 s71.2.2.2.2.2.2.2.2) else (
j_X8_findsBest_99 rc71 s71 mf_15 mi_16 mo_17 mw_18 mn_19)))
def j_X8_findsBest_63 (mf : Nat → Int32) (mi : Nat → Int32) (mo : Nat → Int32) (mw : Nat → Int32) (mn : Nat → Int32) (me : Nat → Int32) (mz_1 : Nat → Int32) (ms_2 : Nat → Int32) : Option (Int32 × (Nat → Int32) × (Nat → Int32) × (Nat → Int32) × (Nat → Int32) × (Nat → Int32) × (Nat → Int32) × (Nat → Int32) × (Nat → Int32)) :=
zlet (-4) fun m_3 =>
zloop (b_X8_findsBest_71 mz_1) 20000 (1, m_3, ms_2, mf, mi, mo, mw, mn, me)
def j_X8_findsBest_57 (rc28 : (Int32 × (Nat → Int32)) → Option (Int32 × (Nat → Int32) × (Nat → Int32) × (Nat → Int32) × (Nat → Int32) × (Nat → Int32) × (Nat → Int32) × (Nat → Int32) × (Nat → Int32))) (s28 : Int32 × (Nat → Int32)) (ms_30 : Nat → Int32) : Option (Int32 × (Nat → Int32) × (Nat → Int32) × (Nat → Int32) × (Nat → Int32) × (Nat → Int32) × (Nat → Int32) × (Nat → Int32) × (Nat → Int32)) :=
zlet (s28.1 + 1) fun x31 =>
rc28 (x31, ms_30)
def b_X8_findsBest_28 (mf : Nat → Int32) (mi : Nat → Int32) (mo : Nat → Int32) (mw : Nat → Int32) (mn : Nat → Int32) (me : Nat → Int32) (mz_1 : Nat → Int32) (rc28 : (Int32 × (Nat → Int32)) → Option (Int32 × (Nat → Int32) × (Nat → Int32) × (Nat → Int32) × (Nat → Int32) × (Nat → Int32) × (Nat → Int32) × (Nat → Int32) × (Nat → Int32))) (s28 : Int32 × (Nat → Int32)) : Option (Int32 × (Nat → Int32) × (Nat → Int32) × (Nat → Int32) × (Nat → Int32) × (Nat → Int32) × (Nat → Int32) × (Nat → Int32) × (Nat → Int32)) :=
zg (zin 0 114) (
if (s28.2 (zn 0)) ≤ s28.1 then (
j_X8_findsBest_63 mf mi mo mw mn me mz_1 s28.2) else (
zbd (f_X8_of s28.2 s28.1 8) fun o29 =>
if o29 = 0 then (
zbd (f_X8_puts s28.2 s28.1 7 (-5)) fun o32 =>
j_X8_findsBest_57 rc28 s28 o32) else (
j_X8_findsBest_57 rc28 s28 s28.2)))
def j_X8_findsBest_26 (ms : Nat → Int32) (mf : Nat → Int32) (mi : Nat → Int32) (mo : Nat → Int32) (mw : Nat → Int32) (mn : Nat → Int32) (me : Nat → Int32) (mz_1 : Nat → Int32) : Option (Int32 × (Nat → Int32) × (Nat → Int32) × (Nat → Int32) × (Nat → Int32) × (Nat → Int32) × (Nat → Int32) × (Nat → Int32) × (Nat → Int32)) :=
zloop (b_X8_findsBest_28 mf mi mo mw mn me mz_1) 20000 (0, ms)
def b_X8_findsBest_2 (ms : Nat → Int32) (mf : Nat → Int32) (mi : Nat → Int32) (mo : Nat → Int32) (mw : Nat → Int32) (mn : Nat → Int32) (me : Nat → Int32) (rc2 : (Int32 × (Nat → Int32)) → Option (Int32 × (Nat → Int32) × (Nat → Int32) × (Nat → Int32) × (Nat → Int32) × (Nat → Int32) × (Nat → Int32) × (Nat → Int32) × (Nat → Int32))) (s2 : Int32 × (Nat → Int32)) : Option (Int32 × (Nat → Int32) × (Nat → Int32) × (Nat → Int32) × (Nat → Int32) × (Nat → Int32) × (Nat → Int32) × (Nat → Int32) × (Nat → Int32)) :=
if (114 : Int32) ≤ s2.1 then (
j_X8_findsBest_26 ms mf mi mo mw mn me s2.2) else (
zg (zin s2.1 114) (
zg (zin s2.1 114) (
zlet (upd s2.2 (zn s2.1) (ms (zn s2.1))) fun mz_33 =>
zlet (s2.1 + 1) fun x34 =>
rc2 (x34, mz_33))))
def f_X8_findsBest (ms : Nat → Int32) (mf : Nat → Int32) (mi : Nat → Int32) (mo : Nat → Int32) (mw : Nat → Int32) (mn : Nat → Int32) (mz : Nat → Int32) (me : Nat → Int32) : Option (Int32 × (Nat → Int32) × (Nat → Int32) × (Nat → Int32) × (Nat → Int32) × (Nat → Int32) × (Nat → Int32) × (Nat → Int32) × (Nat → Int32)) :=
zloop (b_X8_findsBest_2 ms mf mi mo mw mn me) 20000 (0, mz)
set_option maxHeartbeats 4000000 in
set_option maxRecDepth 100000 in
theorem c_X8_findsBest (l : Launch) (G : va_G) (cy : Nat → ClassId) (st : Nat → Nat) (a : Nat → Nat) (m0 : Int32) (m1 : Int32) (m2 : Int32) (m3 : Int32) (m4 : Int32) (m5 : Int32) (m6 : Int32) (m7 : Int32) (m8 : Int32) (m9 : Int32) (mb : Nat → Int32) (ms : Nat → Int32) (md : Nat → Int32) (mp : Nat → Int32) (mf : Nat → Int32) (mi : Nat → Int32) (mo : Nat → Int32) (mw : Nat → Int32) (mn : Nat → Int32) (mk : Nat → Int32) (mt : Nat → Int64) (mq : Nat → Int32) (mz : Nat → Int32) (me : Nat → Int32) (o : Int32 × (Nat → Int32) × (Nat → Int32) × (Nat → Int32) × (Nat → Int32) × (Nat → Int32) × (Nat → Int32) × (Nat → Int32) × (Nat → Int32)) (hF : f_X8_findsBest ms mf mi mo mw mn mz me = some o) : zMv l yX8_findsBest wsX8_findsBest (zR 4) G cy st [.ref (a 0)] (wMo cy a m0 m1 m2 m3 m4 m5 m6 m7 m8 m9 mb ms md mp mf mi mo mw mn mk mt mq mz me) (wMo cy a m0 m1 m2 m3 m4 m5 m6 m7 m8 o.1 mb o.2.1 md mp o.2.2.1 o.2.2.2.1 o.2.2.2.2.1 o.2.2.2.2.2.1 o.2.2.2.2.2.2.1 mk mt mq o.2.2.2.2.2.2.2.1 o.2.2.2.2.2.2.2.2) := by
  refine zM_of (cc := cX8_findsBest) (maxL := 3) (ret := none) (Qc := fun A => zQv G cy A (wMo cy a m0 m1 m2 m3 m4 m5 m6 m7 m8 o.1 mb o.2.1 md mp o.2.2.1 o.2.2.2.1 o.2.2.2.2.1 o.2.2.2.2.2.1 o.2.2.2.2.2.2.1 mk mt mq o.2.2.2.2.2.2.2.1 o.2.2.2.2.2.2.2.2)) (by decide) rfl (Nat.le_of_ble_eq_true rfl) ?_
  intro p e s m below meth c A ls hx hb hml hr hlocks hown hts hK hSE hA hP hD hS hl
  have hown : s.vm.findClass RX8 = some m.cls := hown
  have hl : lv_has ls 3 [(0, .ref (a 0))] := hl
  have k168 := hts (.fieldLink RX8 168 "TapCascadeModel" "bestOff" "I") (by decide +kernel)
  have iX8 : ∀ w ∈ wsX80, w ∈ wsX8_findsBest := fun w h => List.mem_cons_of_mem _ (List.mem_append_right _ h)
  have k13 := hts (.fieldLink RX8 13 "TapCascadeModel" "s" "[I") (by decide +kernel)
  have k49 := hts (.fieldLink RX8 49 "TapCascadeModel" "spare" "[I") (by decide +kernel)
  have k52 := hts (.fieldLink RX8 52 "TapCascadeModel" "bestTap" "[I") (by decide +kernel)
  unfold f_X8_findsBest at hF
  refine lv_iconst (v := 0) hx hb dX8_findsBest_0 (by decide) ?_
  refine lv_istore_n (lv' := [(1, .int 0), (0, .ref (a 0))]) hx hb dX8_findsBest_1 rfl hl (by decide) rfl (fun ls hl => ?_)
  have J26 : ∀ (mz_1 : Nat → Int32) (H : Heap) (locs : List Loc) (ls : Array Slot), va_P G vwCl (wMo cy a m0 m1 m2 m3 m4 m5 m6 m7 m8 m9 mb ms md mp mf mi mo mw mn mk mt mq mz_1 me) H → va_D A (wMo cy a m0 m1 m2 m3 m4 m5 m6 m7 m8 m9 mb ms md mp mf mi mo mw mn mk mt mq mz_1 me) → va_S A s.heap H locs → lv_has ls 3 [(0, .ref (a 0))] → j_X8_findsBest_26 ms mf mi mo mw mn me mz_1 = some o → W p l e (zR 4) s m ([.ref (a 0)] : List Value).toArray below meth c H locs 0 0 (MQ below (zQv G cy A (wMo cy a m0 m1 m2 m3 m4 m5 m6 m7 m8 o.1 mb o.2.1 md mp o.2.2.1 o.2.2.2.1 o.2.2.2.2.1 o.2.2.2.2.2.1 o.2.2.2.2.2.2.1 mk mt mq o.2.2.2.2.2.2.2.1 o.2.2.2.2.2.2.2.2)) ([.ref (a 0)] : List Value).toArray s 0 0 A) (F0 m 26 ls []) := by
    intro mz_1 H locs ls hP hD hS hl hF
    unfold j_X8_findsBest_26 at hF
    refine lv_iconst (v := 0) hx hb dX8_findsBest_26 (by decide) ?_
    refine lv_istore_n (lv' := [(1, .int 0), (0, .ref (a 0))]) hx hb dX8_findsBest_27 rfl hl (by decide) rfl (fun ls hl => ?_)
    have J63 : ∀ (ms_2 : Nat → Int32) (H : Heap) (locs : List Loc) (ls : Array Slot), va_P G vwCl (wMo cy a m0 m1 m2 m3 m4 m5 m6 m7 m8 m9 mb ms_2 md mp mf mi mo mw mn mk mt mq mz_1 me) H → va_D A (wMo cy a m0 m1 m2 m3 m4 m5 m6 m7 m8 m9 mb ms_2 md mp mf mi mo mw mn mk mt mq mz_1 me) → va_S A s.heap H locs → lv_has ls 3 [(0, .ref (a 0))] → j_X8_findsBest_63 mf mi mo mw mn me mz_1 ms_2 = some o → W p l e (zR 4) s m ([.ref (a 0)] : List Value).toArray below meth c H locs 0 0 (MQ below (zQv G cy A (wMo cy a m0 m1 m2 m3 m4 m5 m6 m7 m8 o.1 mb o.2.1 md mp o.2.2.1 o.2.2.2.1 o.2.2.2.2.1 o.2.2.2.2.2.1 o.2.2.2.2.2.2.1 mk mt mq o.2.2.2.2.2.2.2.1 o.2.2.2.2.2.2.2.2)) ([.ref (a 0)] : List Value).toArray s 0 0 A) (F0 m 63 ls []) := by
      intro ms_2 H locs ls hP hD hS hl hF
      unfold j_X8_findsBest_63 at hF
      refine lv_aload_n hx hb dX8_findsBest_63 rfl (lv_at hl 0 rfl) ?_
      refine lv_bipush (v := (-4)) hx hb dX8_findsBest_64 (by decide) ?_
      refine z_puti (ci := 8) (C := RX8) (T := TX8) (N := 24) (fs := (zMo a m0 m1 m2 m3 m4 m5 m6 m7 m8 m9)) (x := (-4)) (wf := (fun y => (wMo cy a m0 m1 m2 m3 m4 m5 m6 m7 m8 y mb ms_2 md mp mf mi mo mw mn mk mt mq mz_1 me))) hx hb hts iX8 tyX8 tyX8_ok nmX8 hown hK hP hD hS _ 23 (wMo_foc0_23 cy a m0 m1 m2 m3 m4 m5 m6 m7 m8 m9 mb ms_2 md mp mf mi mo mw mn mk mt mq mz_1 me (-4)) rfl (by decide) k168 (fun _ h9 => h9) rfl (by decide +kernel) (Nat.le_of_ble_eq_true rfl) hF dX8_findsBest_66 (fun m_3 hF H locs hP hD hS => ?_)
      refine lv_iconst (v := 1) hx hb dX8_findsBest_69 (by decide) ?_
      refine lv_istore_n (lv' := [(1, .int 1), (0, .ref (a 0))]) hx hb dX8_findsBest_70 rfl hl (by decide) rfl (fun ls hl => ?_)
      have J146 : ∀ (m_4 : Int32) (ms_5 : Nat → Int32) (mf_6 : Nat → Int32) (mi_7 : Nat → Int32) (mo_8 : Nat → Int32) (mw_9 : Nat → Int32) (mn_10 : Nat → Int32) (me_11 : Nat → Int32) (H : Heap) (locs : List Loc) (ls : Array Slot), va_P G vwCl (wMo cy a m0 m1 m2 m3 m4 m5 m6 m7 m8 m_4 mb ms_5 md mp mf_6 mi_7 mo_8 mw_9 mn_10 mk mt mq mz_1 me_11) H → va_D A (wMo cy a m0 m1 m2 m3 m4 m5 m6 m7 m8 m_4 mb ms_5 md mp mf_6 mi_7 mo_8 mw_9 mn_10 mk mt mq mz_1 me_11) → va_S A s.heap H locs → lv_has ls 3 [(0, .ref (a 0))] → j_X8_findsBest_146 mz_1 m_4 ms_5 mf_6 mi_7 mo_8 mw_9 mn_10 me_11 = some o → W p l e (zR 4) s m ([.ref (a 0)] : List Value).toArray below meth c H locs 0 0 (MQ below (zQv G cy A (wMo cy a m0 m1 m2 m3 m4 m5 m6 m7 m8 o.1 mb o.2.1 md mp o.2.2.1 o.2.2.2.1 o.2.2.2.2.1 o.2.2.2.2.2.1 o.2.2.2.2.2.2.1 mk mt mq o.2.2.2.2.2.2.2.1 o.2.2.2.2.2.2.2.2)) ([.ref (a 0)] : List Value).toArray s 0 0 A) (F0 m 146 ls []) := by
        intro m_4 ms_5 mf_6 mi_7 mo_8 mw_9 mn_10 me_11 H locs ls hP hD hS hl hF
        unfold j_X8_findsBest_146 at hF
        refine lv_iconst (v := 0) hx hb dX8_findsBest_146 (by decide) ?_
        refine lv_istore_n (lv' := [(2, .int 0), (0, .ref (a 0))]) hx hb dX8_findsBest_147 rfl hl (by decide) rfl (fun ls hl => ?_)
        have L148 : ∀ (n : Nat) (s148 : Int32 × (Nat → Int32)) (H : Heap) (locs : List Loc) (ls : Array Slot), va_P G vwCl (wMo cy a m0 m1 m2 m3 m4 m5 m6 m7 m8 m_4 mb s148.2 md mp mf_6 mi_7 mo_8 mw_9 mn_10 mk mt mq mz_1 me_11) H → va_D A (wMo cy a m0 m1 m2 m3 m4 m5 m6 m7 m8 m_4 mb s148.2 md mp mf_6 mi_7 mo_8 mw_9 mn_10 mk mt mq mz_1 me_11) → va_S A s.heap H locs → lv_has ls 3 [(0, .ref (a 0)), (2, .int s148.1)] → zloop (b_X8_findsBest_148 mz_1 m_4 mf_6 mi_7 mo_8 mw_9 mn_10 me_11) n s148 = some o → W p l e (zR 4) s m ([.ref (a 0)] : List Value).toArray below meth c H locs 0 0 (MQ below (zQv G cy A (wMo cy a m0 m1 m2 m3 m4 m5 m6 m7 m8 o.1 mb o.2.1 md mp o.2.2.1 o.2.2.2.1 o.2.2.2.2.1 o.2.2.2.2.2.1 o.2.2.2.2.2.2.1 mk mt mq o.2.2.2.2.2.2.2.1 o.2.2.2.2.2.2.2.2)) ([.ref (a 0)] : List Value).toArray s 0 0 A) (F0 m 148 ls []) := by
          intro n
          induction n with
          | zero => exact fun s148 H locs ls _ _ _ _ hF => (zloop_0 hF).elim
          | succ n ih148 =>
            intro s148 H locs ls hP hD hS hl hF
            have hF : b_X8_findsBest_148 mz_1 m_4 mf_6 mi_7 mo_8 mw_9 mn_10 me_11 (zloop (b_X8_findsBest_148 mz_1 m_4 mf_6 mi_7 mo_8 mw_9 mn_10 me_11) n) s148 = some o := hF
            generalize zloop (b_X8_findsBest_148 mz_1 m_4 mf_6 mi_7 mo_8 mw_9 mn_10 me_11) n = rc148 at ih148 hF
            unfold b_X8_findsBest_148 at hF
            refine lv_iload_n hx hb dX8_findsBest_148 rfl (lv_at hl 1 rfl) ?_
            refine lv_bipush (v := 114) hx hb dX8_findsBest_149 (by decide) ?_
            refine zi_ge (tgt := 172) hx hb hF dX8_findsBest_151 (by decide) (fun hF => ?_) (fun hF => ?_)
            · refine z_vret (o := o) (o1 := (m_4, s148.2, mf_6, mi_7, mo_8, mw_9, mn_10, mz_1, me_11)) (wf := (fun o => (wMo cy a m0 m1 m2 m3 m4 m5 m6 m7 m8 o.1 mb o.2.1 md mp o.2.2.1 o.2.2.2.1 o.2.2.2.2.1 o.2.2.2.2.2.1 o.2.2.2.2.2.2.1 mk mt mq o.2.2.2.2.2.2.2.1 o.2.2.2.2.2.2.2.2))) hx hb hr hlocks hK ?_ ?_ hS ?_ dX8_findsBest_172
              · exact hP
              · exact hD
              · exact hF
            · refine lv_aload_n hx hb dX8_findsBest_154 rfl (lv_at hl 0 rfl) ?_
              refine va_get (ci := 8) (C := RX8) (T := TX8) (N := 24) (fs := (zMo a m0 m1 m2 m3 m4 m5 m6 m7 m8 m_4)) (v := .ref (a 2)) hx hb hts iX8 hown hK hP _ (wMo_at0 cy a m0 m1 m2 m3 m4 m5 m6 m7 m8 m_4 mb s148.2 md mp mf_6 mi_7 mo_8 mw_9 mn_10 mk mt mq mz_1 me_11) rfl 3 (by decide) k13 (fun _ h9 => h9) rfl dX8_findsBest_155 ?_
              refine lv_iload_n hx hb dX8_findsBest_158 rfl (lv_at hl 1 rfl) ?_
              refine lv_aload_n hx hb dX8_findsBest_159 rfl (lv_at hl 0 rfl) ?_
              refine va_get (ci := 8) (C := RX8) (T := TX8) (N := 24) (fs := (zMo a m0 m1 m2 m3 m4 m5 m6 m7 m8 m_4)) (v := .ref (a 13)) hx hb hts iX8 hown hK hP _ (wMo_at0 cy a m0 m1 m2 m3 m4 m5 m6 m7 m8 m_4 mb s148.2 md mp mf_6 mi_7 mo_8 mw_9 mn_10 mk mt mq mz_1 me_11) rfl 17 (by decide) k49 (fun _ h9 => h9) rfl dX8_findsBest_160 ?_
              refine lv_iload_n hx hb dX8_findsBest_163 rfl (lv_at hl 1 rfl) ?_
              refine z_iald (n := 114) (f := mz_1) hx hb hK hP _ 1 (wMo_at13 cy a m0 m1 m2 m3 m4 m5 m6 m7 m8 m_4 mb s148.2 md mp mf_6 mi_7 mo_8 mw_9 mn_10 mk mt mq mz_1 me_11) rfl hF dX8_findsBest_164 (fun hF => ?_)
              refine z_iast (n := 114) (f := s148.2) (i := s148.1) (x := (mz_1 (zn s148.1))) (wf := (fun y => (wMo cy a m0 m1 m2 m3 m4 m5 m6 m7 m8 m_4 mb y md mp mf_6 mi_7 mo_8 mw_9 mn_10 mk mt mq mz_1 me_11))) hx hb hK hP hD hS _ 1 (wMo_foc2 cy a m0 m1 m2 m3 m4 m5 m6 m7 m8 m_4 mb s148.2 md mp mf_6 mi_7 mo_8 mw_9 mn_10 mk mt mq mz_1 me_11 _) rfl hF dX8_findsBest_165 (fun ms_12 hF H locs hP hD hS => ?_)
              refine z_name hF (fun x13 ex13 hF => ?_)
              refine lv_iinc (v := x13) (lv' := [(2, .int x13), (0, .ref (a 0))]) hx hb dX8_findsBest_166 hl (k := 1) rfl (by rw [ex13]; rfl) (by decide) rfl (fun ls hl => ?_)
              refine lv_goto (tgt := 148) hx hb dX8_findsBest_169 (by decide) ?_
              exact ih148 (x13, ms_12) _ _ ls hP hD hS (lv_sub hl [1, 0] rfl) hF
        exact L148 20000 (0, ms_5) _ _ ls hP hD hS (lv_sub hl [1, 0] rfl) hF
      have L71 : ∀ (n : Nat) (s71 : Int32 × Int32 × (Nat → Int32) × (Nat → Int32) × (Nat → Int32) × (Nat → Int32) × (Nat → Int32) × (Nat → Int32) × (Nat → Int32)) (H : Heap) (locs : List Loc) (ls : Array Slot), va_P G vwCl (wMo cy a m0 m1 m2 m3 m4 m5 m6 m7 m8 s71.2.1 mb s71.2.2.1 md mp s71.2.2.2.1 s71.2.2.2.2.1 s71.2.2.2.2.2.1 s71.2.2.2.2.2.2.1 s71.2.2.2.2.2.2.2.1 mk mt mq mz_1 s71.2.2.2.2.2.2.2.2) H → va_D A (wMo cy a m0 m1 m2 m3 m4 m5 m6 m7 m8 s71.2.1 mb s71.2.2.1 md mp s71.2.2.2.1 s71.2.2.2.2.1 s71.2.2.2.2.2.1 s71.2.2.2.2.2.2.1 s71.2.2.2.2.2.2.2.1 mk mt mq mz_1 s71.2.2.2.2.2.2.2.2) → va_S A s.heap H locs → lv_has ls 3 [(0, .ref (a 0)), (1, .int s71.1)] → zloop (b_X8_findsBest_71 mz_1) n s71 = some o → W p l e (zR 4) s m ([.ref (a 0)] : List Value).toArray below meth c H locs 0 0 (MQ below (zQv G cy A (wMo cy a m0 m1 m2 m3 m4 m5 m6 m7 m8 o.1 mb o.2.1 md mp o.2.2.1 o.2.2.2.1 o.2.2.2.2.1 o.2.2.2.2.2.1 o.2.2.2.2.2.2.1 mk mt mq o.2.2.2.2.2.2.2.1 o.2.2.2.2.2.2.2.2)) ([.ref (a 0)] : List Value).toArray s 0 0 A) (F0 m 71 ls []) := by
        intro n
        induction n with
        | zero => exact fun s71 H locs ls _ _ _ _ hF => (zloop_0 hF).elim
        | succ n ih71 =>
          intro s71 H locs ls hP hD hS hl hF
          have hF : b_X8_findsBest_71 mz_1 (zloop (b_X8_findsBest_71 mz_1) n) s71 = some o := hF
          generalize zloop (b_X8_findsBest_71 mz_1) n = rc71 at ih71 hF
          unfold b_X8_findsBest_71 at hF
          refine lv_iload_n hx hb dX8_findsBest_71 rfl (lv_at hl 1 rfl) ?_
          refine zf_eq (tgt := 146) hx hb hF dX8_findsBest_72 (by decide) (fun hF => ?_) (fun hF => ?_)
          · exact J146 s71.2.1 s71.2.2.1 s71.2.2.2.1 s71.2.2.2.2.1 s71.2.2.2.2.2.1 s71.2.2.2.2.2.2.1 s71.2.2.2.2.2.2.2.1 s71.2.2.2.2.2.2.2.2 _ _ ls hP hD hS (lv_sub hl [0] rfl) hF
          · refine lv_aload_n hx hb dX8_findsBest_75 rfl (lv_at hl 0 rfl) ?_
            refine z_cVv (b := a 0) (As := []) (rest := []) (wc := (wMo cy a m0 m1 m2 m3 m4 m5 m6 m7 m8 s71.2.1 mb s71.2.2.1 md mp s71.2.2.2.1 s71.2.2.2.2.1 s71.2.2.2.2.2.1 s71.2.2.2.2.2.2.1 s71.2.2.2.2.2.2.2.1 mk mt mq mz_1 s71.2.2.2.2.2.2.2.2)) (wcf := fun o' => (wMo cy a m0 m1 m2 m3 m4 m5 m6 m7 m8 s71.2.1 mb s71.2.2.1 md mp o'.1 o'.2.1 o'.2.2.1 o'.2.2.2.1 o'.2.2.2.2 mk mt mq mz_1 s71.2.2.2.2.2.2.2.2)) (wf := fun o' => (wMo cy a m0 m1 m2 m3 m4 m5 m6 m7 m8 s71.2.1 mb s71.2.2.1 md mp o'.1 o'.2.1 o'.2.2.1 o'.2.2.2.1 o'.2.2.2.2 mk mt mq mz_1 s71.2.2.2.2.2.2.2.2)) hF (fun o' hz => c_X8_lays l G cy st a m0 m1 m2 m3 m4 m5 m6 m7 m8 s71.2.1 mb s71.2.2.1 md mp s71.2.2.2.1 s71.2.2.2.2.1 s71.2.2.2.2.2.1 s71.2.2.2.2.2.2.1 s71.2.2.2.2.2.2.2.1 mk mt mq mz_1 s71.2.2.2.2.2.2.2.2 o' hz) (fun o' => zCut_all) ⟨hx, hb, hml, hown, hts⟩ (cwV 0 hts gX8_findsBest_X8_lays rfl rfl rfl (by decide +kernel) ⟨by decide, by decide⟩) (ci := 8) (q0 := 0) rfl (wMo_at0 cy a m0 m1 m2 m3 m4 m5 m6 m7 m8 s71.2.1 mb s71.2.2.1 md mp s71.2.2.2.1 s71.2.2.2.2.1 s71.2.2.2.2.2.1 s71.2.2.2.2.2.2.1 s71.2.2.2.2.2.2.2.1 mk mt mq mz_1 s71.2.2.2.2.2.2.2.2) hK hSE hA hP hD hS rfl hl.1 rfl (Nat.le_of_ble_eq_true rfl) dX8_findsBest_76 ⟨Nat.le_refl _, Nat.le_refl _⟩ (fun o14 hF H locs hP hD hS => ?_)
            refine z_nameW (wf := (fun y => (wMo cy a m0 m1 m2 m3 m4 m5 m6 m7 m8 s71.2.1 mb s71.2.2.1 md mp y o14.2.1 o14.2.2.1 o14.2.2.2.1 o14.2.2.2.2 mk mt mq mz_1 s71.2.2.2.2.2.2.2.2))) hF hP hD (fun mf_15 hF hP hD => ?_)
            refine z_nameW (wf := (fun y => (wMo cy a m0 m1 m2 m3 m4 m5 m6 m7 m8 s71.2.1 mb s71.2.2.1 md mp mf_15 y o14.2.2.1 o14.2.2.2.1 o14.2.2.2.2 mk mt mq mz_1 s71.2.2.2.2.2.2.2.2))) hF hP hD (fun mi_16 hF hP hD => ?_)
            refine z_nameW (wf := (fun y => (wMo cy a m0 m1 m2 m3 m4 m5 m6 m7 m8 s71.2.1 mb s71.2.2.1 md mp mf_15 mi_16 y o14.2.2.2.1 o14.2.2.2.2 mk mt mq mz_1 s71.2.2.2.2.2.2.2.2))) hF hP hD (fun mo_17 hF hP hD => ?_)
            refine z_nameW (wf := (fun y => (wMo cy a m0 m1 m2 m3 m4 m5 m6 m7 m8 s71.2.1 mb s71.2.2.1 md mp mf_15 mi_16 mo_17 y o14.2.2.2.2 mk mt mq mz_1 s71.2.2.2.2.2.2.2.2))) hF hP hD (fun mw_18 hF hP hD => ?_)
            refine z_nameW (wf := (fun y => (wMo cy a m0 m1 m2 m3 m4 m5 m6 m7 m8 s71.2.1 mb s71.2.2.1 md mp mf_15 mi_16 mo_17 mw_18 y mk mt mq mz_1 s71.2.2.2.2.2.2.2.2))) hF hP hD (fun mn_19 hF hP hD => ?_)
            refine lv_aload_n hx hb dX8_findsBest_79 rfl (lv_at hl 0 rfl) ?_
            refine va_get (ci := 8) (C := RX8) (T := TX8) (N := 24) (fs := (zMo a m0 m1 m2 m3 m4 m5 m6 m7 m8 s71.2.1)) (v := .int s71.2.1) hx hb hts iX8 hown hK hP _ (wMo_at0 cy a m0 m1 m2 m3 m4 m5 m6 m7 m8 s71.2.1 mb s71.2.2.1 md mp mf_15 mi_16 mo_17 mw_18 mn_19 mk mt mq mz_1 s71.2.2.2.2.2.2.2.2) rfl 23 (by decide) k168 (fun _ h9 => h9) rfl dX8_findsBest_80 ?_
            refine lv_bipush (v := (-4)) hx hb dX8_findsBest_83 (by decide) ?_
            have J138 : ∀ (m_20 : Int32) (me_21 : Nat → Int32) (H : Heap) (locs : List Loc) (ls : Array Slot), va_P G vwCl (wMo cy a m0 m1 m2 m3 m4 m5 m6 m7 m8 m_20 mb s71.2.2.1 md mp mf_15 mi_16 mo_17 mw_18 mn_19 mk mt mq mz_1 me_21) H → va_D A (wMo cy a m0 m1 m2 m3 m4 m5 m6 m7 m8 m_20 mb s71.2.2.1 md mp mf_15 mi_16 mo_17 mw_18 mn_19 mk mt mq mz_1 me_21) → va_S A s.heap H locs → lv_has ls 3 [(0, .ref (a 0))] → j_X8_findsBest_138 rc71 s71 mf_15 mi_16 mo_17 mw_18 mn_19 m_20 me_21 = some o → W p l e (zR 4) s m ([.ref (a 0)] : List Value).toArray below meth c H locs 0 0 (MQ below (zQv G cy A (wMo cy a m0 m1 m2 m3 m4 m5 m6 m7 m8 o.1 mb o.2.1 md mp o.2.2.1 o.2.2.2.1 o.2.2.2.2.1 o.2.2.2.2.2.1 o.2.2.2.2.2.2.1 mk mt mq o.2.2.2.2.2.2.2.1 o.2.2.2.2.2.2.2.2)) ([.ref (a 0)] : List Value).toArray s 0 0 A) (F0 m 138 ls []) := by
              intro m_20 me_21 H locs ls hP hD hS hl hF
              unfold j_X8_findsBest_138 at hF
              refine lv_aload_n hx hb dX8_findsBest_138 rfl (lv_at hl 0 rfl) ?_
              refine z_cVi (b := a 0) (As := []) (rest := []) (wc := (wMo cy a m0 m1 m2 m3 m4 m5 m6 m7 m8 m_20 mb s71.2.2.1 md mp mf_15 mi_16 mo_17 mw_18 mn_19 mk mt mq mz_1 me_21)) (wcf := fun o' => (wMo cy a m0 m1 m2 m3 m4 m5 m6 m7 m8 m_20 mb o'.2 md mp mf_15 mi_16 mo_17 mw_18 mn_19 mk mt mq mz_1 me_21)) (wf := fun o' => (wMo cy a m0 m1 m2 m3 m4 m5 m6 m7 m8 m_20 mb o'.2 md mp mf_15 mi_16 mo_17 mw_18 mn_19 mk mt mq mz_1 me_21)) (rf := fun o' => o'.1) hF (fun o' hz => c_X8_nextTaps l G cy st a m0 m1 m2 m3 m4 m5 m6 m7 m8 m_20 mb s71.2.2.1 md mp mf_15 mi_16 mo_17 mw_18 mn_19 mk mt mq mz_1 me_21 o' hz) (fun o' => zCut_all) ⟨hx, hb, hml, hown, hts⟩ (cwV 0 hts gX8_findsBest_X8_nextTaps rfl rfl rfl (by decide +kernel) ⟨by decide, by decide⟩) (ci := 8) (q0 := 0) rfl (wMo_at0 cy a m0 m1 m2 m3 m4 m5 m6 m7 m8 m_20 mb s71.2.2.1 md mp mf_15 mi_16 mo_17 mw_18 mn_19 mk mt mq mz_1 me_21) hK hSE hA hP hD hS rfl hl.1 rfl (Nat.le_of_ble_eq_true rfl) dX8_findsBest_139 ⟨Nat.le_refl _, Nat.le_refl _⟩ (fun o22 hF H locs hP hD hS => ?_)
              refine lv_istore_n (lv' := [(1, .int o22.1), (0, .ref (a 0))]) hx hb dX8_findsBest_142 rfl hl (by decide) rfl (fun ls hl => ?_)
              refine lv_goto (tgt := 71) hx hb dX8_findsBest_143 (by decide) ?_
              exact ih71 (o22.1, m_20, o22.2, mf_15, mi_16, mo_17, mw_18, mn_19, me_21) _ _ ls hP hD hS (lv_sub hl [1, 0] rfl) hF
            have J99 : ∀ (H : Heap) (locs : List Loc) (ls : Array Slot), va_P G vwCl (wMo cy a m0 m1 m2 m3 m4 m5 m6 m7 m8 s71.2.1 mb s71.2.2.1 md mp mf_15 mi_16 mo_17 mw_18 mn_19 mk mt mq mz_1 s71.2.2.2.2.2.2.2.2) H → va_D A (wMo cy a m0 m1 m2 m3 m4 m5 m6 m7 m8 s71.2.1 mb s71.2.2.1 md mp mf_15 mi_16 mo_17 mw_18 mn_19 mk mt mq mz_1 s71.2.2.2.2.2.2.2.2) → va_S A s.heap H locs → lv_has ls 3 [(0, .ref (a 0))] → j_X8_findsBest_99 rc71 s71 mf_15 mi_16 mo_17 mw_18 mn_19 = some o → W p l e (zR 4) s m ([.ref (a 0)] : List Value).toArray below meth c H locs 0 0 (MQ below (zQv G cy A (wMo cy a m0 m1 m2 m3 m4 m5 m6 m7 m8 o.1 mb o.2.1 md mp o.2.2.1 o.2.2.2.1 o.2.2.2.2.1 o.2.2.2.2.2.1 o.2.2.2.2.2.2.1 mk mt mq o.2.2.2.2.2.2.2.1 o.2.2.2.2.2.2.2.2)) ([.ref (a 0)] : List Value).toArray s 0 0 A) (F0 m 99 ls []) := by
              intro H locs ls hP hD hS hl hF
              unfold j_X8_findsBest_99 at hF
              refine lv_aload_n hx hb dX8_findsBest_99 rfl (lv_at hl 0 rfl) ?_
              refine lv_aload_n hx hb dX8_findsBest_100 rfl (lv_at hl 0 rfl) ?_
              refine z_cVi (b := a 0) (As := []) (rest := [.ref (a 0)]) (wc := (wMo cy a m0 m1 m2 m3 m4 m5 m6 m7 m8 s71.2.1 mb s71.2.2.1 md mp mf_15 mi_16 mo_17 mw_18 mn_19 mk mt mq mz_1 s71.2.2.2.2.2.2.2.2)) (wcf := fun o' => (wMo cy a m0 m1 m2 m3 m4 m5 m6 m7 m8 s71.2.1 mb s71.2.2.1 md mp mf_15 mi_16 mo_17 mw_18 mn_19 mk mt mq mz_1 s71.2.2.2.2.2.2.2.2)) (wf := fun o' => (wMo cy a m0 m1 m2 m3 m4 m5 m6 m7 m8 s71.2.1 mb s71.2.2.1 md mp mf_15 mi_16 mo_17 mw_18 mn_19 mk mt mq mz_1 s71.2.2.2.2.2.2.2.2)) (rf := fun o' => o') hF (fun o' hz => c_X8_offOf l G cy st a m0 m1 m2 m3 m4 m5 m6 m7 m8 s71.2.1 mb s71.2.2.1 md mp mf_15 mi_16 mo_17 mw_18 mn_19 mk mt mq mz_1 s71.2.2.2.2.2.2.2.2 o' hz) (fun o' => zCut_all) ⟨hx, hb, hml, hown, hts⟩ (cwV 0 hts gX8_findsBest_X8_offOf rfl rfl rfl (by decide +kernel) ⟨by decide, by decide⟩) (ci := 8) (q0 := 0) rfl (wMo_at0 cy a m0 m1 m2 m3 m4 m5 m6 m7 m8 s71.2.1 mb s71.2.2.1 md mp mf_15 mi_16 mo_17 mw_18 mn_19 mk mt mq mz_1 s71.2.2.2.2.2.2.2.2) hK hSE hA hP hD hS rfl hl.1 rfl (Nat.le_of_ble_eq_true rfl) dX8_findsBest_101 ⟨Nat.le_refl _, Nat.le_refl _⟩ (fun o23 hF H locs hP hD hS => ?_)
              refine z_puti (ci := 8) (C := RX8) (T := TX8) (N := 24) (fs := (zMo a m0 m1 m2 m3 m4 m5 m6 m7 m8 s71.2.1)) (x := o23) (wf := (fun y => (wMo cy a m0 m1 m2 m3 m4 m5 m6 m7 m8 y mb s71.2.2.1 md mp mf_15 mi_16 mo_17 mw_18 mn_19 mk mt mq mz_1 s71.2.2.2.2.2.2.2.2))) hx hb hts iX8 tyX8 tyX8_ok nmX8 hown hK hP hD hS _ 23 (wMo_foc0_23 cy a m0 m1 m2 m3 m4 m5 m6 m7 m8 s71.2.1 mb s71.2.2.1 md mp mf_15 mi_16 mo_17 mw_18 mn_19 mk mt mq mz_1 s71.2.2.2.2.2.2.2.2 o23) rfl (by decide) k168 (fun _ h9 => h9) rfl (by decide +kernel) (Nat.le_of_ble_eq_true rfl) hF dX8_findsBest_104 (fun m_24 hF H locs hP hD hS => ?_)
              refine lv_iconst (v := 0) hx hb dX8_findsBest_107 (by decide) ?_
              refine lv_istore_n (lv' := [(2, .int 0), (0, .ref (a 0))]) hx hb dX8_findsBest_108 rfl hl (by decide) rfl (fun ls hl => ?_)
              have L109 : ∀ (n : Nat) (s109 : Int32 × (Nat → Int32)) (H : Heap) (locs : List Loc) (ls : Array Slot), va_P G vwCl (wMo cy a m0 m1 m2 m3 m4 m5 m6 m7 m8 m_24 mb s71.2.2.1 md mp mf_15 mi_16 mo_17 mw_18 mn_19 mk mt mq mz_1 s109.2) H → va_D A (wMo cy a m0 m1 m2 m3 m4 m5 m6 m7 m8 m_24 mb s71.2.2.1 md mp mf_15 mi_16 mo_17 mw_18 mn_19 mk mt mq mz_1 s109.2) → va_S A s.heap H locs → lv_has ls 3 [(0, .ref (a 0)), (2, .int s109.1)] → zloop (b_X8_findsBest_109 rc71 s71 mf_15 mi_16 mo_17 mw_18 mn_19 m_24) n s109 = some o → W p l e (zR 4) s m ([.ref (a 0)] : List Value).toArray below meth c H locs 0 0 (MQ below (zQv G cy A (wMo cy a m0 m1 m2 m3 m4 m5 m6 m7 m8 o.1 mb o.2.1 md mp o.2.2.1 o.2.2.2.1 o.2.2.2.2.1 o.2.2.2.2.2.1 o.2.2.2.2.2.2.1 mk mt mq o.2.2.2.2.2.2.2.1 o.2.2.2.2.2.2.2.2)) ([.ref (a 0)] : List Value).toArray s 0 0 A) (F0 m 109 ls []) := by
                intro n
                induction n with
                | zero => exact fun s109 H locs ls _ _ _ _ hF => (zloop_0 hF).elim
                | succ n ih109 =>
                  intro s109 H locs ls hP hD hS hl hF
                  have hF : b_X8_findsBest_109 rc71 s71 mf_15 mi_16 mo_17 mw_18 mn_19 m_24 (zloop (b_X8_findsBest_109 rc71 s71 mf_15 mi_16 mo_17 mw_18 mn_19 m_24) n) s109 = some o := hF
                  generalize zloop (b_X8_findsBest_109 rc71 s71 mf_15 mi_16 mo_17 mw_18 mn_19 m_24) n = rc109 at ih109 hF
                  unfold b_X8_findsBest_109 at hF
                  refine lv_iload_n hx hb dX8_findsBest_109 rfl (lv_at hl 1 rfl) ?_
                  refine lv_aload_n hx hb dX8_findsBest_110 rfl (lv_at hl 0 rfl) ?_
                  refine va_get (ci := 8) (C := RX8) (T := TX8) (N := 24) (fs := (zMo a m0 m1 m2 m3 m4 m5 m6 m7 m8 m_24)) (v := .ref (a 2)) hx hb hts iX8 hown hK hP _ (wMo_at0 cy a m0 m1 m2 m3 m4 m5 m6 m7 m8 m_24 mb s71.2.2.1 md mp mf_15 mi_16 mo_17 mw_18 mn_19 mk mt mq mz_1 s109.2) rfl 3 (by decide) k13 (fun _ h9 => h9) rfl dX8_findsBest_111 ?_
                  refine lv_iconst (v := 0) hx hb dX8_findsBest_114 (by decide) ?_
                  refine z_iald (n := 114) (f := s71.2.2.1) hx hb hK hP _ 1 (wMo_at2 cy a m0 m1 m2 m3 m4 m5 m6 m7 m8 m_24 mb s71.2.2.1 md mp mf_15 mi_16 mo_17 mw_18 mn_19 mk mt mq mz_1 s109.2) rfl hF dX8_findsBest_115 (fun hF => ?_)
                  refine zi_ge (tgt := 138) hx hb hF dX8_findsBest_116 (by decide) (fun hF => ?_) (fun hF => ?_)
                  · exact J138 m_24 s109.2 _ _ ls hP hD hS (lv_sub hl [0] rfl) hF
                  · refine lv_aload_n hx hb dX8_findsBest_119 rfl (lv_at hl 0 rfl) ?_
                    refine va_get (ci := 8) (C := RX8) (T := TX8) (N := 24) (fs := (zMo a m0 m1 m2 m3 m4 m5 m6 m7 m8 m_24)) (v := .ref (a 14)) hx hb hts iX8 hown hK hP _ (wMo_at0 cy a m0 m1 m2 m3 m4 m5 m6 m7 m8 m_24 mb s71.2.2.1 md mp mf_15 mi_16 mo_17 mw_18 mn_19 mk mt mq mz_1 s109.2) rfl 22 (by decide) k52 (fun _ h9 => h9) rfl dX8_findsBest_120 ?_
                    refine lv_iload_n hx hb dX8_findsBest_123 rfl (lv_at hl 1 rfl) ?_
                    refine lv_aload_n hx hb dX8_findsBest_124 rfl (lv_at hl 0 rfl) ?_
                    refine lv_iload_n hx hb dX8_findsBest_125 rfl (lv_at hl 1 rfl) ?_
                    refine lv_bipush (v := 7) hx hb dX8_findsBest_126 (by decide) ?_
                    refine z_cVi (b := a 0) (As := [.int s109.1, .int 7]) (rest := [.int s109.1, .ref (a 14)]) (wc := (wMo cy a m0 m1 m2 m3 m4 m5 m6 m7 m8 m_24 mb s71.2.2.1 md mp mf_15 mi_16 mo_17 mw_18 mn_19 mk mt mq mz_1 s109.2)) (wcf := fun o' => (wMo cy a m0 m1 m2 m3 m4 m5 m6 m7 m8 m_24 mb s71.2.2.1 md mp mf_15 mi_16 mo_17 mw_18 mn_19 mk mt mq mz_1 s109.2)) (wf := fun o' => (wMo cy a m0 m1 m2 m3 m4 m5 m6 m7 m8 m_24 mb s71.2.2.1 md mp mf_15 mi_16 mo_17 mw_18 mn_19 mk mt mq mz_1 s109.2)) (rf := fun o' => o') hF (fun o' hz => c_X8_of l G cy st a m0 m1 m2 m3 m4 m5 m6 m7 m8 m_24 mb s71.2.2.1 md mp mf_15 mi_16 mo_17 mw_18 mn_19 mk mt mq mz_1 s109.2 s109.1 7 o' hz) (fun o' => zCut_all) ⟨hx, hb, hml, hown, hts⟩ (cwV 2 hts gX8_findsBest_X8_of rfl rfl rfl (by decide +kernel) ⟨by decide, by decide⟩) (ci := 8) (q0 := 0) rfl (wMo_at0 cy a m0 m1 m2 m3 m4 m5 m6 m7 m8 m_24 mb s71.2.2.1 md mp mf_15 mi_16 mo_17 mw_18 mn_19 mk mt mq mz_1 s109.2) hK hSE hA hP hD hS rfl hl.1 rfl (Nat.le_of_ble_eq_true rfl) dX8_findsBest_128 ⟨Nat.le_refl _, Nat.le_refl _⟩ (fun o25 hF H locs hP hD hS => ?_)
                    refine z_iast (n := 4) (f := s109.2) (i := s109.1) (x := o25) (wf := (fun y => (wMo cy a m0 m1 m2 m3 m4 m5 m6 m7 m8 m_24 mb s71.2.2.1 md mp mf_15 mi_16 mo_17 mw_18 mn_19 mk mt mq mz_1 y))) hx hb hK hP hD hS _ 1 (wMo_foc14 cy a m0 m1 m2 m3 m4 m5 m6 m7 m8 m_24 mb s71.2.2.1 md mp mf_15 mi_16 mo_17 mw_18 mn_19 mk mt mq mz_1 s109.2 _) rfl hF dX8_findsBest_131 (fun me_26 hF H locs hP hD hS => ?_)
                    refine z_name hF (fun x27 ex27 hF => ?_)
                    refine lv_iinc (v := x27) (lv' := [(2, .int x27), (0, .ref (a 0))]) hx hb dX8_findsBest_132 hl (k := 1) rfl (by rw [ex27]; rfl) (by decide) rfl (fun ls hl => ?_)
                    refine lv_goto (tgt := 109) hx hb dX8_findsBest_135 (by decide) ?_
                    exact ih109 (x27, me_26) _ _ ls hP hD hS (lv_sub hl [1, 0] rfl) hF
              exact L109 20000 (0, s71.2.2.2.2.2.2.2.2) _ _ ls hP hD hS (lv_sub hl [1, 0] rfl) hF
            refine zi_eq (tgt := 99) hx hb hF dX8_findsBest_85 (by decide) (fun hF => ?_) (fun hF => ?_)
            · exact J99 _ _ ls hP hD hS (lv_sub hl [0] rfl) hF
            · refine lv_aload_n hx hb dX8_findsBest_88 rfl (lv_at hl 0 rfl) ?_
              refine z_cVi (b := a 0) (As := []) (rest := []) (wc := (wMo cy a m0 m1 m2 m3 m4 m5 m6 m7 m8 s71.2.1 mb s71.2.2.1 md mp mf_15 mi_16 mo_17 mw_18 mn_19 mk mt mq mz_1 s71.2.2.2.2.2.2.2.2)) (wcf := fun o' => (wMo cy a m0 m1 m2 m3 m4 m5 m6 m7 m8 s71.2.1 mb s71.2.2.1 md mp mf_15 mi_16 mo_17 mw_18 mn_19 mk mt mq mz_1 s71.2.2.2.2.2.2.2.2)) (wf := fun o' => (wMo cy a m0 m1 m2 m3 m4 m5 m6 m7 m8 s71.2.1 mb s71.2.2.1 md mp mf_15 mi_16 mo_17 mw_18 mn_19 mk mt mq mz_1 s71.2.2.2.2.2.2.2.2)) (rf := fun o' => o') hF (fun o' hz => c_X8_offOf l G cy st a m0 m1 m2 m3 m4 m5 m6 m7 m8 s71.2.1 mb s71.2.2.1 md mp mf_15 mi_16 mo_17 mw_18 mn_19 mk mt mq mz_1 s71.2.2.2.2.2.2.2.2 o' hz) (fun o' => zCut_all) ⟨hx, hb, hml, hown, hts⟩ (cwV 0 hts gX8_findsBest_X8_offOf rfl rfl rfl (by decide +kernel) ⟨by decide, by decide⟩) (ci := 8) (q0 := 0) rfl (wMo_at0 cy a m0 m1 m2 m3 m4 m5 m6 m7 m8 s71.2.1 mb s71.2.2.1 md mp mf_15 mi_16 mo_17 mw_18 mn_19 mk mt mq mz_1 s71.2.2.2.2.2.2.2.2) hK hSE hA hP hD hS rfl hl.1 rfl (Nat.le_of_ble_eq_true rfl) dX8_findsBest_89 ⟨Nat.le_refl _, Nat.le_refl _⟩ (fun o28 hF H locs hP hD hS => ?_)
              refine lv_aload_n hx hb dX8_findsBest_92 rfl (lv_at hl 0 rfl) ?_
              refine va_get (ci := 8) (C := RX8) (T := TX8) (N := 24) (fs := (zMo a m0 m1 m2 m3 m4 m5 m6 m7 m8 s71.2.1)) (v := .int s71.2.1) hx hb hts iX8 hown hK hP _ (wMo_at0 cy a m0 m1 m2 m3 m4 m5 m6 m7 m8 s71.2.1 mb s71.2.2.1 md mp mf_15 mi_16 mo_17 mw_18 mn_19 mk mt mq mz_1 s71.2.2.2.2.2.2.2.2) rfl 23 (by decide) k168 (fun _ h9 => h9) rfl dX8_findsBest_93 ?_
              refine zi_ge (tgt := 138) hx hb hF dX8_findsBest_96 (by decide) (fun hF => ?_) (fun hF => ?_)
              · exact J138 s71.2.1 s71.2.2.2.2.2.2.2.2 _ _ ls hP hD hS (lv_sub hl [0] rfl) hF
              · exact J99 _ _ ls hP hD hS (lv_sub hl [0] rfl) hF
      exact L71 20000 (1, m_3, ms_2, mf, mi, mo, mw, mn, me) _ _ ls hP hD hS (lv_sub hl [1, 0] rfl) hF
    have L28 : ∀ (n : Nat) (s28 : Int32 × (Nat → Int32)) (H : Heap) (locs : List Loc) (ls : Array Slot), va_P G vwCl (wMo cy a m0 m1 m2 m3 m4 m5 m6 m7 m8 m9 mb s28.2 md mp mf mi mo mw mn mk mt mq mz_1 me) H → va_D A (wMo cy a m0 m1 m2 m3 m4 m5 m6 m7 m8 m9 mb s28.2 md mp mf mi mo mw mn mk mt mq mz_1 me) → va_S A s.heap H locs → lv_has ls 3 [(0, .ref (a 0)), (1, .int s28.1)] → zloop (b_X8_findsBest_28 mf mi mo mw mn me mz_1) n s28 = some o → W p l e (zR 4) s m ([.ref (a 0)] : List Value).toArray below meth c H locs 0 0 (MQ below (zQv G cy A (wMo cy a m0 m1 m2 m3 m4 m5 m6 m7 m8 o.1 mb o.2.1 md mp o.2.2.1 o.2.2.2.1 o.2.2.2.2.1 o.2.2.2.2.2.1 o.2.2.2.2.2.2.1 mk mt mq o.2.2.2.2.2.2.2.1 o.2.2.2.2.2.2.2.2)) ([.ref (a 0)] : List Value).toArray s 0 0 A) (F0 m 28 ls []) := by
      intro n
      induction n with
      | zero => exact fun s28 H locs ls _ _ _ _ hF => (zloop_0 hF).elim
      | succ n ih28 =>
        intro s28 H locs ls hP hD hS hl hF
        have hF : b_X8_findsBest_28 mf mi mo mw mn me mz_1 (zloop (b_X8_findsBest_28 mf mi mo mw mn me mz_1) n) s28 = some o := hF
        generalize zloop (b_X8_findsBest_28 mf mi mo mw mn me mz_1) n = rc28 at ih28 hF
        unfold b_X8_findsBest_28 at hF
        refine lv_iload_n hx hb dX8_findsBest_28 rfl (lv_at hl 1 rfl) ?_
        refine lv_aload_n hx hb dX8_findsBest_29 rfl (lv_at hl 0 rfl) ?_
        refine va_get (ci := 8) (C := RX8) (T := TX8) (N := 24) (fs := (zMo a m0 m1 m2 m3 m4 m5 m6 m7 m8 m9)) (v := .ref (a 2)) hx hb hts iX8 hown hK hP _ (wMo_at0 cy a m0 m1 m2 m3 m4 m5 m6 m7 m8 m9 mb s28.2 md mp mf mi mo mw mn mk mt mq mz_1 me) rfl 3 (by decide) k13 (fun _ h9 => h9) rfl dX8_findsBest_30 ?_
        refine lv_iconst (v := 0) hx hb dX8_findsBest_33 (by decide) ?_
        refine z_iald (n := 114) (f := s28.2) hx hb hK hP _ 1 (wMo_at2 cy a m0 m1 m2 m3 m4 m5 m6 m7 m8 m9 mb s28.2 md mp mf mi mo mw mn mk mt mq mz_1 me) rfl hF dX8_findsBest_34 (fun hF => ?_)
        refine zi_ge (tgt := 63) hx hb hF dX8_findsBest_35 (by decide) (fun hF => ?_) (fun hF => ?_)
        · exact J63 s28.2 _ _ ls hP hD hS (lv_sub hl [0] rfl) hF
        · refine lv_aload_n hx hb dX8_findsBest_38 rfl (lv_at hl 0 rfl) ?_
          refine lv_iload_n hx hb dX8_findsBest_39 rfl (lv_at hl 1 rfl) ?_
          refine lv_bipush (v := 8) hx hb dX8_findsBest_40 (by decide) ?_
          refine z_cVi (b := a 0) (As := [.int s28.1, .int 8]) (rest := []) (wc := (wMo cy a m0 m1 m2 m3 m4 m5 m6 m7 m8 m9 mb s28.2 md mp mf mi mo mw mn mk mt mq mz_1 me)) (wcf := fun o' => (wMo cy a m0 m1 m2 m3 m4 m5 m6 m7 m8 m9 mb s28.2 md mp mf mi mo mw mn mk mt mq mz_1 me)) (wf := fun o' => (wMo cy a m0 m1 m2 m3 m4 m5 m6 m7 m8 m9 mb s28.2 md mp mf mi mo mw mn mk mt mq mz_1 me)) (rf := fun o' => o') hF (fun o' hz => c_X8_of l G cy st a m0 m1 m2 m3 m4 m5 m6 m7 m8 m9 mb s28.2 md mp mf mi mo mw mn mk mt mq mz_1 me s28.1 8 o' hz) (fun o' => zCut_all) ⟨hx, hb, hml, hown, hts⟩ (cwV 2 hts gX8_findsBest_X8_of rfl rfl rfl (by decide +kernel) ⟨by decide, by decide⟩) (ci := 8) (q0 := 0) rfl (wMo_at0 cy a m0 m1 m2 m3 m4 m5 m6 m7 m8 m9 mb s28.2 md mp mf mi mo mw mn mk mt mq mz_1 me) hK hSE hA hP hD hS rfl hl.1 rfl (Nat.le_of_ble_eq_true rfl) dX8_findsBest_42 ⟨Nat.le_refl _, Nat.le_refl _⟩ (fun o29 hF H locs hP hD hS => ?_)
          have J57 : ∀ (ms_30 : Nat → Int32) (H : Heap) (locs : List Loc) (ls : Array Slot), va_P G vwCl (wMo cy a m0 m1 m2 m3 m4 m5 m6 m7 m8 m9 mb ms_30 md mp mf mi mo mw mn mk mt mq mz_1 me) H → va_D A (wMo cy a m0 m1 m2 m3 m4 m5 m6 m7 m8 m9 mb ms_30 md mp mf mi mo mw mn mk mt mq mz_1 me) → va_S A s.heap H locs → lv_has ls 3 [(0, .ref (a 0)), (1, .int s28.1)] → j_X8_findsBest_57 rc28 s28 ms_30 = some o → W p l e (zR 4) s m ([.ref (a 0)] : List Value).toArray below meth c H locs 0 0 (MQ below (zQv G cy A (wMo cy a m0 m1 m2 m3 m4 m5 m6 m7 m8 o.1 mb o.2.1 md mp o.2.2.1 o.2.2.2.1 o.2.2.2.2.1 o.2.2.2.2.2.1 o.2.2.2.2.2.2.1 mk mt mq o.2.2.2.2.2.2.2.1 o.2.2.2.2.2.2.2.2)) ([.ref (a 0)] : List Value).toArray s 0 0 A) (F0 m 57 ls []) := by
            intro ms_30 H locs ls hP hD hS hl hF
            unfold j_X8_findsBest_57 at hF
            refine z_name hF (fun x31 ex31 hF => ?_)
            refine lv_iinc (v := x31) (lv' := [(1, .int x31), (0, .ref (a 0))]) hx hb dX8_findsBest_57 hl (k := 1) rfl (by rw [ex31]; rfl) (by decide) rfl (fun ls hl => ?_)
            refine lv_goto (tgt := 28) hx hb dX8_findsBest_60 (by decide) ?_
            exact ih28 (x31, ms_30) _ _ ls hP hD hS (lv_sub hl [1, 0] rfl) hF
          refine zf_ne (tgt := 57) hx hb hF dX8_findsBest_45 (by decide) (fun hF => ?_) (fun hF => ?_)
          · exact J57 s28.2 _ _ ls hP hD hS (lv_sub hl [0, 1] rfl) hF
          · refine lv_aload_n hx hb dX8_findsBest_48 rfl (lv_at hl 0 rfl) ?_
            refine lv_iload_n hx hb dX8_findsBest_49 rfl (lv_at hl 1 rfl) ?_
            refine lv_bipush (v := 7) hx hb dX8_findsBest_50 (by decide) ?_
            refine lv_bipush (v := (-5)) hx hb dX8_findsBest_52 (by decide) ?_
            refine z_cVv (b := a 0) (As := [.int s28.1, .int 7, .int (-5)]) (rest := []) (wc := (wMo cy a m0 m1 m2 m3 m4 m5 m6 m7 m8 m9 mb s28.2 md mp mf mi mo mw mn mk mt mq mz_1 me)) (wcf := fun o' => (wMo cy a m0 m1 m2 m3 m4 m5 m6 m7 m8 m9 mb o' md mp mf mi mo mw mn mk mt mq mz_1 me)) (wf := fun o' => (wMo cy a m0 m1 m2 m3 m4 m5 m6 m7 m8 m9 mb o' md mp mf mi mo mw mn mk mt mq mz_1 me)) hF (fun o' hz => c_X8_puts l G cy st a m0 m1 m2 m3 m4 m5 m6 m7 m8 m9 mb s28.2 md mp mf mi mo mw mn mk mt mq mz_1 me s28.1 7 (-5) o' hz) (fun o' => zCut_all) ⟨hx, hb, hml, hown, hts⟩ (cwV 3 hts gX8_findsBest_X8_puts rfl rfl rfl (by decide +kernel) ⟨by decide, by decide⟩) (ci := 8) (q0 := 0) rfl (wMo_at0 cy a m0 m1 m2 m3 m4 m5 m6 m7 m8 m9 mb s28.2 md mp mf mi mo mw mn mk mt mq mz_1 me) hK hSE hA hP hD hS rfl hl.1 rfl (Nat.le_of_ble_eq_true rfl) dX8_findsBest_54 ⟨Nat.le_refl _, Nat.le_refl _⟩ (fun o32 hF H locs hP hD hS => ?_)
            exact J57 o32 _ _ ls hP hD hS (lv_sub hl [0, 1] rfl) hF
    exact L28 20000 (0, ms) _ _ ls hP hD hS (lv_sub hl [1, 0] rfl) hF
  have L2 : ∀ (n : Nat) (s2 : Int32 × (Nat → Int32)) (H : Heap) (locs : List Loc) (ls : Array Slot), va_P G vwCl (wMo cy a m0 m1 m2 m3 m4 m5 m6 m7 m8 m9 mb ms md mp mf mi mo mw mn mk mt mq s2.2 me) H → va_D A (wMo cy a m0 m1 m2 m3 m4 m5 m6 m7 m8 m9 mb ms md mp mf mi mo mw mn mk mt mq s2.2 me) → va_S A s.heap H locs → lv_has ls 3 [(0, .ref (a 0)), (1, .int s2.1)] → zloop (b_X8_findsBest_2 ms mf mi mo mw mn me) n s2 = some o → W p l e (zR 4) s m ([.ref (a 0)] : List Value).toArray below meth c H locs 0 0 (MQ below (zQv G cy A (wMo cy a m0 m1 m2 m3 m4 m5 m6 m7 m8 o.1 mb o.2.1 md mp o.2.2.1 o.2.2.2.1 o.2.2.2.2.1 o.2.2.2.2.2.1 o.2.2.2.2.2.2.1 mk mt mq o.2.2.2.2.2.2.2.1 o.2.2.2.2.2.2.2.2)) ([.ref (a 0)] : List Value).toArray s 0 0 A) (F0 m 2 ls []) := by
    intro n
    induction n with
    | zero => exact fun s2 H locs ls _ _ _ _ hF => (zloop_0 hF).elim
    | succ n ih2 =>
      intro s2 H locs ls hP hD hS hl hF
      have hF : b_X8_findsBest_2 ms mf mi mo mw mn me (zloop (b_X8_findsBest_2 ms mf mi mo mw mn me) n) s2 = some o := hF
      generalize zloop (b_X8_findsBest_2 ms mf mi mo mw mn me) n = rc2 at ih2 hF
      unfold b_X8_findsBest_2 at hF
      refine lv_iload_n hx hb dX8_findsBest_2 rfl (lv_at hl 1 rfl) ?_
      refine lv_bipush (v := 114) hx hb dX8_findsBest_3 (by decide) ?_
      refine zi_ge (tgt := 26) hx hb hF dX8_findsBest_5 (by decide) (fun hF => ?_) (fun hF => ?_)
      · exact J26 s2.2 _ _ ls hP hD hS (lv_sub hl [0] rfl) hF
      · refine lv_aload_n hx hb dX8_findsBest_8 rfl (lv_at hl 0 rfl) ?_
        refine va_get (ci := 8) (C := RX8) (T := TX8) (N := 24) (fs := (zMo a m0 m1 m2 m3 m4 m5 m6 m7 m8 m9)) (v := .ref (a 13)) hx hb hts iX8 hown hK hP _ (wMo_at0 cy a m0 m1 m2 m3 m4 m5 m6 m7 m8 m9 mb ms md mp mf mi mo mw mn mk mt mq s2.2 me) rfl 17 (by decide) k49 (fun _ h9 => h9) rfl dX8_findsBest_9 ?_
        refine lv_iload_n hx hb dX8_findsBest_12 rfl (lv_at hl 1 rfl) ?_
        refine lv_aload_n hx hb dX8_findsBest_13 rfl (lv_at hl 0 rfl) ?_
        refine va_get (ci := 8) (C := RX8) (T := TX8) (N := 24) (fs := (zMo a m0 m1 m2 m3 m4 m5 m6 m7 m8 m9)) (v := .ref (a 2)) hx hb hts iX8 hown hK hP _ (wMo_at0 cy a m0 m1 m2 m3 m4 m5 m6 m7 m8 m9 mb ms md mp mf mi mo mw mn mk mt mq s2.2 me) rfl 3 (by decide) k13 (fun _ h9 => h9) rfl dX8_findsBest_14 ?_
        refine lv_iload_n hx hb dX8_findsBest_17 rfl (lv_at hl 1 rfl) ?_
        refine z_iald (n := 114) (f := ms) hx hb hK hP _ 1 (wMo_at2 cy a m0 m1 m2 m3 m4 m5 m6 m7 m8 m9 mb ms md mp mf mi mo mw mn mk mt mq s2.2 me) rfl hF dX8_findsBest_18 (fun hF => ?_)
        refine z_iast (n := 114) (f := s2.2) (i := s2.1) (x := (ms (zn s2.1))) (wf := (fun y => (wMo cy a m0 m1 m2 m3 m4 m5 m6 m7 m8 m9 mb ms md mp mf mi mo mw mn mk mt mq y me))) hx hb hK hP hD hS _ 1 (wMo_foc13 cy a m0 m1 m2 m3 m4 m5 m6 m7 m8 m9 mb ms md mp mf mi mo mw mn mk mt mq s2.2 me _) rfl hF dX8_findsBest_19 (fun mz_33 hF H locs hP hD hS => ?_)
        refine z_name hF (fun x34 ex34 hF => ?_)
        refine lv_iinc (v := x34) (lv' := [(1, .int x34), (0, .ref (a 0))]) hx hb dX8_findsBest_20 hl (k := 1) rfl (by rw [ex34]; rfl) (by decide) rfl (fun ls hl => ?_)
        refine lv_goto (tgt := 2) hx hb dX8_findsBest_23 (by decide) ?_
        exact ih2 (x34, mz_33) _ _ ls hP hD hS (lv_sub hl [1, 0] rfl) hF
  exact L2 20000 (0, mz) _ _ ls hP hD hS (lv_sub hl [1, 0] rfl) hF
def j_X8_best_20 (ms : Nat → Int32) (mf : Nat → Int32) (mi : Nat → Int32) (mo : Nat → Int32) (mw : Nat → Int32) (mn : Nat → Int32) (mz : Nat → Int32) (me : Nat → Int32) (x01 : Int32) (m_1 : Int32) : Option (Int32 × Int32 × Int32 × (Nat → Int32) × (Nat → Int32) × (Nat → Int32) × (Nat → Int32) × (Nat → Int32) × (Nat → Int32) × (Nat → Int32) × (Nat → Int32)) :=
zbd (f_X8_findsBest ms mf mi mo mw mn mz me) fun o2 =>
zlet (o2.1) fun m_3 =>
zlet (o2.2.1) fun ms_4 =>
zlet (o2.2.2.1) fun mf_5 =>
zlet (o2.2.2.2.1) fun mi_6 =>
zlet (o2.2.2.2.2.1) fun mo_7 =>
zlet (o2.2.2.2.2.2.1) fun mw_8 =>
zlet (o2.2.2.2.2.2.2.1) fun mn_9 =>
zlet (o2.2.2.2.2.2.2.2.1) fun mz_10 =>
zlet (o2.2.2.2.2.2.2.2.2) fun me_11 =>
if 0 ≤ x01 then (
zg (zin x01 4) (
some (((me_11 (zn x01)) + 1000), m_1, m_3, ms_4, mf_5, mi_6, mo_7, mw_8, mn_9, mz_10, me_11))) else (
some (m_3, m_1, m_3, ms_4, mf_5, mi_6, mo_7, mw_8, mn_9, mz_10, me_11))
def f_X8_best (m9 : Int32) (ms : Nat → Int32) (mf : Nat → Int32) (mi : Nat → Int32) (mo : Nat → Int32) (mw : Nat → Int32) (mn : Nat → Int32) (mz : Nat → Int32) (me : Nat → Int32) (x01 : Int32) : Option (Int32 × Int32 × Int32 × (Nat → Int32) × (Nat → Int32) × (Nat → Int32) × (Nat → Int32) × (Nat → Int32) × (Nat → Int32) × (Nat → Int32) × (Nat → Int32)) :=
zlet 0 fun m_1 =>
if x01 = (-1 : Int32) then (
j_X8_best_20 ms mf mi mo mw mn mz me x01 m_1) else (
zbd (f_X8_isStage ms x01) fun o12 =>
if o12 = 0 then (
some ((-1), m_1, m9, ms, mf, mi, mo, mw, mn, mz, me)) else (
j_X8_best_20 ms mf mi mo mw mn mz me x01 m_1))
set_option maxHeartbeats 4000000 in
set_option maxRecDepth 100000 in
theorem c_X8_best (l : Launch) (G : va_G) (cy : Nat → ClassId) (st : Nat → Nat) (a : Nat → Nat) (m0 : Int32) (m1 : Int32) (m2 : Int32) (m3 : Int32) (m4 : Int32) (m5 : Int32) (m6 : Int32) (m7 : Int32) (m8 : Int32) (m9 : Int32) (mb : Nat → Int32) (ms : Nat → Int32) (md : Nat → Int32) (mp : Nat → Int32) (mf : Nat → Int32) (mi : Nat → Int32) (mo : Nat → Int32) (mw : Nat → Int32) (mn : Nat → Int32) (mk : Nat → Int32) (mt : Nat → Int64) (mq : Nat → Int32) (mz : Nat → Int32) (me : Nat → Int32) (x01 : Int32) (o : Int32 × Int32 × Int32 × (Nat → Int32) × (Nat → Int32) × (Nat → Int32) × (Nat → Int32) × (Nat → Int32) × (Nat → Int32) × (Nat → Int32) × (Nat → Int32)) (hF : f_X8_best m9 ms mf mi mo mw mn mz me x01 = some o) : zMi l yX8_best wsX8_best (zR 5) G cy st [.ref (a 0), .int x01] (wMo cy a m0 m1 m2 m3 m4 m5 m6 m7 m8 m9 mb ms md mp mf mi mo mw mn mk mt mq mz me) (wMo cy a o.2.1 m1 m2 m3 m4 m5 m6 m7 m8 o.2.2.1 mb o.2.2.2.1 md mp o.2.2.2.2.1 o.2.2.2.2.2.1 o.2.2.2.2.2.2.1 o.2.2.2.2.2.2.2.1 o.2.2.2.2.2.2.2.2.1 mk mt mq o.2.2.2.2.2.2.2.2.2.1 o.2.2.2.2.2.2.2.2.2.2) o.1 := by
  refine zM_of (cc := cX8_best) (maxL := 2) (ret := (some .int)) (Qc := fun A => zQi G cy A (wMo cy a o.2.1 m1 m2 m3 m4 m5 m6 m7 m8 o.2.2.1 mb o.2.2.2.1 md mp o.2.2.2.2.1 o.2.2.2.2.2.1 o.2.2.2.2.2.2.1 o.2.2.2.2.2.2.2.1 o.2.2.2.2.2.2.2.2.1 mk mt mq o.2.2.2.2.2.2.2.2.2.1 o.2.2.2.2.2.2.2.2.2.2) o.1) (by decide) rfl (Nat.le_of_ble_eq_true rfl) ?_
  intro p e s m below meth c A ls hx hb hml hr hlocks hown hts hK hSE hA hP hD hS hl
  have hown : s.vm.findClass RX8 = some m.cls := hown
  have hl : lv_has ls 2 [(0, .ref (a 0)), (1, .int x01)] := hl
  have k59 := hts (.fieldLink RX8 59 "TapCascadeModel" "thrown" "I") (by decide +kernel)
  have iX8 : ∀ w ∈ wsX80, w ∈ wsX8_best := fun w h => List.mem_cons_of_mem _ (List.mem_append_right _ h)
  have k52 := hts (.fieldLink RX8 52 "TapCascadeModel" "bestTap" "[I") (by decide +kernel)
  have k168 := hts (.fieldLink RX8 168 "TapCascadeModel" "bestOff" "I") (by decide +kernel)
  unfold f_X8_best at hF
  refine lv_aload_n hx hb dX8_best_0 rfl (lv_at hl 0 rfl) ?_
  refine lv_iconst (v := 0) hx hb dX8_best_1 (by decide) ?_
  refine z_puti (ci := 8) (C := RX8) (T := TX8) (N := 24) (fs := (zMo a m0 m1 m2 m3 m4 m5 m6 m7 m8 m9)) (x := 0) (wf := (fun y => (wMo cy a y m1 m2 m3 m4 m5 m6 m7 m8 m9 mb ms md mp mf mi mo mw mn mk mt mq mz me))) hx hb hts iX8 tyX8 tyX8_ok nmX8 hown hK hP hD hS _ 0 (wMo_foc0_0 cy a m0 m1 m2 m3 m4 m5 m6 m7 m8 m9 mb ms md mp mf mi mo mw mn mk mt mq mz me 0) rfl (by decide) k59 (fun _ h9 => h9) rfl (by decide +kernel) (Nat.le_of_ble_eq_true rfl) hF dX8_best_2 (fun m_1 hF H locs hP hD hS => ?_)
  refine lv_iload_n hx hb dX8_best_5 rfl (lv_at hl 1 rfl) ?_
  refine lv_iconst (v := (-1)) hx hb dX8_best_6 (by decide) ?_
  have J20 : ∀ (H : Heap) (locs : List Loc) (ls : Array Slot), va_P G vwCl (wMo cy a m_1 m1 m2 m3 m4 m5 m6 m7 m8 m9 mb ms md mp mf mi mo mw mn mk mt mq mz me) H → va_D A (wMo cy a m_1 m1 m2 m3 m4 m5 m6 m7 m8 m9 mb ms md mp mf mi mo mw mn mk mt mq mz me) → va_S A s.heap H locs → lv_has ls 2 [(0, .ref (a 0)), (1, .int x01)] → j_X8_best_20 ms mf mi mo mw mn mz me x01 m_1 = some o → W p l e (zR 5) s m ([.ref (a 0), .int x01] : List Value).toArray below meth c H locs 0 0 (MQ below (zQi G cy A (wMo cy a o.2.1 m1 m2 m3 m4 m5 m6 m7 m8 o.2.2.1 mb o.2.2.2.1 md mp o.2.2.2.2.1 o.2.2.2.2.2.1 o.2.2.2.2.2.2.1 o.2.2.2.2.2.2.2.1 o.2.2.2.2.2.2.2.2.1 mk mt mq o.2.2.2.2.2.2.2.2.2.1 o.2.2.2.2.2.2.2.2.2.2) o.1) ([.ref (a 0), .int x01] : List Value).toArray s 0 0 A) (F0 m 20 ls []) := by
    intro H locs ls hP hD hS hl hF
    unfold j_X8_best_20 at hF
    refine lv_aload_n hx hb dX8_best_20 rfl (lv_at hl 0 rfl) ?_
    refine z_cVv (b := a 0) (As := []) (rest := []) (wc := (wMo cy a m_1 m1 m2 m3 m4 m5 m6 m7 m8 m9 mb ms md mp mf mi mo mw mn mk mt mq mz me)) (wcf := fun o' => (wMo cy a m_1 m1 m2 m3 m4 m5 m6 m7 m8 o'.1 mb o'.2.1 md mp o'.2.2.1 o'.2.2.2.1 o'.2.2.2.2.1 o'.2.2.2.2.2.1 o'.2.2.2.2.2.2.1 mk mt mq o'.2.2.2.2.2.2.2.1 o'.2.2.2.2.2.2.2.2)) (wf := fun o' => (wMo cy a m_1 m1 m2 m3 m4 m5 m6 m7 m8 o'.1 mb o'.2.1 md mp o'.2.2.1 o'.2.2.2.1 o'.2.2.2.2.1 o'.2.2.2.2.2.1 o'.2.2.2.2.2.2.1 mk mt mq o'.2.2.2.2.2.2.2.1 o'.2.2.2.2.2.2.2.2)) hF (fun o' hz => c_X8_findsBest l G cy st a m_1 m1 m2 m3 m4 m5 m6 m7 m8 m9 mb ms md mp mf mi mo mw mn mk mt mq mz me o' hz) (fun o' => zCut_all) ⟨hx, hb, hml, hown, hts⟩ (cwV 0 hts gX8_best_X8_findsBest rfl rfl rfl (by decide +kernel) ⟨by decide, by decide⟩) (ci := 8) (q0 := 0) rfl (wMo_at0 cy a m_1 m1 m2 m3 m4 m5 m6 m7 m8 m9 mb ms md mp mf mi mo mw mn mk mt mq mz me) hK hSE hA hP hD hS rfl hl.1 rfl (Nat.le_of_ble_eq_true rfl) dX8_best_21 ⟨Nat.le_refl _, Nat.le_refl _⟩ (fun o2 hF H locs hP hD hS => ?_)
    refine z_nameW (wf := (fun y => (wMo cy a m_1 m1 m2 m3 m4 m5 m6 m7 m8 y mb o2.2.1 md mp o2.2.2.1 o2.2.2.2.1 o2.2.2.2.2.1 o2.2.2.2.2.2.1 o2.2.2.2.2.2.2.1 mk mt mq o2.2.2.2.2.2.2.2.1 o2.2.2.2.2.2.2.2.2))) hF hP hD (fun m_3 hF hP hD => ?_)
    refine z_nameW (wf := (fun y => (wMo cy a m_1 m1 m2 m3 m4 m5 m6 m7 m8 m_3 mb y md mp o2.2.2.1 o2.2.2.2.1 o2.2.2.2.2.1 o2.2.2.2.2.2.1 o2.2.2.2.2.2.2.1 mk mt mq o2.2.2.2.2.2.2.2.1 o2.2.2.2.2.2.2.2.2))) hF hP hD (fun ms_4 hF hP hD => ?_)
    refine z_nameW (wf := (fun y => (wMo cy a m_1 m1 m2 m3 m4 m5 m6 m7 m8 m_3 mb ms_4 md mp y o2.2.2.2.1 o2.2.2.2.2.1 o2.2.2.2.2.2.1 o2.2.2.2.2.2.2.1 mk mt mq o2.2.2.2.2.2.2.2.1 o2.2.2.2.2.2.2.2.2))) hF hP hD (fun mf_5 hF hP hD => ?_)
    refine z_nameW (wf := (fun y => (wMo cy a m_1 m1 m2 m3 m4 m5 m6 m7 m8 m_3 mb ms_4 md mp mf_5 y o2.2.2.2.2.1 o2.2.2.2.2.2.1 o2.2.2.2.2.2.2.1 mk mt mq o2.2.2.2.2.2.2.2.1 o2.2.2.2.2.2.2.2.2))) hF hP hD (fun mi_6 hF hP hD => ?_)
    refine z_nameW (wf := (fun y => (wMo cy a m_1 m1 m2 m3 m4 m5 m6 m7 m8 m_3 mb ms_4 md mp mf_5 mi_6 y o2.2.2.2.2.2.1 o2.2.2.2.2.2.2.1 mk mt mq o2.2.2.2.2.2.2.2.1 o2.2.2.2.2.2.2.2.2))) hF hP hD (fun mo_7 hF hP hD => ?_)
    refine z_nameW (wf := (fun y => (wMo cy a m_1 m1 m2 m3 m4 m5 m6 m7 m8 m_3 mb ms_4 md mp mf_5 mi_6 mo_7 y o2.2.2.2.2.2.2.1 mk mt mq o2.2.2.2.2.2.2.2.1 o2.2.2.2.2.2.2.2.2))) hF hP hD (fun mw_8 hF hP hD => ?_)
    refine z_nameW (wf := (fun y => (wMo cy a m_1 m1 m2 m3 m4 m5 m6 m7 m8 m_3 mb ms_4 md mp mf_5 mi_6 mo_7 mw_8 y mk mt mq o2.2.2.2.2.2.2.2.1 o2.2.2.2.2.2.2.2.2))) hF hP hD (fun mn_9 hF hP hD => ?_)
    refine z_nameW (wf := (fun y => (wMo cy a m_1 m1 m2 m3 m4 m5 m6 m7 m8 m_3 mb ms_4 md mp mf_5 mi_6 mo_7 mw_8 mn_9 mk mt mq y o2.2.2.2.2.2.2.2.2))) hF hP hD (fun mz_10 hF hP hD => ?_)
    refine z_nameW (wf := (fun y => (wMo cy a m_1 m1 m2 m3 m4 m5 m6 m7 m8 m_3 mb ms_4 md mp mf_5 mi_6 mo_7 mw_8 mn_9 mk mt mq mz_10 y))) hF hP hD (fun me_11 hF hP hD => ?_)
    refine lv_iload_n hx hb dX8_best_24 rfl (lv_at hl 1 rfl) ?_
    refine zf_ge (tgt := 35) hx hb hF dX8_best_25 (by decide) (fun hF => ?_) (fun hF => ?_)
    · refine lv_aload_n hx hb dX8_best_35 rfl (lv_at hl 0 rfl) ?_
      refine va_get (ci := 8) (C := RX8) (T := TX8) (N := 24) (fs := (zMo a m_1 m1 m2 m3 m4 m5 m6 m7 m8 m_3)) (v := .ref (a 14)) hx hb hts iX8 hown hK hP _ (wMo_at0 cy a m_1 m1 m2 m3 m4 m5 m6 m7 m8 m_3 mb ms_4 md mp mf_5 mi_6 mo_7 mw_8 mn_9 mk mt mq mz_10 me_11) rfl 22 (by decide) k52 (fun _ h9 => h9) rfl dX8_best_36 ?_
      refine lv_iload_n hx hb dX8_best_39 rfl (lv_at hl 1 rfl) ?_
      refine z_iald (n := 4) (f := me_11) hx hb hK hP _ 1 (wMo_at14 cy a m_1 m1 m2 m3 m4 m5 m6 m7 m8 m_3 mb ms_4 md mp mf_5 mi_6 mo_7 mw_8 mn_9 mk mt mq mz_10 me_11) rfl hF dX8_best_40 (fun hF => ?_)
      refine lv_sipush (v := 1000) hx hb dX8_best_41 (by decide) ?_
      refine lv_iadd hx hb dX8_best_44 ?_
      refine z_iret (o := o) (o1 := (((me_11 (zn x01)) + 1000), m_1, m_3, ms_4, mf_5, mi_6, mo_7, mw_8, mn_9, mz_10, me_11)) (v := ((me_11 (zn x01)) + 1000)) (wf := (fun o => (wMo cy a o.2.1 m1 m2 m3 m4 m5 m6 m7 m8 o.2.2.1 mb o.2.2.2.1 md mp o.2.2.2.2.1 o.2.2.2.2.2.1 o.2.2.2.2.2.2.1 o.2.2.2.2.2.2.2.1 o.2.2.2.2.2.2.2.2.1 mk mt mq o.2.2.2.2.2.2.2.2.2.1 o.2.2.2.2.2.2.2.2.2.2))) (rf := fun o => o.1) hx hb hr hlocks hK ?_ ?_ hS ?_ rfl dX8_best_45
      · exact hP
      · exact hD
      · exact hF
    · refine lv_aload_n hx hb dX8_best_28 rfl (lv_at hl 0 rfl) ?_
      refine va_get (ci := 8) (C := RX8) (T := TX8) (N := 24) (fs := (zMo a m_1 m1 m2 m3 m4 m5 m6 m7 m8 m_3)) (v := .int m_3) hx hb hts iX8 hown hK hP _ (wMo_at0 cy a m_1 m1 m2 m3 m4 m5 m6 m7 m8 m_3 mb ms_4 md mp mf_5 mi_6 mo_7 mw_8 mn_9 mk mt mq mz_10 me_11) rfl 23 (by decide) k168 (fun _ h9 => h9) rfl dX8_best_29 ?_
      refine lv_goto (tgt := 45) hx hb dX8_best_32 (by decide) ?_
      refine z_iret (o := o) (o1 := (m_3, m_1, m_3, ms_4, mf_5, mi_6, mo_7, mw_8, mn_9, mz_10, me_11)) (v := m_3) (wf := (fun o => (wMo cy a o.2.1 m1 m2 m3 m4 m5 m6 m7 m8 o.2.2.1 mb o.2.2.2.1 md mp o.2.2.2.2.1 o.2.2.2.2.2.1 o.2.2.2.2.2.2.1 o.2.2.2.2.2.2.2.1 o.2.2.2.2.2.2.2.2.1 mk mt mq o.2.2.2.2.2.2.2.2.2.1 o.2.2.2.2.2.2.2.2.2.2))) (rf := fun o => o.1) hx hb hr hlocks hK ?_ ?_ hS ?_ rfl dX8_best_45
      · exact hP
      · exact hD
      · exact hF
  refine zi_eq (tgt := 20) hx hb hF dX8_best_7 (by decide) (fun hF => ?_) (fun hF => ?_)
  · exact J20 _ _ ls hP hD hS (lv_sub hl [0, 1] rfl) hF
  · refine lv_aload_n hx hb dX8_best_10 rfl (lv_at hl 0 rfl) ?_
    refine lv_iload_n hx hb dX8_best_11 rfl (lv_at hl 1 rfl) ?_
    refine z_cVi (b := a 0) (As := [.int x01]) (rest := []) (wc := (wMo cy a m_1 m1 m2 m3 m4 m5 m6 m7 m8 m9 mb ms md mp mf mi mo mw mn mk mt mq mz me)) (wcf := fun o' => (wMo cy a m_1 m1 m2 m3 m4 m5 m6 m7 m8 m9 mb ms md mp mf mi mo mw mn mk mt mq mz me)) (wf := fun o' => (wMo cy a m_1 m1 m2 m3 m4 m5 m6 m7 m8 m9 mb ms md mp mf mi mo mw mn mk mt mq mz me)) (rf := fun o' => o') hF (fun o' hz => c_X8_isStage l G cy st a m_1 m1 m2 m3 m4 m5 m6 m7 m8 m9 mb ms md mp mf mi mo mw mn mk mt mq mz me x01 o' hz) (fun o' => zCut_all) ⟨hx, hb, hml, hown, hts⟩ (cwV 1 hts gX8_best_X8_isStage rfl rfl rfl (by decide +kernel) ⟨by decide, by decide⟩) (ci := 8) (q0 := 0) rfl (wMo_at0 cy a m_1 m1 m2 m3 m4 m5 m6 m7 m8 m9 mb ms md mp mf mi mo mw mn mk mt mq mz me) hK hSE hA hP hD hS rfl hl.1 rfl (Nat.le_of_ble_eq_true rfl) dX8_best_12 ⟨Nat.le_refl _, Nat.le_refl _⟩ (fun o12 hF H locs hP hD hS => ?_)
    refine zf_ne (tgt := 20) hx hb hF dX8_best_15 (by decide) (fun hF => ?_) (fun hF => ?_)
    · exact J20 _ _ ls hP hD hS (lv_sub hl [0, 1] rfl) hF
    · refine lv_iconst (v := (-1)) hx hb dX8_best_18 (by decide) ?_
      refine z_iret (o := o) (o1 := ((-1), m_1, m9, ms, mf, mi, mo, mw, mn, mz, me)) (v := (-1)) (wf := (fun o => (wMo cy a o.2.1 m1 m2 m3 m4 m5 m6 m7 m8 o.2.2.1 mb o.2.2.2.1 md mp o.2.2.2.2.1 o.2.2.2.2.2.1 o.2.2.2.2.2.2.1 o.2.2.2.2.2.2.2.1 o.2.2.2.2.2.2.2.2.1 mk mt mq o.2.2.2.2.2.2.2.2.2.1 o.2.2.2.2.2.2.2.2.2.2))) (rf := fun o => o.1) hx hb hr hlocks hK ?_ ?_ hS ?_ rfl dX8_best_19
      · exact hP
      · exact hD
      · exact hF
def j_X8_ratio_110 (x02 : Int32) (m_1 : Int32) (y4 : Int64) (y5 : Int64) (y6 : Int64) : Option (Int64 × Int32) :=
if x02 = 0 then (
zg (decide (¬ y6 = 0)) (
some ((y4 / y6), m_1))) else (
zg (decide (¬ y6 = 0)) (
some ((y5 / y6), m_1)))
def b_X8_ratio_85 (x02 : Int32) (m_1 : Int32) (y4 : Int64) (y5 : Int64) (rc85 : (Int64 × Int64) → Option (Int64 × Int32)) (s85 : Int64 × Int64) : Option (Int64 × Int32) :=
if (lg_cmp s85.2 0) = 0 then (
j_X8_ratio_110 x02 m_1 y4 y5 s85.1) else (
zg (decide (¬ s85.2 = 0)) (
zlet (s85.1 - s85.1 / s85.2 * s85.2) fun x10 =>
rc85 (s85.2, x10)))
def j_X8_ratio_78 (x02 : Int32) (m_1 : Int32) (y4 : Int64) (y5 : Int64) : Option (Int64 × Int32) :=
zloop (b_X8_ratio_85 x02 m_1 y4 y5) 1000 (y4, y5)
def b_X8_ratio_34 (ms : Nat → Int32) (x01 : Int32) (x02 : Int32) (m_1 : Int32) (rc34 : (Int64 × Int64 × Int32) → Option (Int64 × Int32)) (s34 : Int64 × Int64 × Int32) : Option (Int64 × Int32) :=
if x01 < s34.2.2 then (
j_X8_ratio_78 x02 m_1 s34.1 s34.2.1) else (
zbd (f_X8_of ms s34.2.2 7) fun o11 =>
zbd (f_X8_of ms s34.2.2 0) fun o12 =>
zlet (s34.1 * (Int32.toInt64 (1000 + (o11 * o12)))) fun x13 =>
zlet (s34.2.1 * 1000) fun x14 =>
zlet (s34.2.2 + 1) fun x15 =>
rc34 (x13, x14, x15))
def f_X8_ratio (ms : Nat → Int32) (x01 : Int32) (x02 : Int32) : Option (Int64 × Int32) :=
zlet 0 fun m_1 =>
zbd (f_X8_isStage ms x01) fun o2 =>
if o2 = 0 then (
some ((-1), m_1)) else (
zbd (f_X8_in x02 0 1) fun o3 =>
if o3 = 0 then (
some ((-1), m_1)) else (
zloop (b_X8_ratio_34 ms x01 x02 m_1) 1000 (1, 1, 0)))
set_option maxHeartbeats 4000000 in
set_option maxRecDepth 100000 in
theorem c_X8_ratio (l : Launch) (G : va_G) (cy : Nat → ClassId) (st : Nat → Nat) (a : Nat → Nat) (m0 : Int32) (m1 : Int32) (m2 : Int32) (m3 : Int32) (m4 : Int32) (m5 : Int32) (m6 : Int32) (m7 : Int32) (m8 : Int32) (m9 : Int32) (mb : Nat → Int32) (ms : Nat → Int32) (md : Nat → Int32) (mp : Nat → Int32) (mf : Nat → Int32) (mi : Nat → Int32) (mo : Nat → Int32) (mw : Nat → Int32) (mn : Nat → Int32) (mk : Nat → Int32) (mt : Nat → Int64) (mq : Nat → Int32) (mz : Nat → Int32) (me : Nat → Int32) (x01 : Int32) (x02 : Int32) (o : Int64 × Int32) (hF : f_X8_ratio ms x01 x02 = some o) : zMl l yX8_ratio wsX8_ratio (zR 3) G cy st [.ref (a 0), .int x01, .int x02] (wMo cy a m0 m1 m2 m3 m4 m5 m6 m7 m8 m9 mb ms md mp mf mi mo mw mn mk mt mq mz me) (wMo cy a o.2 m1 m2 m3 m4 m5 m6 m7 m8 m9 mb ms md mp mf mi mo mw mn mk mt mq mz me) o.1 := by
  refine zM_of (cc := cX8_ratio) (maxL := 13) (ret := (some .long)) (Qc := fun A => zQl G cy A (wMo cy a o.2 m1 m2 m3 m4 m5 m6 m7 m8 m9 mb ms md mp mf mi mo mw mn mk mt mq mz me) o.1) (by decide) rfl (Nat.le_of_ble_eq_true rfl) ?_
  intro p e s m below meth c A ls hx hb hml hr hlocks hown hts hK hSE hA hP hD hS hl
  have hown : s.vm.findClass RX8 = some m.cls := hown
  have hl : lv_has ls 13 [(0, .ref (a 0)), (1, .int x01), (2, .int x02)] := hl
  have k59 := hts (.fieldLink RX8 59 "TapCascadeModel" "thrown" "I") (by decide +kernel)
  have iX8 : ∀ w ∈ wsX80, w ∈ wsX8_ratio := fun w h => List.mem_cons_of_mem _ (List.mem_append_right _ h)
  have k180 := hts (.constantLong RX8 180 (-1)) (by decide +kernel)
  have k182 := hts (.constantLong RX8 182 (1000)) (by decide +kernel)
  unfold f_X8_ratio at hF
  refine lv_aload_n hx hb dX8_ratio_0 rfl (lv_at hl 0 rfl) ?_
  refine lv_iconst (v := 0) hx hb dX8_ratio_1 (by decide) ?_
  refine z_puti (ci := 8) (C := RX8) (T := TX8) (N := 24) (fs := (zMo a m0 m1 m2 m3 m4 m5 m6 m7 m8 m9)) (x := 0) (wf := (fun y => (wMo cy a y m1 m2 m3 m4 m5 m6 m7 m8 m9 mb ms md mp mf mi mo mw mn mk mt mq mz me))) hx hb hts iX8 tyX8 tyX8_ok nmX8 hown hK hP hD hS _ 0 (wMo_foc0_0 cy a m0 m1 m2 m3 m4 m5 m6 m7 m8 m9 mb ms md mp mf mi mo mw mn mk mt mq mz me 0) rfl (by decide) k59 (fun _ h9 => h9) rfl (by decide +kernel) (Nat.le_of_ble_eq_true rfl) hF dX8_ratio_2 (fun m_1 hF H locs hP hD hS => ?_)
  refine lv_aload_n hx hb dX8_ratio_5 rfl (lv_at hl 0 rfl) ?_
  refine lv_iload_n hx hb dX8_ratio_6 rfl (lv_at hl 1 rfl) ?_
  refine z_cVi (b := a 0) (As := [.int x01]) (rest := []) (wc := (wMo cy a m_1 m1 m2 m3 m4 m5 m6 m7 m8 m9 mb ms md mp mf mi mo mw mn mk mt mq mz me)) (wcf := fun o' => (wMo cy a m_1 m1 m2 m3 m4 m5 m6 m7 m8 m9 mb ms md mp mf mi mo mw mn mk mt mq mz me)) (wf := fun o' => (wMo cy a m_1 m1 m2 m3 m4 m5 m6 m7 m8 m9 mb ms md mp mf mi mo mw mn mk mt mq mz me)) (rf := fun o' => o') hF (fun o' hz => c_X8_isStage l G cy st a m_1 m1 m2 m3 m4 m5 m6 m7 m8 m9 mb ms md mp mf mi mo mw mn mk mt mq mz me x01 o' hz) (fun o' => zCut_all) ⟨hx, hb, hml, hown, hts⟩ (cwV 1 hts gX8_ratio_X8_isStage rfl rfl rfl (by decide +kernel) ⟨by decide, by decide⟩) (ci := 8) (q0 := 0) rfl (wMo_at0 cy a m_1 m1 m2 m3 m4 m5 m6 m7 m8 m9 mb ms md mp mf mi mo mw mn mk mt mq mz me) hK hSE hA hP hD hS rfl hl.1 rfl (Nat.le_of_ble_eq_true rfl) dX8_ratio_7 ⟨Nat.le_refl _, Nat.le_refl _⟩ (fun o2 hF H locs hP hD hS => ?_)
  refine zf_eq (tgt := 22) hx hb hF dX8_ratio_10 (by decide) (fun hF => ?_) (fun hF => ?_)
  · refine lv_ldc2 (v := (-1)) hx hb hown k180 dX8_ratio_22 ?_
    refine z_lret (o := o) (o1 := ((-1), m_1)) (v := (-1)) (wf := (fun o => (wMo cy a o.2 m1 m2 m3 m4 m5 m6 m7 m8 m9 mb ms md mp mf mi mo mw mn mk mt mq mz me))) (rf := fun o => o.1) hx hb hr hlocks hK ?_ ?_ hS ?_ rfl dX8_ratio_25
    · exact hP
    · exact hD
    · exact hF
  · refine lv_iload_n hx hb dX8_ratio_13 rfl (lv_at hl 2 rfl) ?_
    refine lv_iconst (v := 0) hx hb dX8_ratio_14 (by decide) ?_
    refine lv_iconst (v := 1) hx hb dX8_ratio_15 (by decide) ?_
    refine z_cSi (As := [.int x02, .int 0, .int 1]) (rest := []) (wc := ([] : va_W)) (wcf := fun o' => ([] : va_W)) (wf := fun o' => (wMo cy a m_1 m1 m2 m3 m4 m5 m6 m7 m8 m9 mb ms md mp mf mi mo mw mn mk mt mq mz me)) (rf := fun o' => o') hF (fun o' hz => c_X8_in l G cy st x02 0 1 o' hz) (fun o' => zCut_nil) ⟨hx, hb, hml, hown, hts⟩ (va_cwS 3 hts gX8_ratio_X8_in rfl rfl rfl (by decide +kernel) ⟨by decide, by decide⟩) hK hSE hA hP hD hS rfl hl.1 rfl (Nat.le_of_ble_eq_true rfl) dX8_ratio_16 ⟨Nat.le_refl _, Nat.le_refl _⟩ (fun o3 hF H locs hP hD hS => ?_)
    refine zf_ne (tgt := 26) hx hb hF dX8_ratio_19 (by decide) (fun hF => ?_) (fun hF => ?_)
    · refine lv_lconst (v := 1) hx hb dX8_ratio_26 (by decide) ?_
      refine lv_lstore_n (lv' := [(3, .long 1), (0, .ref (a 0)), (1, .int x01), (2, .int x02)]) hx hb dX8_ratio_27 rfl hl (by decide) rfl (fun ls hl => ?_)
      refine lv_lconst (v := 1) hx hb dX8_ratio_28 (by decide) ?_
      refine lv_lstore (lv' := [(5, .long 1), (3, .long 1), (0, .ref (a 0)), (1, .int x01), (2, .int x02)]) hx hb dX8_ratio_29 hl (by decide) rfl (fun ls hl => ?_)
      refine lv_iconst (v := 0) hx hb dX8_ratio_31 (by decide) ?_
      refine lv_istore (lv' := [(7, .int 0), (5, .long 1), (3, .long 1), (0, .ref (a 0)), (1, .int x01), (2, .int x02)]) hx hb dX8_ratio_32 hl (by decide) rfl (fun ls hl => ?_)
      have J78 : ∀ (y4 : Int64) (y5 : Int64) (H : Heap) (locs : List Loc) (ls : Array Slot), va_P G vwCl (wMo cy a m_1 m1 m2 m3 m4 m5 m6 m7 m8 m9 mb ms md mp mf mi mo mw mn mk mt mq mz me) H → va_D A (wMo cy a m_1 m1 m2 m3 m4 m5 m6 m7 m8 m9 mb ms md mp mf mi mo mw mn mk mt mq mz me) → va_S A s.heap H locs → lv_has ls 13 [(2, .int x02), (3, .long y4), (5, .long y5)] → j_X8_ratio_78 x02 m_1 y4 y5 = some o → W p l e (zR 3) s m ([.ref (a 0), .int x01, .int x02] : List Value).toArray below meth c H locs 0 0 (MQ below (zQl G cy A (wMo cy a o.2 m1 m2 m3 m4 m5 m6 m7 m8 m9 mb ms md mp mf mi mo mw mn mk mt mq mz me) o.1) ([.ref (a 0), .int x01, .int x02] : List Value).toArray s 0 0 A) (F0 m 78 ls []) := by
        intro y4 y5 H locs ls hP hD hS hl hF
        unfold j_X8_ratio_78 at hF
        refine lv_lload_n hx hb dX8_ratio_78 rfl (lv_at hl 1 rfl) ?_
        refine lv_lstore (lv' := [(7, .long y4), (2, .int x02), (3, .long y4), (5, .long y5)]) hx hb dX8_ratio_79 hl (by decide) rfl (fun ls hl => ?_)
        refine lv_lload hx hb dX8_ratio_81 (lv_at hl 3 rfl) ?_
        refine lv_lstore (lv' := [(9, .long y5), (7, .long y4), (2, .int x02), (3, .long y4), (5, .long y5)]) hx hb dX8_ratio_83 hl (by decide) rfl (fun ls hl => ?_)
        have J110 : ∀ (y6 : Int64) (H : Heap) (locs : List Loc) (ls : Array Slot), va_P G vwCl (wMo cy a m_1 m1 m2 m3 m4 m5 m6 m7 m8 m9 mb ms md mp mf mi mo mw mn mk mt mq mz me) H → va_D A (wMo cy a m_1 m1 m2 m3 m4 m5 m6 m7 m8 m9 mb ms md mp mf mi mo mw mn mk mt mq mz me) → va_S A s.heap H locs → lv_has ls 13 [(2, .int x02), (3, .long y4), (5, .long y5), (7, .long y6)] → j_X8_ratio_110 x02 m_1 y4 y5 y6 = some o → W p l e (zR 3) s m ([.ref (a 0), .int x01, .int x02] : List Value).toArray below meth c H locs 0 0 (MQ below (zQl G cy A (wMo cy a o.2 m1 m2 m3 m4 m5 m6 m7 m8 m9 mb ms md mp mf mi mo mw mn mk mt mq mz me) o.1) ([.ref (a 0), .int x01, .int x02] : List Value).toArray s 0 0 A) (F0 m 110 ls []) := by
          intro y6 H locs ls hP hD hS hl hF
          unfold j_X8_ratio_110 at hF
          refine lv_iload_n hx hb dX8_ratio_110 rfl (lv_at hl 0 rfl) ?_
          refine zf_ne (tgt := 121) hx hb hF dX8_ratio_111 (by decide) (fun hF => ?_) (fun hF => ?_)
          · refine lv_lload hx hb dX8_ratio_121 (lv_at hl 2 rfl) ?_
            refine lv_lload hx hb dX8_ratio_123 (lv_at hl 3 rfl) ?_
            obtain ⟨g7, hF⟩ := zg_some hF
            refine lv_ldiv hx hb dX8_ratio_125 (of_decide_eq_true g7) ?_
            refine z_lret (o := o) (o1 := ((y5 / y6), m_1)) (v := (y5 / y6)) (wf := (fun o => (wMo cy a o.2 m1 m2 m3 m4 m5 m6 m7 m8 m9 mb ms md mp mf mi mo mw mn mk mt mq mz me))) (rf := fun o => o.1) hx hb hr hlocks hK ?_ ?_ hS ?_ rfl dX8_ratio_126
            · exact hP
            · exact hD
            · exact hF
          · refine lv_lload_n hx hb dX8_ratio_114 rfl (lv_at hl 1 rfl) ?_
            refine lv_lload hx hb dX8_ratio_115 (lv_at hl 3 rfl) ?_
            obtain ⟨g8, hF⟩ := zg_some hF
            refine lv_ldiv hx hb dX8_ratio_117 (of_decide_eq_true g8) ?_
            refine lv_goto (tgt := 126) hx hb dX8_ratio_118 (by decide) ?_
            refine z_lret (o := o) (o1 := ((y4 / y6), m_1)) (v := (y4 / y6)) (wf := (fun o => (wMo cy a o.2 m1 m2 m3 m4 m5 m6 m7 m8 m9 mb ms md mp mf mi mo mw mn mk mt mq mz me))) (rf := fun o => o.1) hx hb hr hlocks hK ?_ ?_ hS ?_ rfl dX8_ratio_126
            · exact hP
            · exact hD
            · exact hF
        have L85 : ∀ (n : Nat) (s85 : Int64 × Int64) (H : Heap) (locs : List Loc) (ls : Array Slot), va_P G vwCl (wMo cy a m_1 m1 m2 m3 m4 m5 m6 m7 m8 m9 mb ms md mp mf mi mo mw mn mk mt mq mz me) H → va_D A (wMo cy a m_1 m1 m2 m3 m4 m5 m6 m7 m8 m9 mb ms md mp mf mi mo mw mn mk mt mq mz me) → va_S A s.heap H locs → lv_has ls 13 [(2, .int x02), (3, .long y4), (5, .long y5), (7, .long s85.1), (9, .long s85.2)] → zloop (b_X8_ratio_85 x02 m_1 y4 y5) n s85 = some o → W p l e (zR 3) s m ([.ref (a 0), .int x01, .int x02] : List Value).toArray below meth c H locs 0 0 (MQ below (zQl G cy A (wMo cy a o.2 m1 m2 m3 m4 m5 m6 m7 m8 m9 mb ms md mp mf mi mo mw mn mk mt mq mz me) o.1) ([.ref (a 0), .int x01, .int x02] : List Value).toArray s 0 0 A) (F0 m 85 ls []) := by
          intro n
          induction n with
          | zero => exact fun s85 H locs ls _ _ _ _ hF => (zloop_0 hF).elim
          | succ n ih85 =>
            intro s85 H locs ls hP hD hS hl hF
            have hF : b_X8_ratio_85 x02 m_1 y4 y5 (zloop (b_X8_ratio_85 x02 m_1 y4 y5) n) s85 = some o := hF
            generalize zloop (b_X8_ratio_85 x02 m_1 y4 y5) n = rc85 at ih85 hF
            unfold b_X8_ratio_85 at hF
            refine lv_lload hx hb dX8_ratio_85 (lv_at hl 4 rfl) ?_
            refine lv_lconst (v := 0) hx hb dX8_ratio_87 (by decide) ?_
            refine W.lcmp hx hb dX8_ratio_88 ?_
            refine zf_eq (tgt := 110) hx hb hF dX8_ratio_89 (by decide) (fun hF => ?_) (fun hF => ?_)
            · exact J110 s85.1 _ _ ls hP hD hS (lv_sub hl [0, 1, 2, 3] rfl) hF
            · refine lv_lload hx hb dX8_ratio_92 (lv_at hl 3 rfl) ?_
              refine lv_lload hx hb dX8_ratio_94 (lv_at hl 4 rfl) ?_
              obtain ⟨g9, hF⟩ := zg_some hF
              refine lv_lrem hx hb dX8_ratio_96 (of_decide_eq_true g9) ?_
              refine z_letl hF (fun x10 hF => ?_)
              refine lv_lstore (lv' := [(11, .long x10), (2, .int x02), (3, .long y4), (5, .long y5), (7, .long s85.1), (9, .long s85.2)]) hx hb dX8_ratio_97 hl (by decide) rfl (fun ls hl => ?_)
              refine lv_lload hx hb dX8_ratio_99 (lv_at hl 5 rfl) ?_
              refine lv_lstore (lv' := [(7, .long s85.2), (11, .long x10), (2, .int x02), (3, .long y4), (5, .long y5), (9, .long s85.2)]) hx hb dX8_ratio_101 hl (by decide) rfl (fun ls hl => ?_)
              refine lv_lload hx hb dX8_ratio_103 (lv_at hl 1 rfl) ?_
              refine lv_lstore (lv' := [(9, .long x10), (7, .long s85.2), (11, .long x10), (2, .int x02), (3, .long y4), (5, .long y5)]) hx hb dX8_ratio_105 hl (by decide) rfl (fun ls hl => ?_)
              refine lv_goto (tgt := 85) hx hb dX8_ratio_107 (by decide) ?_
              exact ih85 (s85.2, x10) _ _ ls hP hD hS (lv_sub hl [3, 4, 5, 1, 0] rfl) hF
        exact L85 1000 (y4, y5) _ _ ls hP hD hS (lv_sub hl [2, 3, 4, 1, 0] rfl) hF
      have L34 : ∀ (n : Nat) (s34 : Int64 × Int64 × Int32) (H : Heap) (locs : List Loc) (ls : Array Slot), va_P G vwCl (wMo cy a m_1 m1 m2 m3 m4 m5 m6 m7 m8 m9 mb ms md mp mf mi mo mw mn mk mt mq mz me) H → va_D A (wMo cy a m_1 m1 m2 m3 m4 m5 m6 m7 m8 m9 mb ms md mp mf mi mo mw mn mk mt mq mz me) → va_S A s.heap H locs → lv_has ls 13 [(0, .ref (a 0)), (1, .int x01), (2, .int x02), (3, .long s34.1), (5, .long s34.2.1), (7, .int s34.2.2)] → zloop (b_X8_ratio_34 ms x01 x02 m_1) n s34 = some o → W p l e (zR 3) s m ([.ref (a 0), .int x01, .int x02] : List Value).toArray below meth c H locs 0 0 (MQ below (zQl G cy A (wMo cy a o.2 m1 m2 m3 m4 m5 m6 m7 m8 m9 mb ms md mp mf mi mo mw mn mk mt mq mz me) o.1) ([.ref (a 0), .int x01, .int x02] : List Value).toArray s 0 0 A) (F0 m 34 ls []) := by
        intro n
        induction n with
        | zero => exact fun s34 H locs ls _ _ _ _ hF => (zloop_0 hF).elim
        | succ n ih34 =>
          intro s34 H locs ls hP hD hS hl hF
          have hF : b_X8_ratio_34 ms x01 x02 m_1 (zloop (b_X8_ratio_34 ms x01 x02 m_1) n) s34 = some o := hF
          generalize zloop (b_X8_ratio_34 ms x01 x02 m_1) n = rc34 at ih34 hF
          unfold b_X8_ratio_34 at hF
          refine lv_iload hx hb dX8_ratio_34 (lv_at hl 5 rfl) ?_
          refine lv_iload_n hx hb dX8_ratio_36 rfl (lv_at hl 1 rfl) ?_
          refine zi_gt (tgt := 78) hx hb hF dX8_ratio_37 (by decide) (fun hF => ?_) (fun hF => ?_)
          · exact J78 s34.1 s34.2.1 _ _ ls hP hD hS (lv_sub hl [2, 3, 4] rfl) hF
          · refine lv_lload_n hx hb dX8_ratio_40 rfl (lv_at hl 3 rfl) ?_
            refine lv_sipush (v := 1000) hx hb dX8_ratio_41 (by decide) ?_
            refine lv_aload_n hx hb dX8_ratio_44 rfl (lv_at hl 0 rfl) ?_
            refine lv_iload hx hb dX8_ratio_45 (lv_at hl 5 rfl) ?_
            refine lv_bipush (v := 7) hx hb dX8_ratio_47 (by decide) ?_
            refine z_cVi (b := a 0) (As := [.int s34.2.2, .int 7]) (rest := [.int 1000, .long s34.1]) (wc := (wMo cy a m_1 m1 m2 m3 m4 m5 m6 m7 m8 m9 mb ms md mp mf mi mo mw mn mk mt mq mz me)) (wcf := fun o' => (wMo cy a m_1 m1 m2 m3 m4 m5 m6 m7 m8 m9 mb ms md mp mf mi mo mw mn mk mt mq mz me)) (wf := fun o' => (wMo cy a m_1 m1 m2 m3 m4 m5 m6 m7 m8 m9 mb ms md mp mf mi mo mw mn mk mt mq mz me)) (rf := fun o' => o') hF (fun o' hz => c_X8_of l G cy st a m_1 m1 m2 m3 m4 m5 m6 m7 m8 m9 mb ms md mp mf mi mo mw mn mk mt mq mz me s34.2.2 7 o' hz) (fun o' => zCut_all) ⟨hx, hb, hml, hown, hts⟩ (cwV 2 hts gX8_ratio_X8_of rfl rfl rfl (by decide +kernel) ⟨by decide, by decide⟩) (ci := 8) (q0 := 0) rfl (wMo_at0 cy a m_1 m1 m2 m3 m4 m5 m6 m7 m8 m9 mb ms md mp mf mi mo mw mn mk mt mq mz me) hK hSE hA hP hD hS rfl hl.1 rfl (Nat.le_of_ble_eq_true rfl) dX8_ratio_49 ⟨Nat.le_refl _, Nat.le_refl _⟩ (fun o11 hF H locs hP hD hS => ?_)
            refine lv_aload_n hx hb dX8_ratio_52 rfl (lv_at hl 0 rfl) ?_
            refine lv_iload hx hb dX8_ratio_53 (lv_at hl 5 rfl) ?_
            refine lv_iconst (v := 0) hx hb dX8_ratio_55 (by decide) ?_
            refine z_cVi (b := a 0) (As := [.int s34.2.2, .int 0]) (rest := [.int o11, .int 1000, .long s34.1]) (wc := (wMo cy a m_1 m1 m2 m3 m4 m5 m6 m7 m8 m9 mb ms md mp mf mi mo mw mn mk mt mq mz me)) (wcf := fun o' => (wMo cy a m_1 m1 m2 m3 m4 m5 m6 m7 m8 m9 mb ms md mp mf mi mo mw mn mk mt mq mz me)) (wf := fun o' => (wMo cy a m_1 m1 m2 m3 m4 m5 m6 m7 m8 m9 mb ms md mp mf mi mo mw mn mk mt mq mz me)) (rf := fun o' => o') hF (fun o' hz => c_X8_of l G cy st a m_1 m1 m2 m3 m4 m5 m6 m7 m8 m9 mb ms md mp mf mi mo mw mn mk mt mq mz me s34.2.2 0 o' hz) (fun o' => zCut_all) ⟨hx, hb, hml, hown, hts⟩ (cwV 2 hts gX8_ratio_X8_of rfl rfl rfl (by decide +kernel) ⟨by decide, by decide⟩) (ci := 8) (q0 := 0) rfl (wMo_at0 cy a m_1 m1 m2 m3 m4 m5 m6 m7 m8 m9 mb ms md mp mf mi mo mw mn mk mt mq mz me) hK hSE hA hP hD hS rfl hl.1 rfl (Nat.le_of_ble_eq_true rfl) dX8_ratio_56 ⟨Nat.le_refl _, Nat.le_refl _⟩ (fun o12 hF H locs hP hD hS => ?_)
            refine lv_imul hx hb dX8_ratio_59 ?_
            refine lv_iadd hx hb dX8_ratio_60 ?_
            refine lv_i2l (v := (Int32.toInt64 (1000 + (o11 * o12)))) hx hb dX8_ratio_61 rfl ?_
            refine lv_lmul hx hb dX8_ratio_62 ?_
            refine z_letl hF (fun x13 hF => ?_)
            refine lv_lstore_n (lv' := [(3, .long x13), (0, .ref (a 0)), (1, .int x01), (2, .int x02), (5, .long s34.2.1), (7, .int s34.2.2)]) hx hb dX8_ratio_63 rfl hl (by decide) rfl (fun ls hl => ?_)
            refine lv_lload hx hb dX8_ratio_64 (lv_at hl 4 rfl) ?_
            refine lv_ldc2 (v := 1000) hx hb hown k182 dX8_ratio_66 ?_
            refine lv_lmul hx hb dX8_ratio_69 ?_
            refine z_letl hF (fun x14 hF => ?_)
            refine lv_lstore (lv' := [(5, .long x14), (3, .long x13), (0, .ref (a 0)), (1, .int x01), (2, .int x02), (7, .int s34.2.2)]) hx hb dX8_ratio_70 hl (by decide) rfl (fun ls hl => ?_)
            refine z_name hF (fun x15 ex15 hF => ?_)
            refine lv_iinc (v := x15) (lv' := [(7, .int x15), (5, .long x14), (3, .long x13), (0, .ref (a 0)), (1, .int x01), (2, .int x02)]) hx hb dX8_ratio_72 hl (k := 5) rfl (by rw [ex15]; rfl) (by decide) rfl (fun ls hl => ?_)
            refine lv_goto (tgt := 34) hx hb dX8_ratio_75 (by decide) ?_
            exact ih34 (x13, x14, x15) _ _ ls hP hD hS (lv_sub hl [3, 4, 5, 2, 1, 0] rfl) hF
      exact L34 1000 (1, 1, 0) _ _ ls hP hD hS (lv_sub hl [3, 4, 5, 2, 1, 0] rfl) hF
    · refine lv_ldc2 (v := (-1)) hx hb hown k180 dX8_ratio_22 ?_
      refine z_lret (o := o) (o1 := ((-1), m_1)) (v := (-1)) (wf := (fun o => (wMo cy a o.2 m1 m2 m3 m4 m5 m6 m7 m8 m9 mb ms md mp mf mi mo mw mn mk mt mq mz me))) (rf := fun o => o.1) hx hb hr hlocks hK ?_ ?_ hS ?_ rfl dX8_ratio_25
      · exact hP
      · exact hD
      · exact hF
def j_X8_waitOf_42 (rc10 : (Int32 × Int32) → Option (Int32)) (s10 : Int32 × Int32) (t3 : Int32) : Option (Int32) :=
zlet (s10.2 + 1) fun x4 =>
rc10 (t3, x4)
def b_X8_waitOf_10 (ms : Nat → Int32) (x01 : Int32) (x02 : Int32) (rc10 : (Int32 × Int32) → Option (Int32)) (s10 : Int32 × Int32) : Option (Int32) :=
if x01 < s10.2 then (
some s10.1) else (
zbd (f_X8_of ms s10.2 3) fun o2 =>
if o2 ≤ (s10.1 + x02) then (
j_X8_waitOf_42 rc10 s10 (s10.1 + x02)) else (
zbd (f_X8_of ms s10.2 3) fun o5 =>
j_X8_waitOf_42 rc10 s10 o5))
def f_X8_waitOf (ms : Nat → Int32) (x01 : Int32) (x02 : Int32) : Option (Int32) :=
zbd (f_X8_of ms 0 3) fun o1 =>
zloop (b_X8_waitOf_10 ms x01 x02) 1000 (o1, 1)
set_option maxHeartbeats 4000000 in
set_option maxRecDepth 100000 in
theorem c_X8_waitOf (l : Launch) (G : va_G) (cy : Nat → ClassId) (st : Nat → Nat) (a : Nat → Nat) (m0 : Int32) (m1 : Int32) (m2 : Int32) (m3 : Int32) (m4 : Int32) (m5 : Int32) (m6 : Int32) (m7 : Int32) (m8 : Int32) (m9 : Int32) (mb : Nat → Int32) (ms : Nat → Int32) (md : Nat → Int32) (mp : Nat → Int32) (mf : Nat → Int32) (mi : Nat → Int32) (mo : Nat → Int32) (mw : Nat → Int32) (mn : Nat → Int32) (mk : Nat → Int32) (mt : Nat → Int64) (mq : Nat → Int32) (mz : Nat → Int32) (me : Nat → Int32) (x01 : Int32) (x02 : Int32) (o : Int32) (hF : f_X8_waitOf ms x01 x02 = some o) : zMi l yX8_waitOf wsX8_waitOf (zR 2) G cy st [.ref (a 0), .int x01, .int x02] (wMo cy a m0 m1 m2 m3 m4 m5 m6 m7 m8 m9 mb ms md mp mf mi mo mw mn mk mt mq mz me) (wMo cy a m0 m1 m2 m3 m4 m5 m6 m7 m8 m9 mb ms md mp mf mi mo mw mn mk mt mq mz me) o := by
  refine zM_of (cc := cX8_waitOf) (maxL := 5) (ret := (some .int)) (Qc := fun A => zQi G cy A (wMo cy a m0 m1 m2 m3 m4 m5 m6 m7 m8 m9 mb ms md mp mf mi mo mw mn mk mt mq mz me) o) (by decide) rfl (Nat.le_of_ble_eq_true rfl) ?_
  intro p e s m below meth c A ls hx hb hml hr hlocks hown hts hK hSE hA hP hD hS hl
  have hown : s.vm.findClass RX8 = some m.cls := hown
  have hl : lv_has ls 5 [(0, .ref (a 0)), (1, .int x01), (2, .int x02)] := hl
  unfold f_X8_waitOf at hF
  refine lv_aload_n hx hb dX8_waitOf_0 rfl (lv_at hl 0 rfl) ?_
  refine lv_iconst (v := 0) hx hb dX8_waitOf_1 (by decide) ?_
  refine lv_iconst (v := 3) hx hb dX8_waitOf_2 (by decide) ?_
  refine z_cVi (b := a 0) (As := [.int 0, .int 3]) (rest := []) (wc := (wMo cy a m0 m1 m2 m3 m4 m5 m6 m7 m8 m9 mb ms md mp mf mi mo mw mn mk mt mq mz me)) (wcf := fun o' => (wMo cy a m0 m1 m2 m3 m4 m5 m6 m7 m8 m9 mb ms md mp mf mi mo mw mn mk mt mq mz me)) (wf := fun o' => (wMo cy a m0 m1 m2 m3 m4 m5 m6 m7 m8 m9 mb ms md mp mf mi mo mw mn mk mt mq mz me)) (rf := fun o' => o') hF (fun o' hz => c_X8_of l G cy st a m0 m1 m2 m3 m4 m5 m6 m7 m8 m9 mb ms md mp mf mi mo mw mn mk mt mq mz me 0 3 o' hz) (fun o' => zCut_all) ⟨hx, hb, hml, hown, hts⟩ (cwV 2 hts gX8_waitOf_X8_of rfl rfl rfl (by decide +kernel) ⟨by decide, by decide⟩) (ci := 8) (q0 := 0) rfl (wMo_at0 cy a m0 m1 m2 m3 m4 m5 m6 m7 m8 m9 mb ms md mp mf mi mo mw mn mk mt mq mz me) hK hSE hA hP hD hS rfl hl.1 rfl (Nat.le_of_ble_eq_true rfl) dX8_waitOf_3 ⟨Nat.le_refl _, Nat.le_refl _⟩ (fun o1 hF H locs hP hD hS => ?_)
  refine lv_istore_n (lv' := [(3, .int o1), (0, .ref (a 0)), (1, .int x01), (2, .int x02)]) hx hb dX8_waitOf_6 rfl hl (by decide) rfl (fun ls hl => ?_)
  refine lv_iconst (v := 1) hx hb dX8_waitOf_7 (by decide) ?_
  refine lv_istore (lv' := [(4, .int 1), (3, .int o1), (0, .ref (a 0)), (1, .int x01), (2, .int x02)]) hx hb dX8_waitOf_8 hl (by decide) rfl (fun ls hl => ?_)
  have L10 : ∀ (n : Nat) (s10 : Int32 × Int32) (H : Heap) (locs : List Loc) (ls : Array Slot), va_P G vwCl (wMo cy a m0 m1 m2 m3 m4 m5 m6 m7 m8 m9 mb ms md mp mf mi mo mw mn mk mt mq mz me) H → va_D A (wMo cy a m0 m1 m2 m3 m4 m5 m6 m7 m8 m9 mb ms md mp mf mi mo mw mn mk mt mq mz me) → va_S A s.heap H locs → lv_has ls 5 [(0, .ref (a 0)), (1, .int x01), (2, .int x02), (3, .int s10.1), (4, .int s10.2)] → zloop (b_X8_waitOf_10 ms x01 x02) n s10 = some o → W p l e (zR 2) s m ([.ref (a 0), .int x01, .int x02] : List Value).toArray below meth c H locs 0 0 (MQ below (zQi G cy A (wMo cy a m0 m1 m2 m3 m4 m5 m6 m7 m8 m9 mb ms md mp mf mi mo mw mn mk mt mq mz me) o) ([.ref (a 0), .int x01, .int x02] : List Value).toArray s 0 0 A) (F0 m 10 ls []) := by
    intro n
    induction n with
    | zero => exact fun s10 H locs ls _ _ _ _ hF => (zloop_0 hF).elim
    | succ n ih10 =>
      intro s10 H locs ls hP hD hS hl hF
      have hF : b_X8_waitOf_10 ms x01 x02 (zloop (b_X8_waitOf_10 ms x01 x02) n) s10 = some o := hF
      generalize zloop (b_X8_waitOf_10 ms x01 x02) n = rc10 at ih10 hF
      unfold b_X8_waitOf_10 at hF
      refine lv_iload hx hb dX8_waitOf_10 (lv_at hl 4 rfl) ?_
      refine lv_iload_n hx hb dX8_waitOf_12 rfl (lv_at hl 1 rfl) ?_
      refine zi_gt (tgt := 49) hx hb hF dX8_waitOf_13 (by decide) (fun hF => ?_) (fun hF => ?_)
      · refine lv_iload_n hx hb dX8_waitOf_49 rfl (lv_at hl 3 rfl) ?_
        refine z_iret (o := o) (o1 := s10.1) (v := s10.1) (wf := (fun o => (wMo cy a m0 m1 m2 m3 m4 m5 m6 m7 m8 m9 mb ms md mp mf mi mo mw mn mk mt mq mz me))) (rf := fun o => o) hx hb hr hlocks hK ?_ ?_ hS ?_ rfl dX8_waitOf_50
        · exact hP
        · exact hD
        · exact hF
      · refine lv_aload_n hx hb dX8_waitOf_16 rfl (lv_at hl 0 rfl) ?_
        refine lv_iload hx hb dX8_waitOf_17 (lv_at hl 4 rfl) ?_
        refine lv_iconst (v := 3) hx hb dX8_waitOf_19 (by decide) ?_
        refine z_cVi (b := a 0) (As := [.int s10.2, .int 3]) (rest := []) (wc := (wMo cy a m0 m1 m2 m3 m4 m5 m6 m7 m8 m9 mb ms md mp mf mi mo mw mn mk mt mq mz me)) (wcf := fun o' => (wMo cy a m0 m1 m2 m3 m4 m5 m6 m7 m8 m9 mb ms md mp mf mi mo mw mn mk mt mq mz me)) (wf := fun o' => (wMo cy a m0 m1 m2 m3 m4 m5 m6 m7 m8 m9 mb ms md mp mf mi mo mw mn mk mt mq mz me)) (rf := fun o' => o') hF (fun o' hz => c_X8_of l G cy st a m0 m1 m2 m3 m4 m5 m6 m7 m8 m9 mb ms md mp mf mi mo mw mn mk mt mq mz me s10.2 3 o' hz) (fun o' => zCut_all) ⟨hx, hb, hml, hown, hts⟩ (cwV 2 hts gX8_waitOf_X8_of rfl rfl rfl (by decide +kernel) ⟨by decide, by decide⟩) (ci := 8) (q0 := 0) rfl (wMo_at0 cy a m0 m1 m2 m3 m4 m5 m6 m7 m8 m9 mb ms md mp mf mi mo mw mn mk mt mq mz me) hK hSE hA hP hD hS rfl hl.1 rfl (Nat.le_of_ble_eq_true rfl) dX8_waitOf_20 ⟨Nat.le_refl _, Nat.le_refl _⟩ (fun o2 hF H locs hP hD hS => ?_)
        refine lv_iload_n hx hb dX8_waitOf_23 rfl (lv_at hl 3 rfl) ?_
        refine lv_iload_n hx hb dX8_waitOf_24 rfl (lv_at hl 2 rfl) ?_
        refine lv_iadd hx hb dX8_waitOf_25 ?_
        have J42 : ∀ (t3 : Int32) (H : Heap) (locs : List Loc) (ls : Array Slot), va_P G vwCl (wMo cy a m0 m1 m2 m3 m4 m5 m6 m7 m8 m9 mb ms md mp mf mi mo mw mn mk mt mq mz me) H → va_D A (wMo cy a m0 m1 m2 m3 m4 m5 m6 m7 m8 m9 mb ms md mp mf mi mo mw mn mk mt mq mz me) → va_S A s.heap H locs → lv_has ls 5 [(0, .ref (a 0)), (1, .int x01), (2, .int x02), (4, .int s10.2)] → j_X8_waitOf_42 rc10 s10 t3 = some o → W p l e (zR 2) s m ([.ref (a 0), .int x01, .int x02] : List Value).toArray below meth c H locs 0 0 (MQ below (zQi G cy A (wMo cy a m0 m1 m2 m3 m4 m5 m6 m7 m8 m9 mb ms md mp mf mi mo mw mn mk mt mq mz me) o) ([.ref (a 0), .int x01, .int x02] : List Value).toArray s 0 0 A) (F0 m 42 ls [.int t3]) := by
          intro t3 H locs ls hP hD hS hl hF
          unfold j_X8_waitOf_42 at hF
          refine lv_istore_n (lv' := [(3, .int t3), (0, .ref (a 0)), (1, .int x01), (2, .int x02), (4, .int s10.2)]) hx hb dX8_waitOf_42 rfl hl (by decide) rfl (fun ls hl => ?_)
          refine z_name hF (fun x4 ex4 hF => ?_)
          refine lv_iinc (v := x4) (lv' := [(4, .int x4), (3, .int t3), (0, .ref (a 0)), (1, .int x01), (2, .int x02)]) hx hb dX8_waitOf_43 hl (k := 4) rfl (by rw [ex4]; rfl) (by decide) rfl (fun ls hl => ?_)
          refine lv_goto (tgt := 10) hx hb dX8_waitOf_46 (by decide) ?_
          exact ih10 (t3, x4) _ _ ls hP hD hS (lv_sub hl [2, 3, 4, 1, 0] rfl) hF
        refine zi_le (tgt := 39) hx hb hF dX8_waitOf_26 (by decide) (fun hF => ?_) (fun hF => ?_)
        · refine lv_iload_n hx hb dX8_waitOf_39 rfl (lv_at hl 3 rfl) ?_
          refine lv_iload_n hx hb dX8_waitOf_40 rfl (lv_at hl 2 rfl) ?_
          refine lv_iadd hx hb dX8_waitOf_41 ?_
          exact J42 (s10.1 + x02) _ _ ls hP hD hS (lv_sub hl [0, 1, 2, 4] rfl) hF
        · refine lv_aload_n hx hb dX8_waitOf_29 rfl (lv_at hl 0 rfl) ?_
          refine lv_iload hx hb dX8_waitOf_30 (lv_at hl 4 rfl) ?_
          refine lv_iconst (v := 3) hx hb dX8_waitOf_32 (by decide) ?_
          refine z_cVi (b := a 0) (As := [.int s10.2, .int 3]) (rest := []) (wc := (wMo cy a m0 m1 m2 m3 m4 m5 m6 m7 m8 m9 mb ms md mp mf mi mo mw mn mk mt mq mz me)) (wcf := fun o' => (wMo cy a m0 m1 m2 m3 m4 m5 m6 m7 m8 m9 mb ms md mp mf mi mo mw mn mk mt mq mz me)) (wf := fun o' => (wMo cy a m0 m1 m2 m3 m4 m5 m6 m7 m8 m9 mb ms md mp mf mi mo mw mn mk mt mq mz me)) (rf := fun o' => o') hF (fun o' hz => c_X8_of l G cy st a m0 m1 m2 m3 m4 m5 m6 m7 m8 m9 mb ms md mp mf mi mo mw mn mk mt mq mz me s10.2 3 o' hz) (fun o' => zCut_all) ⟨hx, hb, hml, hown, hts⟩ (cwV 2 hts gX8_waitOf_X8_of rfl rfl rfl (by decide +kernel) ⟨by decide, by decide⟩) (ci := 8) (q0 := 0) rfl (wMo_at0 cy a m0 m1 m2 m3 m4 m5 m6 m7 m8 m9 mb ms md mp mf mi mo mw mn mk mt mq mz me) hK hSE hA hP hD hS rfl hl.1 rfl (Nat.le_of_ble_eq_true rfl) dX8_waitOf_33 ⟨Nat.le_refl _, Nat.le_refl _⟩ (fun o5 hF H locs hP hD hS => ?_)
          refine lv_goto (tgt := 42) hx hb dX8_waitOf_36 (by decide) ?_
          exact J42 o5 _ _ ls hP hD hS (lv_sub hl [0, 1, 2, 4] rfl) hF
  exact L10 1000 (o1, 1) _ _ ls hP hD hS (lv_sub hl [2, 3, 4, 1, 0] rfl) hF
def j_X8_graded_66 (m_1 : Int32) (y3 : Int32) : Option (Int32 × Int32) :=
if y3 = 0 then (
some (0, m_1)) else (
some (1, m_1))
def j_X8_graded_59 (rc21 : (Int32 × Int32) → Option (Int32 × Int32)) (s21 : Int32 × Int32) (t4 : Int32) : Option (Int32 × Int32) :=
zlet (s21.2 + 1) fun x5 =>
rc21 (t4, x5)
def j_X8_graded_58 (rc21 : (Int32 × Int32) → Option (Int32 × Int32)) (s21 : Int32 × Int32) : Option (Int32 × Int32) :=
j_X8_graded_59 rc21 s21 0
def b_X8_graded_21 (ms : Nat → Int32) (x01 : Int32) (m_1 : Int32) (rc21 : (Int32 × Int32) → Option (Int32 × Int32)) (s21 : Int32 × Int32) : Option (Int32 × Int32) :=
zg (zin 0 114) (
if (ms (zn 0)) ≤ s21.2 then (
j_X8_graded_66 m_1 s21.1) else (
if s21.1 = 0 then (
j_X8_graded_58 rc21 s21) else (
zbd (f_X8_of ms s21.2 3) fun o6 =>
zbd (f_X8_of ms (s21.2 - 1) 3) fun o7 =>
if (o6 - o7) < x01 then (
j_X8_graded_58 rc21 s21) else (
j_X8_graded_59 rc21 s21 1))))
def f_X8_graded (ms : Nat → Int32) (x01 : Int32) : Option (Int32 × Int32) :=
zlet 0 fun m_1 =>
zbd (f_X8_in x01 0 9) fun o2 =>
if o2 = 0 then (
some ((-1), m_1)) else (
zloop (b_X8_graded_21 ms x01 m_1) 1000 (1, 1))
set_option maxHeartbeats 4000000 in
set_option maxRecDepth 100000 in
theorem c_X8_graded (l : Launch) (G : va_G) (cy : Nat → ClassId) (st : Nat → Nat) (a : Nat → Nat) (m0 : Int32) (m1 : Int32) (m2 : Int32) (m3 : Int32) (m4 : Int32) (m5 : Int32) (m6 : Int32) (m7 : Int32) (m8 : Int32) (m9 : Int32) (mb : Nat → Int32) (ms : Nat → Int32) (md : Nat → Int32) (mp : Nat → Int32) (mf : Nat → Int32) (mi : Nat → Int32) (mo : Nat → Int32) (mw : Nat → Int32) (mn : Nat → Int32) (mk : Nat → Int32) (mt : Nat → Int64) (mq : Nat → Int32) (mz : Nat → Int32) (me : Nat → Int32) (x01 : Int32) (o : Int32 × Int32) (hF : f_X8_graded ms x01 = some o) : zMi l yX8_graded wsX8_graded (zR 2) G cy st [.ref (a 0), .int x01] (wMo cy a m0 m1 m2 m3 m4 m5 m6 m7 m8 m9 mb ms md mp mf mi mo mw mn mk mt mq mz me) (wMo cy a o.2 m1 m2 m3 m4 m5 m6 m7 m8 m9 mb ms md mp mf mi mo mw mn mk mt mq mz me) o.1 := by
  refine zM_of (cc := cX8_graded) (maxL := 4) (ret := (some .int)) (Qc := fun A => zQi G cy A (wMo cy a o.2 m1 m2 m3 m4 m5 m6 m7 m8 m9 mb ms md mp mf mi mo mw mn mk mt mq mz me) o.1) (by decide) rfl (Nat.le_of_ble_eq_true rfl) ?_
  intro p e s m below meth c A ls hx hb hml hr hlocks hown hts hK hSE hA hP hD hS hl
  have hown : s.vm.findClass RX8 = some m.cls := hown
  have hl : lv_has ls 4 [(0, .ref (a 0)), (1, .int x01)] := hl
  have k59 := hts (.fieldLink RX8 59 "TapCascadeModel" "thrown" "I") (by decide +kernel)
  have iX8 : ∀ w ∈ wsX80, w ∈ wsX8_graded := fun w h => List.mem_cons_of_mem _ (List.mem_append_right _ h)
  have k13 := hts (.fieldLink RX8 13 "TapCascadeModel" "s" "[I") (by decide +kernel)
  unfold f_X8_graded at hF
  refine lv_aload_n hx hb dX8_graded_0 rfl (lv_at hl 0 rfl) ?_
  refine lv_iconst (v := 0) hx hb dX8_graded_1 (by decide) ?_
  refine z_puti (ci := 8) (C := RX8) (T := TX8) (N := 24) (fs := (zMo a m0 m1 m2 m3 m4 m5 m6 m7 m8 m9)) (x := 0) (wf := (fun y => (wMo cy a y m1 m2 m3 m4 m5 m6 m7 m8 m9 mb ms md mp mf mi mo mw mn mk mt mq mz me))) hx hb hts iX8 tyX8 tyX8_ok nmX8 hown hK hP hD hS _ 0 (wMo_foc0_0 cy a m0 m1 m2 m3 m4 m5 m6 m7 m8 m9 mb ms md mp mf mi mo mw mn mk mt mq mz me 0) rfl (by decide) k59 (fun _ h9 => h9) rfl (by decide +kernel) (Nat.le_of_ble_eq_true rfl) hF dX8_graded_2 (fun m_1 hF H locs hP hD hS => ?_)
  refine lv_iload_n hx hb dX8_graded_5 rfl (lv_at hl 1 rfl) ?_
  refine lv_iconst (v := 0) hx hb dX8_graded_6 (by decide) ?_
  refine lv_bipush (v := 9) hx hb dX8_graded_7 (by decide) ?_
  refine z_cSi (As := [.int x01, .int 0, .int 9]) (rest := []) (wc := ([] : va_W)) (wcf := fun o' => ([] : va_W)) (wf := fun o' => (wMo cy a m_1 m1 m2 m3 m4 m5 m6 m7 m8 m9 mb ms md mp mf mi mo mw mn mk mt mq mz me)) (rf := fun o' => o') hF (fun o' hz => c_X8_in l G cy st x01 0 9 o' hz) (fun o' => zCut_nil) ⟨hx, hb, hml, hown, hts⟩ (va_cwS 3 hts gX8_graded_X8_in rfl rfl rfl (by decide +kernel) ⟨by decide, by decide⟩) hK hSE hA hP hD hS rfl hl.1 rfl (Nat.le_of_ble_eq_true rfl) dX8_graded_9 ⟨Nat.le_refl _, Nat.le_refl _⟩ (fun o2 hF H locs hP hD hS => ?_)
  refine zf_ne (tgt := 17) hx hb hF dX8_graded_12 (by decide) (fun hF => ?_) (fun hF => ?_)
  · refine lv_iconst (v := 1) hx hb dX8_graded_17 (by decide) ?_
    refine lv_istore_n (lv' := [(2, .int 1), (0, .ref (a 0)), (1, .int x01)]) hx hb dX8_graded_18 rfl hl (by decide) rfl (fun ls hl => ?_)
    refine lv_iconst (v := 1) hx hb dX8_graded_19 (by decide) ?_
    refine lv_istore_n (lv' := [(3, .int 1), (2, .int 1), (0, .ref (a 0)), (1, .int x01)]) hx hb dX8_graded_20 rfl hl (by decide) rfl (fun ls hl => ?_)
    have J66 : ∀ (y3 : Int32) (H : Heap) (locs : List Loc) (ls : Array Slot), va_P G vwCl (wMo cy a m_1 m1 m2 m3 m4 m5 m6 m7 m8 m9 mb ms md mp mf mi mo mw mn mk mt mq mz me) H → va_D A (wMo cy a m_1 m1 m2 m3 m4 m5 m6 m7 m8 m9 mb ms md mp mf mi mo mw mn mk mt mq mz me) → va_S A s.heap H locs → lv_has ls 4 [(2, .int y3)] → j_X8_graded_66 m_1 y3 = some o → W p l e (zR 2) s m ([.ref (a 0), .int x01] : List Value).toArray below meth c H locs 0 0 (MQ below (zQi G cy A (wMo cy a o.2 m1 m2 m3 m4 m5 m6 m7 m8 m9 mb ms md mp mf mi mo mw mn mk mt mq mz me) o.1) ([.ref (a 0), .int x01] : List Value).toArray s 0 0 A) (F0 m 66 ls []) := by
      intro y3 H locs ls hP hD hS hl hF
      unfold j_X8_graded_66 at hF
      refine lv_iload_n hx hb dX8_graded_66 rfl (lv_at hl 0 rfl) ?_
      refine zf_eq (tgt := 74) hx hb hF dX8_graded_67 (by decide) (fun hF => ?_) (fun hF => ?_)
      · refine lv_iconst (v := 0) hx hb dX8_graded_74 (by decide) ?_
        refine z_iret (o := o) (o1 := (0, m_1)) (v := 0) (wf := (fun o => (wMo cy a o.2 m1 m2 m3 m4 m5 m6 m7 m8 m9 mb ms md mp mf mi mo mw mn mk mt mq mz me))) (rf := fun o => o.1) hx hb hr hlocks hK ?_ ?_ hS ?_ rfl dX8_graded_75
        · exact hP
        · exact hD
        · exact hF
      · refine lv_iconst (v := 1) hx hb dX8_graded_70 (by decide) ?_
        refine lv_goto (tgt := 75) hx hb dX8_graded_71 (by decide) ?_
        refine z_iret (o := o) (o1 := (1, m_1)) (v := 1) (wf := (fun o => (wMo cy a o.2 m1 m2 m3 m4 m5 m6 m7 m8 m9 mb ms md mp mf mi mo mw mn mk mt mq mz me))) (rf := fun o => o.1) hx hb hr hlocks hK ?_ ?_ hS ?_ rfl dX8_graded_75
        · exact hP
        · exact hD
        · exact hF
    have L21 : ∀ (n : Nat) (s21 : Int32 × Int32) (H : Heap) (locs : List Loc) (ls : Array Slot), va_P G vwCl (wMo cy a m_1 m1 m2 m3 m4 m5 m6 m7 m8 m9 mb ms md mp mf mi mo mw mn mk mt mq mz me) H → va_D A (wMo cy a m_1 m1 m2 m3 m4 m5 m6 m7 m8 m9 mb ms md mp mf mi mo mw mn mk mt mq mz me) → va_S A s.heap H locs → lv_has ls 4 [(0, .ref (a 0)), (1, .int x01), (2, .int s21.1), (3, .int s21.2)] → zloop (b_X8_graded_21 ms x01 m_1) n s21 = some o → W p l e (zR 2) s m ([.ref (a 0), .int x01] : List Value).toArray below meth c H locs 0 0 (MQ below (zQi G cy A (wMo cy a o.2 m1 m2 m3 m4 m5 m6 m7 m8 m9 mb ms md mp mf mi mo mw mn mk mt mq mz me) o.1) ([.ref (a 0), .int x01] : List Value).toArray s 0 0 A) (F0 m 21 ls []) := by
      intro n
      induction n with
      | zero => exact fun s21 H locs ls _ _ _ _ hF => (zloop_0 hF).elim
      | succ n ih21 =>
        intro s21 H locs ls hP hD hS hl hF
        have hF : b_X8_graded_21 ms x01 m_1 (zloop (b_X8_graded_21 ms x01 m_1) n) s21 = some o := hF
        generalize zloop (b_X8_graded_21 ms x01 m_1) n = rc21 at ih21 hF
        unfold b_X8_graded_21 at hF
        refine lv_iload_n hx hb dX8_graded_21 rfl (lv_at hl 3 rfl) ?_
        refine lv_aload_n hx hb dX8_graded_22 rfl (lv_at hl 0 rfl) ?_
        refine va_get (ci := 8) (C := RX8) (T := TX8) (N := 24) (fs := (zMo a m_1 m1 m2 m3 m4 m5 m6 m7 m8 m9)) (v := .ref (a 2)) hx hb hts iX8 hown hK hP _ (wMo_at0 cy a m_1 m1 m2 m3 m4 m5 m6 m7 m8 m9 mb ms md mp mf mi mo mw mn mk mt mq mz me) rfl 3 (by decide) k13 (fun _ h9 => h9) rfl dX8_graded_23 ?_
        refine lv_iconst (v := 0) hx hb dX8_graded_26 (by decide) ?_
        refine z_iald (n := 114) (f := ms) hx hb hK hP _ 1 (wMo_at2 cy a m_1 m1 m2 m3 m4 m5 m6 m7 m8 m9 mb ms md mp mf mi mo mw mn mk mt mq mz me) rfl hF dX8_graded_27 (fun hF => ?_)
        refine zi_ge (tgt := 66) hx hb hF dX8_graded_28 (by decide) (fun hF => ?_) (fun hF => ?_)
        · exact J66 s21.1 _ _ ls hP hD hS (lv_sub hl [2] rfl) hF
        · refine lv_iload_n hx hb dX8_graded_31 rfl (lv_at hl 2 rfl) ?_
          have J59 : ∀ (t4 : Int32) (H : Heap) (locs : List Loc) (ls : Array Slot), va_P G vwCl (wMo cy a m_1 m1 m2 m3 m4 m5 m6 m7 m8 m9 mb ms md mp mf mi mo mw mn mk mt mq mz me) H → va_D A (wMo cy a m_1 m1 m2 m3 m4 m5 m6 m7 m8 m9 mb ms md mp mf mi mo mw mn mk mt mq mz me) → va_S A s.heap H locs → lv_has ls 4 [(0, .ref (a 0)), (1, .int x01), (3, .int s21.2)] → j_X8_graded_59 rc21 s21 t4 = some o → W p l e (zR 2) s m ([.ref (a 0), .int x01] : List Value).toArray below meth c H locs 0 0 (MQ below (zQi G cy A (wMo cy a o.2 m1 m2 m3 m4 m5 m6 m7 m8 m9 mb ms md mp mf mi mo mw mn mk mt mq mz me) o.1) ([.ref (a 0), .int x01] : List Value).toArray s 0 0 A) (F0 m 59 ls [.int t4]) := by
            intro t4 H locs ls hP hD hS hl hF
            unfold j_X8_graded_59 at hF
            refine lv_istore_n (lv' := [(2, .int t4), (0, .ref (a 0)), (1, .int x01), (3, .int s21.2)]) hx hb dX8_graded_59 rfl hl (by decide) rfl (fun ls hl => ?_)
            refine z_name hF (fun x5 ex5 hF => ?_)
            refine lv_iinc (v := x5) (lv' := [(3, .int x5), (2, .int t4), (0, .ref (a 0)), (1, .int x01)]) hx hb dX8_graded_60 hl (k := 3) rfl (by rw [ex5]; rfl) (by decide) rfl (fun ls hl => ?_)
            refine lv_goto (tgt := 21) hx hb dX8_graded_63 (by decide) ?_
            exact ih21 (t4, x5) _ _ ls hP hD hS (lv_sub hl [2, 3, 1, 0] rfl) hF
          have J58 : ∀ (H : Heap) (locs : List Loc) (ls : Array Slot), va_P G vwCl (wMo cy a m_1 m1 m2 m3 m4 m5 m6 m7 m8 m9 mb ms md mp mf mi mo mw mn mk mt mq mz me) H → va_D A (wMo cy a m_1 m1 m2 m3 m4 m5 m6 m7 m8 m9 mb ms md mp mf mi mo mw mn mk mt mq mz me) → va_S A s.heap H locs → lv_has ls 4 [(0, .ref (a 0)), (1, .int x01), (3, .int s21.2)] → j_X8_graded_58 rc21 s21 = some o → W p l e (zR 2) s m ([.ref (a 0), .int x01] : List Value).toArray below meth c H locs 0 0 (MQ below (zQi G cy A (wMo cy a o.2 m1 m2 m3 m4 m5 m6 m7 m8 m9 mb ms md mp mf mi mo mw mn mk mt mq mz me) o.1) ([.ref (a 0), .int x01] : List Value).toArray s 0 0 A) (F0 m 58 ls []) := by
            intro H locs ls hP hD hS hl hF
            unfold j_X8_graded_58 at hF
            refine lv_iconst (v := 0) hx hb dX8_graded_58 (by decide) ?_
            exact J59 0 _ _ ls hP hD hS (lv_sub hl [0, 1, 2] rfl) hF
          refine zf_eq (tgt := 58) hx hb hF dX8_graded_32 (by decide) (fun hF => ?_) (fun hF => ?_)
          · exact J58 _ _ ls hP hD hS (lv_sub hl [0, 1, 3] rfl) hF
          · refine lv_aload_n hx hb dX8_graded_35 rfl (lv_at hl 0 rfl) ?_
            refine lv_iload_n hx hb dX8_graded_36 rfl (lv_at hl 3 rfl) ?_
            refine lv_iconst (v := 3) hx hb dX8_graded_37 (by decide) ?_
            refine z_cVi (b := a 0) (As := [.int s21.2, .int 3]) (rest := []) (wc := (wMo cy a m_1 m1 m2 m3 m4 m5 m6 m7 m8 m9 mb ms md mp mf mi mo mw mn mk mt mq mz me)) (wcf := fun o' => (wMo cy a m_1 m1 m2 m3 m4 m5 m6 m7 m8 m9 mb ms md mp mf mi mo mw mn mk mt mq mz me)) (wf := fun o' => (wMo cy a m_1 m1 m2 m3 m4 m5 m6 m7 m8 m9 mb ms md mp mf mi mo mw mn mk mt mq mz me)) (rf := fun o' => o') hF (fun o' hz => c_X8_of l G cy st a m_1 m1 m2 m3 m4 m5 m6 m7 m8 m9 mb ms md mp mf mi mo mw mn mk mt mq mz me s21.2 3 o' hz) (fun o' => zCut_all) ⟨hx, hb, hml, hown, hts⟩ (cwV 2 hts gX8_graded_X8_of rfl rfl rfl (by decide +kernel) ⟨by decide, by decide⟩) (ci := 8) (q0 := 0) rfl (wMo_at0 cy a m_1 m1 m2 m3 m4 m5 m6 m7 m8 m9 mb ms md mp mf mi mo mw mn mk mt mq mz me) hK hSE hA hP hD hS rfl hl.1 rfl (Nat.le_of_ble_eq_true rfl) dX8_graded_38 ⟨Nat.le_refl _, Nat.le_refl _⟩ (fun o6 hF H locs hP hD hS => ?_)
            refine lv_aload_n hx hb dX8_graded_41 rfl (lv_at hl 0 rfl) ?_
            refine lv_iload_n hx hb dX8_graded_42 rfl (lv_at hl 3 rfl) ?_
            refine lv_iconst (v := 1) hx hb dX8_graded_43 (by decide) ?_
            refine lv_isub hx hb dX8_graded_44 ?_
            refine lv_iconst (v := 3) hx hb dX8_graded_45 (by decide) ?_
            refine z_cVi (b := a 0) (As := [.int (s21.2 - 1), .int 3]) (rest := [.int o6]) (wc := (wMo cy a m_1 m1 m2 m3 m4 m5 m6 m7 m8 m9 mb ms md mp mf mi mo mw mn mk mt mq mz me)) (wcf := fun o' => (wMo cy a m_1 m1 m2 m3 m4 m5 m6 m7 m8 m9 mb ms md mp mf mi mo mw mn mk mt mq mz me)) (wf := fun o' => (wMo cy a m_1 m1 m2 m3 m4 m5 m6 m7 m8 m9 mb ms md mp mf mi mo mw mn mk mt mq mz me)) (rf := fun o' => o') hF (fun o' hz => c_X8_of l G cy st a m_1 m1 m2 m3 m4 m5 m6 m7 m8 m9 mb ms md mp mf mi mo mw mn mk mt mq mz me (s21.2 - 1) 3 o' hz) (fun o' => zCut_all) ⟨hx, hb, hml, hown, hts⟩ (cwV 2 hts gX8_graded_X8_of rfl rfl rfl (by decide +kernel) ⟨by decide, by decide⟩) (ci := 8) (q0 := 0) rfl (wMo_at0 cy a m_1 m1 m2 m3 m4 m5 m6 m7 m8 m9 mb ms md mp mf mi mo mw mn mk mt mq mz me) hK hSE hA hP hD hS rfl hl.1 rfl (Nat.le_of_ble_eq_true rfl) dX8_graded_46 ⟨Nat.le_refl _, Nat.le_refl _⟩ (fun o7 hF H locs hP hD hS => ?_)
            refine lv_isub hx hb dX8_graded_49 ?_
            refine lv_iload_n hx hb dX8_graded_50 rfl (lv_at hl 1 rfl) ?_
            refine zi_lt (tgt := 58) hx hb hF dX8_graded_51 (by decide) (fun hF => ?_) (fun hF => ?_)
            · exact J58 _ _ ls hP hD hS (lv_sub hl [0, 1, 3] rfl) hF
            · refine lv_iconst (v := 1) hx hb dX8_graded_54 (by decide) ?_
              refine lv_goto (tgt := 59) hx hb dX8_graded_55 (by decide) ?_
              exact J59 1 _ _ ls hP hD hS (lv_sub hl [0, 1, 3] rfl) hF
    exact L21 1000 (1, 1) _ _ ls hP hD hS (lv_sub hl [2, 3, 1, 0] rfl) hF
  · refine lv_iconst (v := (-1)) hx hb dX8_graded_15 (by decide) ?_
    refine z_iret (o := o) (o1 := ((-1), m_1)) (v := (-1)) (wf := (fun o => (wMo cy a o.2 m1 m2 m3 m4 m5 m6 m7 m8 m9 mb ms md mp mf mi mo mw mn mk mt mq mz me))) (rf := fun o => o.1) hx hb hr hlocks hK ?_ ?_ hS ?_ rfl dX8_graded_16
    · exact hP
    · exact hD
    · exact hF
def f_X8_waits (ms : Nat → Int32) (x01 : Int32) (x02 : Int32) : Option (Int32 × Int32) :=
zlet 0 fun m_1 =>
zbd (f_X8_isStage ms x01) fun o2 =>
if o2 = 0 then (
some ((-1), m_1)) else (
zbd (f_X8_in x02 0 9) fun o3 =>
if o3 = 0 then (
some ((-1), m_1)) else (
zbd (f_X8_waitOf ms x01 x02) fun o4 =>
some (o4, m_1)))
set_option maxHeartbeats 4000000 in
set_option maxRecDepth 100000 in
theorem c_X8_waits (l : Launch) (G : va_G) (cy : Nat → ClassId) (st : Nat → Nat) (a : Nat → Nat) (m0 : Int32) (m1 : Int32) (m2 : Int32) (m3 : Int32) (m4 : Int32) (m5 : Int32) (m6 : Int32) (m7 : Int32) (m8 : Int32) (m9 : Int32) (mb : Nat → Int32) (ms : Nat → Int32) (md : Nat → Int32) (mp : Nat → Int32) (mf : Nat → Int32) (mi : Nat → Int32) (mo : Nat → Int32) (mw : Nat → Int32) (mn : Nat → Int32) (mk : Nat → Int32) (mt : Nat → Int64) (mq : Nat → Int32) (mz : Nat → Int32) (me : Nat → Int32) (x01 : Int32) (x02 : Int32) (o : Int32 × Int32) (hF : f_X8_waits ms x01 x02 = some o) : zMi l yX8_waits wsX8_waits (zR 3) G cy st [.ref (a 0), .int x01, .int x02] (wMo cy a m0 m1 m2 m3 m4 m5 m6 m7 m8 m9 mb ms md mp mf mi mo mw mn mk mt mq mz me) (wMo cy a o.2 m1 m2 m3 m4 m5 m6 m7 m8 m9 mb ms md mp mf mi mo mw mn mk mt mq mz me) o.1 := by
  refine zM_of (cc := cX8_waits) (maxL := 3) (ret := (some .int)) (Qc := fun A => zQi G cy A (wMo cy a o.2 m1 m2 m3 m4 m5 m6 m7 m8 m9 mb ms md mp mf mi mo mw mn mk mt mq mz me) o.1) (by decide) rfl (Nat.le_of_ble_eq_true rfl) ?_
  intro p e s m below meth c A ls hx hb hml hr hlocks hown hts hK hSE hA hP hD hS hl
  have hown : s.vm.findClass RX8 = some m.cls := hown
  have hl : lv_has ls 3 [(0, .ref (a 0)), (1, .int x01), (2, .int x02)] := hl
  have k59 := hts (.fieldLink RX8 59 "TapCascadeModel" "thrown" "I") (by decide +kernel)
  have iX8 : ∀ w ∈ wsX80, w ∈ wsX8_waits := fun w h => List.mem_cons_of_mem _ (List.mem_append_right _ h)
  unfold f_X8_waits at hF
  refine lv_aload_n hx hb dX8_waits_0 rfl (lv_at hl 0 rfl) ?_
  refine lv_iconst (v := 0) hx hb dX8_waits_1 (by decide) ?_
  refine z_puti (ci := 8) (C := RX8) (T := TX8) (N := 24) (fs := (zMo a m0 m1 m2 m3 m4 m5 m6 m7 m8 m9)) (x := 0) (wf := (fun y => (wMo cy a y m1 m2 m3 m4 m5 m6 m7 m8 m9 mb ms md mp mf mi mo mw mn mk mt mq mz me))) hx hb hts iX8 tyX8 tyX8_ok nmX8 hown hK hP hD hS _ 0 (wMo_foc0_0 cy a m0 m1 m2 m3 m4 m5 m6 m7 m8 m9 mb ms md mp mf mi mo mw mn mk mt mq mz me 0) rfl (by decide) k59 (fun _ h9 => h9) rfl (by decide +kernel) (Nat.le_of_ble_eq_true rfl) hF dX8_waits_2 (fun m_1 hF H locs hP hD hS => ?_)
  refine lv_aload_n hx hb dX8_waits_5 rfl (lv_at hl 0 rfl) ?_
  refine lv_iload_n hx hb dX8_waits_6 rfl (lv_at hl 1 rfl) ?_
  refine z_cVi (b := a 0) (As := [.int x01]) (rest := []) (wc := (wMo cy a m_1 m1 m2 m3 m4 m5 m6 m7 m8 m9 mb ms md mp mf mi mo mw mn mk mt mq mz me)) (wcf := fun o' => (wMo cy a m_1 m1 m2 m3 m4 m5 m6 m7 m8 m9 mb ms md mp mf mi mo mw mn mk mt mq mz me)) (wf := fun o' => (wMo cy a m_1 m1 m2 m3 m4 m5 m6 m7 m8 m9 mb ms md mp mf mi mo mw mn mk mt mq mz me)) (rf := fun o' => o') hF (fun o' hz => c_X8_isStage l G cy st a m_1 m1 m2 m3 m4 m5 m6 m7 m8 m9 mb ms md mp mf mi mo mw mn mk mt mq mz me x01 o' hz) (fun o' => zCut_all) ⟨hx, hb, hml, hown, hts⟩ (cwV 1 hts gX8_waits_X8_isStage rfl rfl rfl (by decide +kernel) ⟨by decide, by decide⟩) (ci := 8) (q0 := 0) rfl (wMo_at0 cy a m_1 m1 m2 m3 m4 m5 m6 m7 m8 m9 mb ms md mp mf mi mo mw mn mk mt mq mz me) hK hSE hA hP hD hS rfl hl.1 rfl (Nat.le_of_ble_eq_true rfl) dX8_waits_7 ⟨Nat.le_refl _, Nat.le_refl _⟩ (fun o2 hF H locs hP hD hS => ?_)
  refine zf_eq (tgt := 32) hx hb hF dX8_waits_10 (by decide) (fun hF => ?_) (fun hF => ?_)
  · refine lv_iconst (v := (-1)) hx hb dX8_waits_32 (by decide) ?_
    refine z_iret (o := o) (o1 := ((-1), m_1)) (v := (-1)) (wf := (fun o => (wMo cy a o.2 m1 m2 m3 m4 m5 m6 m7 m8 m9 mb ms md mp mf mi mo mw mn mk mt mq mz me))) (rf := fun o => o.1) hx hb hr hlocks hK ?_ ?_ hS ?_ rfl dX8_waits_33
    · exact hP
    · exact hD
    · exact hF
  · refine lv_iload_n hx hb dX8_waits_13 rfl (lv_at hl 2 rfl) ?_
    refine lv_iconst (v := 0) hx hb dX8_waits_14 (by decide) ?_
    refine lv_bipush (v := 9) hx hb dX8_waits_15 (by decide) ?_
    refine z_cSi (As := [.int x02, .int 0, .int 9]) (rest := []) (wc := ([] : va_W)) (wcf := fun o' => ([] : va_W)) (wf := fun o' => (wMo cy a m_1 m1 m2 m3 m4 m5 m6 m7 m8 m9 mb ms md mp mf mi mo mw mn mk mt mq mz me)) (rf := fun o' => o') hF (fun o' hz => c_X8_in l G cy st x02 0 9 o' hz) (fun o' => zCut_nil) ⟨hx, hb, hml, hown, hts⟩ (va_cwS 3 hts gX8_waits_X8_in rfl rfl rfl (by decide +kernel) ⟨by decide, by decide⟩) hK hSE hA hP hD hS rfl hl.1 rfl (Nat.le_of_ble_eq_true rfl) dX8_waits_17 ⟨Nat.le_refl _, Nat.le_refl _⟩ (fun o3 hF H locs hP hD hS => ?_)
    refine zf_eq (tgt := 32) hx hb hF dX8_waits_20 (by decide) (fun hF => ?_) (fun hF => ?_)
    · refine lv_iconst (v := (-1)) hx hb dX8_waits_32 (by decide) ?_
      refine z_iret (o := o) (o1 := ((-1), m_1)) (v := (-1)) (wf := (fun o => (wMo cy a o.2 m1 m2 m3 m4 m5 m6 m7 m8 m9 mb ms md mp mf mi mo mw mn mk mt mq mz me))) (rf := fun o => o.1) hx hb hr hlocks hK ?_ ?_ hS ?_ rfl dX8_waits_33
      · exact hP
      · exact hD
      · exact hF
    · refine lv_aload_n hx hb dX8_waits_23 rfl (lv_at hl 0 rfl) ?_
      refine lv_iload_n hx hb dX8_waits_24 rfl (lv_at hl 1 rfl) ?_
      refine lv_iload_n hx hb dX8_waits_25 rfl (lv_at hl 2 rfl) ?_
      refine z_cVi (b := a 0) (As := [.int x01, .int x02]) (rest := []) (wc := (wMo cy a m_1 m1 m2 m3 m4 m5 m6 m7 m8 m9 mb ms md mp mf mi mo mw mn mk mt mq mz me)) (wcf := fun o' => (wMo cy a m_1 m1 m2 m3 m4 m5 m6 m7 m8 m9 mb ms md mp mf mi mo mw mn mk mt mq mz me)) (wf := fun o' => (wMo cy a m_1 m1 m2 m3 m4 m5 m6 m7 m8 m9 mb ms md mp mf mi mo mw mn mk mt mq mz me)) (rf := fun o' => o') hF (fun o' hz => c_X8_waitOf l G cy st a m_1 m1 m2 m3 m4 m5 m6 m7 m8 m9 mb ms md mp mf mi mo mw mn mk mt mq mz me x01 x02 o' hz) (fun o' => zCut_all) ⟨hx, hb, hml, hown, hts⟩ (cwV 2 hts gX8_waits_X8_waitOf rfl rfl rfl (by decide +kernel) ⟨by decide, by decide⟩) (ci := 8) (q0 := 0) rfl (wMo_at0 cy a m_1 m1 m2 m3 m4 m5 m6 m7 m8 m9 mb ms md mp mf mi mo mw mn mk mt mq mz me) hK hSE hA hP hD hS rfl hl.1 rfl (Nat.le_of_ble_eq_true rfl) dX8_waits_26 ⟨Nat.le_refl _, Nat.le_refl _⟩ (fun o4 hF H locs hP hD hS => ?_)
      refine lv_goto (tgt := 33) hx hb dX8_waits_29 (by decide) ?_
      refine z_iret (o := o) (o1 := (o4, m_1)) (v := o4) (wf := (fun o => (wMo cy a o.2 m1 m2 m3 m4 m5 m6 m7 m8 m9 mb ms md mp mf mi mo mw mn mk mt mq mz me))) (rf := fun o => o.1) hx hb hr hlocks hK ?_ ?_ hS ?_ rfl dX8_waits_33
      · exact hP
      · exact hD
      · exact hF
def j_X8_good_28 (rc4 : (Int32 × Int32) → Option (Int32)) (s4 : Int32 × Int32) (t2 : Int32) : Option (Int32) :=
zlet (s4.1 + t2) fun x3 =>
zlet (s4.2 + 1) fun x4 =>
rc4 (x3, x4)
def b_X8_good_4 (ms : Nat → Int32) (mo : Nat → Int32) (rc4 : (Int32 × Int32) → Option (Int32)) (s4 : Int32 × Int32) : Option (Int32) :=
zg (zin 0 114) (
if (ms (zn 0)) ≤ s4.2 then (
some s4.1) else (
zbd (f_X8_goodOf ms mo s4.2) fun o1 =>
if o1 = 0 then (
j_X8_good_28 rc4 s4 1) else (
j_X8_good_28 rc4 s4 0)))
def f_X8_good (ms : Nat → Int32) (mo : Nat → Int32) : Option (Int32) :=
zloop (b_X8_good_4 ms mo) 1000 (0, 0)
set_option maxHeartbeats 4000000 in
set_option maxRecDepth 100000 in
theorem c_X8_good (l : Launch) (G : va_G) (cy : Nat → ClassId) (st : Nat → Nat) (a : Nat → Nat) (m0 : Int32) (m1 : Int32) (m2 : Int32) (m3 : Int32) (m4 : Int32) (m5 : Int32) (m6 : Int32) (m7 : Int32) (m8 : Int32) (m9 : Int32) (mb : Nat → Int32) (ms : Nat → Int32) (md : Nat → Int32) (mp : Nat → Int32) (mf : Nat → Int32) (mi : Nat → Int32) (mo : Nat → Int32) (mw : Nat → Int32) (mn : Nat → Int32) (mk : Nat → Int32) (mt : Nat → Int64) (mq : Nat → Int32) (mz : Nat → Int32) (me : Nat → Int32) (o : Int32) (hF : f_X8_good ms mo = some o) : zMi l yX8_good wsX8_good (zR 3) G cy st [.ref (a 0)] (wMo cy a m0 m1 m2 m3 m4 m5 m6 m7 m8 m9 mb ms md mp mf mi mo mw mn mk mt mq mz me) (wMo cy a m0 m1 m2 m3 m4 m5 m6 m7 m8 m9 mb ms md mp mf mi mo mw mn mk mt mq mz me) o := by
  refine zM_of (cc := cX8_good) (maxL := 3) (ret := (some .int)) (Qc := fun A => zQi G cy A (wMo cy a m0 m1 m2 m3 m4 m5 m6 m7 m8 m9 mb ms md mp mf mi mo mw mn mk mt mq mz me) o) (by decide) rfl (Nat.le_of_ble_eq_true rfl) ?_
  intro p e s m below meth c A ls hx hb hml hr hlocks hown hts hK hSE hA hP hD hS hl
  have hown : s.vm.findClass RX8 = some m.cls := hown
  have hl : lv_has ls 3 [(0, .ref (a 0))] := hl
  have k13 := hts (.fieldLink RX8 13 "TapCascadeModel" "s" "[I") (by decide +kernel)
  have iX8 : ∀ w ∈ wsX80, w ∈ wsX8_good := fun w h => List.mem_cons_of_mem _ (List.mem_append_right _ h)
  unfold f_X8_good at hF
  refine lv_iconst (v := 0) hx hb dX8_good_0 (by decide) ?_
  refine lv_istore_n (lv' := [(1, .int 0), (0, .ref (a 0))]) hx hb dX8_good_1 rfl hl (by decide) rfl (fun ls hl => ?_)
  refine lv_iconst (v := 0) hx hb dX8_good_2 (by decide) ?_
  refine lv_istore_n (lv' := [(2, .int 0), (1, .int 0), (0, .ref (a 0))]) hx hb dX8_good_3 rfl hl (by decide) rfl (fun ls hl => ?_)
  have L4 : ∀ (n : Nat) (s4 : Int32 × Int32) (H : Heap) (locs : List Loc) (ls : Array Slot), va_P G vwCl (wMo cy a m0 m1 m2 m3 m4 m5 m6 m7 m8 m9 mb ms md mp mf mi mo mw mn mk mt mq mz me) H → va_D A (wMo cy a m0 m1 m2 m3 m4 m5 m6 m7 m8 m9 mb ms md mp mf mi mo mw mn mk mt mq mz me) → va_S A s.heap H locs → lv_has ls 3 [(0, .ref (a 0)), (1, .int s4.1), (2, .int s4.2)] → zloop (b_X8_good_4 ms mo) n s4 = some o → W p l e (zR 3) s m ([.ref (a 0)] : List Value).toArray below meth c H locs 0 0 (MQ below (zQi G cy A (wMo cy a m0 m1 m2 m3 m4 m5 m6 m7 m8 m9 mb ms md mp mf mi mo mw mn mk mt mq mz me) o) ([.ref (a 0)] : List Value).toArray s 0 0 A) (F0 m 4 ls []) := by
    intro n
    induction n with
    | zero => exact fun s4 H locs ls _ _ _ _ hF => (zloop_0 hF).elim
    | succ n ih4 =>
      intro s4 H locs ls hP hD hS hl hF
      have hF : b_X8_good_4 ms mo (zloop (b_X8_good_4 ms mo) n) s4 = some o := hF
      generalize zloop (b_X8_good_4 ms mo) n = rc4 at ih4 hF
      unfold b_X8_good_4 at hF
      refine lv_iload_n hx hb dX8_good_4 rfl (lv_at hl 2 rfl) ?_
      refine lv_aload_n hx hb dX8_good_5 rfl (lv_at hl 0 rfl) ?_
      refine va_get (ci := 8) (C := RX8) (T := TX8) (N := 24) (fs := (zMo a m0 m1 m2 m3 m4 m5 m6 m7 m8 m9)) (v := .ref (a 2)) hx hb hts iX8 hown hK hP _ (wMo_at0 cy a m0 m1 m2 m3 m4 m5 m6 m7 m8 m9 mb ms md mp mf mi mo mw mn mk mt mq mz me) rfl 3 (by decide) k13 (fun _ h9 => h9) rfl dX8_good_6 ?_
      refine lv_iconst (v := 0) hx hb dX8_good_9 (by decide) ?_
      refine z_iald (n := 114) (f := ms) hx hb hK hP _ 1 (wMo_at2 cy a m0 m1 m2 m3 m4 m5 m6 m7 m8 m9 mb ms md mp mf mi mo mw mn mk mt mq mz me) rfl hF dX8_good_10 (fun hF => ?_)
      refine zi_ge (tgt := 36) hx hb hF dX8_good_11 (by decide) (fun hF => ?_) (fun hF => ?_)
      · refine lv_iload_n hx hb dX8_good_36 rfl (lv_at hl 1 rfl) ?_
        refine z_iret (o := o) (o1 := s4.1) (v := s4.1) (wf := (fun o => (wMo cy a m0 m1 m2 m3 m4 m5 m6 m7 m8 m9 mb ms md mp mf mi mo mw mn mk mt mq mz me))) (rf := fun o => o) hx hb hr hlocks hK ?_ ?_ hS ?_ rfl dX8_good_37
        · exact hP
        · exact hD
        · exact hF
      · refine lv_iload_n hx hb dX8_good_14 rfl (lv_at hl 1 rfl) ?_
        refine lv_aload_n hx hb dX8_good_15 rfl (lv_at hl 0 rfl) ?_
        refine lv_iload_n hx hb dX8_good_16 rfl (lv_at hl 2 rfl) ?_
        refine z_cVi (b := a 0) (As := [.int s4.2]) (rest := [.int s4.1]) (wc := (wMo cy a m0 m1 m2 m3 m4 m5 m6 m7 m8 m9 mb ms md mp mf mi mo mw mn mk mt mq mz me)) (wcf := fun o' => (wMo cy a m0 m1 m2 m3 m4 m5 m6 m7 m8 m9 mb ms md mp mf mi mo mw mn mk mt mq mz me)) (wf := fun o' => (wMo cy a m0 m1 m2 m3 m4 m5 m6 m7 m8 m9 mb ms md mp mf mi mo mw mn mk mt mq mz me)) (rf := fun o' => o') hF (fun o' hz => c_X8_goodOf l G cy st a m0 m1 m2 m3 m4 m5 m6 m7 m8 m9 mb ms md mp mf mi mo mw mn mk mt mq mz me s4.2 o' hz) (fun o' => zCut_all) ⟨hx, hb, hml, hown, hts⟩ (cwV 1 hts gX8_good_X8_goodOf rfl rfl rfl (by decide +kernel) ⟨by decide, by decide⟩) (ci := 8) (q0 := 0) rfl (wMo_at0 cy a m0 m1 m2 m3 m4 m5 m6 m7 m8 m9 mb ms md mp mf mi mo mw mn mk mt mq mz me) hK hSE hA hP hD hS rfl hl.1 rfl (Nat.le_of_ble_eq_true rfl) dX8_good_17 ⟨Nat.le_refl _, Nat.le_refl _⟩ (fun o1 hF H locs hP hD hS => ?_)
        have J28 : ∀ (t2 : Int32) (H : Heap) (locs : List Loc) (ls : Array Slot), va_P G vwCl (wMo cy a m0 m1 m2 m3 m4 m5 m6 m7 m8 m9 mb ms md mp mf mi mo mw mn mk mt mq mz me) H → va_D A (wMo cy a m0 m1 m2 m3 m4 m5 m6 m7 m8 m9 mb ms md mp mf mi mo mw mn mk mt mq mz me) → va_S A s.heap H locs → lv_has ls 3 [(0, .ref (a 0)), (2, .int s4.2)] → j_X8_good_28 rc4 s4 t2 = some o → W p l e (zR 3) s m ([.ref (a 0)] : List Value).toArray below meth c H locs 0 0 (MQ below (zQi G cy A (wMo cy a m0 m1 m2 m3 m4 m5 m6 m7 m8 m9 mb ms md mp mf mi mo mw mn mk mt mq mz me) o) ([.ref (a 0)] : List Value).toArray s 0 0 A) (F0 m 28 ls [.int t2, .int s4.1]) := by
          intro t2 H locs ls hP hD hS hl hF
          unfold j_X8_good_28 at hF
          refine lv_iadd hx hb dX8_good_28 ?_
          refine z_leti hF (fun x3 hF => ?_)
          refine lv_istore_n (lv' := [(1, .int x3), (0, .ref (a 0)), (2, .int s4.2)]) hx hb dX8_good_29 rfl hl (by decide) rfl (fun ls hl => ?_)
          refine z_name hF (fun x4 ex4 hF => ?_)
          refine lv_iinc (v := x4) (lv' := [(2, .int x4), (1, .int x3), (0, .ref (a 0))]) hx hb dX8_good_30 hl (k := 2) rfl (by rw [ex4]; rfl) (by decide) rfl (fun ls hl => ?_)
          refine lv_goto (tgt := 4) hx hb dX8_good_33 (by decide) ?_
          exact ih4 (x3, x4) _ _ ls hP hD hS (lv_sub hl [2, 1, 0] rfl) hF
        refine zf_ne (tgt := 27) hx hb hF dX8_good_20 (by decide) (fun hF => ?_) (fun hF => ?_)
        · refine lv_iconst (v := 0) hx hb dX8_good_27 (by decide) ?_
          exact J28 0 _ _ ls hP hD hS (lv_sub hl [0, 2] rfl) hF
        · refine lv_iconst (v := 1) hx hb dX8_good_23 (by decide) ?_
          refine lv_goto (tgt := 28) hx hb dX8_good_24 (by decide) ?_
          exact J28 1 _ _ ls hP hD hS (lv_sub hl [0, 2] rfl) hF
  exact L4 1000 (0, 0) _ _ ls hP hD hS (lv_sub hl [2, 1, 0] rfl) hF
def j_X8_unlike_111 (rc4 : (Int32 × Int32) → Option (Int32)) (s4 : Int32 × Int32) (t2 : Int32) : Option (Int32) :=
zlet (s4.1 + t2) fun x3 =>
zlet (s4.2 + 1) fun x4 =>
rc4 (x3, x4)
def j_X8_unlike_101 (rc4 : (Int32 × Int32) → Option (Int32)) (s4 : Int32 × Int32) (y1 : Int32) : Option (Int32) :=
if y1 = 0 then (
j_X8_unlike_111 rc4 s4 1) else (
j_X8_unlike_111 rc4 s4 0)
def j_X8_unlike_94 (rc19 : (Int32 × Int32) → Option (Int32)) (s19 : Int32 × Int32) (t5 : Int32) : Option (Int32) :=
zlet (s19.2 + 1) fun x6 =>
rc19 (t5, x6)
def j_X8_unlike_89 (rc19 : (Int32 × Int32) → Option (Int32)) (s19 : Int32 × Int32) : Option (Int32) :=
j_X8_unlike_94 rc19 s19 1
def j_X8_unlike_93 (rc19 : (Int32 × Int32) → Option (Int32)) (s19 : Int32 × Int32) : Option (Int32) :=
j_X8_unlike_94 rc19 s19 0
def b_X8_unlike_19 (ms : Nat → Int32) (rc4 : (Int32 × Int32) → Option (Int32)) (s4 : Int32 × Int32) (rc19 : (Int32 × Int32) → Option (Int32)) (s19 : Int32 × Int32) : Option (Int32) :=
if s4.2 ≤ s19.2 then (
j_X8_unlike_101 rc4 s4 s19.1) else (
if s19.1 = 0 then (
zg (zin ((54 + (3 * s19.2)) + 1) 114) (
zg (zin ((54 + (3 * s4.2)) + 1) 114) (
if (ms (zn ((54 + (3 * s19.2)) + 1))) = (ms (zn ((54 + (3 * s4.2)) + 1))) then (
zg (zin ((54 + (3 * s19.2)) + 2) 114) (
zg (zin ((54 + (3 * s4.2)) + 2) 114) (
if (ms (zn ((54 + (3 * s19.2)) + 2))) = (ms (zn ((54 + (3 * s4.2)) + 2))) then (
j_X8_unlike_89 rc19 s19) else (
j_X8_unlike_93 rc19 s19)))) else (
j_X8_unlike_93 rc19 s19)))) else (
j_X8_unlike_89 rc19 s19))
def b_X8_unlike_4 (ms : Nat → Int32) (rc4 : (Int32 × Int32) → Option (Int32)) (s4 : Int32 × Int32) : Option (Int32) :=
zg (zin 5 114) (
if (ms (zn 5)) ≤ s4.2 then (
some s4.1) else (
zloop (b_X8_unlike_19 ms rc4 s4) 1000 (0, 0)))
def f_X8_unlike (ms : Nat → Int32) : Option (Int32) :=
zloop (b_X8_unlike_4 ms) 1000 (0, 0)
set_option maxHeartbeats 4000000 in
set_option maxRecDepth 100000 in
theorem c_X8_unlike (l : Launch) (G : va_G) (cy : Nat → ClassId) (st : Nat → Nat) (a : Nat → Nat) (m0 : Int32) (m1 : Int32) (m2 : Int32) (m3 : Int32) (m4 : Int32) (m5 : Int32) (m6 : Int32) (m7 : Int32) (m8 : Int32) (m9 : Int32) (mb : Nat → Int32) (ms : Nat → Int32) (md : Nat → Int32) (mp : Nat → Int32) (mf : Nat → Int32) (mi : Nat → Int32) (mo : Nat → Int32) (mw : Nat → Int32) (mn : Nat → Int32) (mk : Nat → Int32) (mt : Nat → Int64) (mq : Nat → Int32) (mz : Nat → Int32) (me : Nat → Int32) (o : Int32) (hF : f_X8_unlike ms = some o) : zMi l yX8_unlike wsX8_unlike (zR 1) G cy st [.ref (a 0)] (wMo cy a m0 m1 m2 m3 m4 m5 m6 m7 m8 m9 mb ms md mp mf mi mo mw mn mk mt mq mz me) (wMo cy a m0 m1 m2 m3 m4 m5 m6 m7 m8 m9 mb ms md mp mf mi mo mw mn mk mt mq mz me) o := by
  refine zM_of (cc := cX8_unlike) (maxL := 5) (ret := (some .int)) (Qc := fun A => zQi G cy A (wMo cy a m0 m1 m2 m3 m4 m5 m6 m7 m8 m9 mb ms md mp mf mi mo mw mn mk mt mq mz me) o) (by decide) rfl (Nat.le_of_ble_eq_true rfl) ?_
  intro p e s m below meth c A ls hx hb hml hr hlocks hown hts hK hSE hA hP hD hS hl
  have hown : s.vm.findClass RX8 = some m.cls := hown
  have hl : lv_has ls 5 [(0, .ref (a 0))] := hl
  have k13 := hts (.fieldLink RX8 13 "TapCascadeModel" "s" "[I") (by decide +kernel)
  have iX8 : ∀ w ∈ wsX80, w ∈ wsX8_unlike := fun w h => List.mem_cons_of_mem _ (List.mem_append_right _ h)
  unfold f_X8_unlike at hF
  refine lv_iconst (v := 0) hx hb dX8_unlike_0 (by decide) ?_
  refine lv_istore_n (lv' := [(1, .int 0), (0, .ref (a 0))]) hx hb dX8_unlike_1 rfl hl (by decide) rfl (fun ls hl => ?_)
  refine lv_iconst (v := 0) hx hb dX8_unlike_2 (by decide) ?_
  refine lv_istore_n (lv' := [(2, .int 0), (1, .int 0), (0, .ref (a 0))]) hx hb dX8_unlike_3 rfl hl (by decide) rfl (fun ls hl => ?_)
  have L4 : ∀ (n : Nat) (s4 : Int32 × Int32) (H : Heap) (locs : List Loc) (ls : Array Slot), va_P G vwCl (wMo cy a m0 m1 m2 m3 m4 m5 m6 m7 m8 m9 mb ms md mp mf mi mo mw mn mk mt mq mz me) H → va_D A (wMo cy a m0 m1 m2 m3 m4 m5 m6 m7 m8 m9 mb ms md mp mf mi mo mw mn mk mt mq mz me) → va_S A s.heap H locs → lv_has ls 5 [(0, .ref (a 0)), (1, .int s4.1), (2, .int s4.2)] → zloop (b_X8_unlike_4 ms) n s4 = some o → W p l e (zR 1) s m ([.ref (a 0)] : List Value).toArray below meth c H locs 0 0 (MQ below (zQi G cy A (wMo cy a m0 m1 m2 m3 m4 m5 m6 m7 m8 m9 mb ms md mp mf mi mo mw mn mk mt mq mz me) o) ([.ref (a 0)] : List Value).toArray s 0 0 A) (F0 m 4 ls []) := by
    intro n
    induction n with
    | zero => exact fun s4 H locs ls _ _ _ _ hF => (zloop_0 hF).elim
    | succ n ih4 =>
      intro s4 H locs ls hP hD hS hl hF
      have hF : b_X8_unlike_4 ms (zloop (b_X8_unlike_4 ms) n) s4 = some o := hF
      generalize zloop (b_X8_unlike_4 ms) n = rc4 at ih4 hF
      unfold b_X8_unlike_4 at hF
      refine lv_iload_n hx hb dX8_unlike_4 rfl (lv_at hl 2 rfl) ?_
      refine lv_aload_n hx hb dX8_unlike_5 rfl (lv_at hl 0 rfl) ?_
      refine va_get (ci := 8) (C := RX8) (T := TX8) (N := 24) (fs := (zMo a m0 m1 m2 m3 m4 m5 m6 m7 m8 m9)) (v := .ref (a 2)) hx hb hts iX8 hown hK hP _ (wMo_at0 cy a m0 m1 m2 m3 m4 m5 m6 m7 m8 m9 mb ms md mp mf mi mo mw mn mk mt mq mz me) rfl 3 (by decide) k13 (fun _ h9 => h9) rfl dX8_unlike_6 ?_
      refine lv_iconst (v := 5) hx hb dX8_unlike_9 (by decide) ?_
      refine z_iald (n := 114) (f := ms) hx hb hK hP _ 1 (wMo_at2 cy a m0 m1 m2 m3 m4 m5 m6 m7 m8 m9 mb ms md mp mf mi mo mw mn mk mt mq mz me) rfl hF dX8_unlike_10 (fun hF => ?_)
      refine zi_ge (tgt := 119) hx hb hF dX8_unlike_11 (by decide) (fun hF => ?_) (fun hF => ?_)
      · refine lv_iload_n hx hb dX8_unlike_119 rfl (lv_at hl 1 rfl) ?_
        refine z_iret (o := o) (o1 := s4.1) (v := s4.1) (wf := (fun o => (wMo cy a m0 m1 m2 m3 m4 m5 m6 m7 m8 m9 mb ms md mp mf mi mo mw mn mk mt mq mz me))) (rf := fun o => o) hx hb hr hlocks hK ?_ ?_ hS ?_ rfl dX8_unlike_120
        · exact hP
        · exact hD
        · exact hF
      · refine lv_iconst (v := 0) hx hb dX8_unlike_14 (by decide) ?_
        refine lv_istore_n (lv' := [(3, .int 0), (0, .ref (a 0)), (1, .int s4.1), (2, .int s4.2)]) hx hb dX8_unlike_15 rfl hl (by decide) rfl (fun ls hl => ?_)
        refine lv_iconst (v := 0) hx hb dX8_unlike_16 (by decide) ?_
        refine lv_istore (lv' := [(4, .int 0), (3, .int 0), (0, .ref (a 0)), (1, .int s4.1), (2, .int s4.2)]) hx hb dX8_unlike_17 hl (by decide) rfl (fun ls hl => ?_)
        have J101 : ∀ (y1 : Int32) (H : Heap) (locs : List Loc) (ls : Array Slot), va_P G vwCl (wMo cy a m0 m1 m2 m3 m4 m5 m6 m7 m8 m9 mb ms md mp mf mi mo mw mn mk mt mq mz me) H → va_D A (wMo cy a m0 m1 m2 m3 m4 m5 m6 m7 m8 m9 mb ms md mp mf mi mo mw mn mk mt mq mz me) → va_S A s.heap H locs → lv_has ls 5 [(0, .ref (a 0)), (1, .int s4.1), (2, .int s4.2), (3, .int y1)] → j_X8_unlike_101 rc4 s4 y1 = some o → W p l e (zR 1) s m ([.ref (a 0)] : List Value).toArray below meth c H locs 0 0 (MQ below (zQi G cy A (wMo cy a m0 m1 m2 m3 m4 m5 m6 m7 m8 m9 mb ms md mp mf mi mo mw mn mk mt mq mz me) o) ([.ref (a 0)] : List Value).toArray s 0 0 A) (F0 m 101 ls []) := by
          intro y1 H locs ls hP hD hS hl hF
          unfold j_X8_unlike_101 at hF
          refine lv_iload_n hx hb dX8_unlike_101 rfl (lv_at hl 1 rfl) ?_
          refine lv_iload_n hx hb dX8_unlike_102 rfl (lv_at hl 3 rfl) ?_
          have J111 : ∀ (t2 : Int32) (H : Heap) (locs : List Loc) (ls : Array Slot), va_P G vwCl (wMo cy a m0 m1 m2 m3 m4 m5 m6 m7 m8 m9 mb ms md mp mf mi mo mw mn mk mt mq mz me) H → va_D A (wMo cy a m0 m1 m2 m3 m4 m5 m6 m7 m8 m9 mb ms md mp mf mi mo mw mn mk mt mq mz me) → va_S A s.heap H locs → lv_has ls 5 [(0, .ref (a 0)), (2, .int s4.2)] → j_X8_unlike_111 rc4 s4 t2 = some o → W p l e (zR 1) s m ([.ref (a 0)] : List Value).toArray below meth c H locs 0 0 (MQ below (zQi G cy A (wMo cy a m0 m1 m2 m3 m4 m5 m6 m7 m8 m9 mb ms md mp mf mi mo mw mn mk mt mq mz me) o) ([.ref (a 0)] : List Value).toArray s 0 0 A) (F0 m 111 ls [.int t2, .int s4.1]) := by
            intro t2 H locs ls hP hD hS hl hF
            unfold j_X8_unlike_111 at hF
            refine lv_iadd hx hb dX8_unlike_111 ?_
            refine z_leti hF (fun x3 hF => ?_)
            refine lv_istore_n (lv' := [(1, .int x3), (0, .ref (a 0)), (2, .int s4.2)]) hx hb dX8_unlike_112 rfl hl (by decide) rfl (fun ls hl => ?_)
            refine z_name hF (fun x4 ex4 hF => ?_)
            refine lv_iinc (v := x4) (lv' := [(2, .int x4), (1, .int x3), (0, .ref (a 0))]) hx hb dX8_unlike_113 hl (k := 2) rfl (by rw [ex4]; rfl) (by decide) rfl (fun ls hl => ?_)
            refine lv_goto (tgt := 4) hx hb dX8_unlike_116 (by decide) ?_
            exact ih4 (x3, x4) _ _ ls hP hD hS (lv_sub hl [2, 1, 0] rfl) hF
          refine zf_eq (tgt := 110) hx hb hF dX8_unlike_103 (by decide) (fun hF => ?_) (fun hF => ?_)
          · refine lv_iconst (v := 1) hx hb dX8_unlike_110 (by decide) ?_
            exact J111 1 _ _ ls hP hD hS (lv_sub hl [0, 2] rfl) hF
          · refine lv_iconst (v := 0) hx hb dX8_unlike_106 (by decide) ?_
            refine lv_goto (tgt := 111) hx hb dX8_unlike_107 (by decide) ?_
            exact J111 0 _ _ ls hP hD hS (lv_sub hl [0, 2] rfl) hF
        have L19 : ∀ (n : Nat) (s19 : Int32 × Int32) (H : Heap) (locs : List Loc) (ls : Array Slot), va_P G vwCl (wMo cy a m0 m1 m2 m3 m4 m5 m6 m7 m8 m9 mb ms md mp mf mi mo mw mn mk mt mq mz me) H → va_D A (wMo cy a m0 m1 m2 m3 m4 m5 m6 m7 m8 m9 mb ms md mp mf mi mo mw mn mk mt mq mz me) → va_S A s.heap H locs → lv_has ls 5 [(0, .ref (a 0)), (1, .int s4.1), (2, .int s4.2), (3, .int s19.1), (4, .int s19.2)] → zloop (b_X8_unlike_19 ms rc4 s4) n s19 = some o → W p l e (zR 1) s m ([.ref (a 0)] : List Value).toArray below meth c H locs 0 0 (MQ below (zQi G cy A (wMo cy a m0 m1 m2 m3 m4 m5 m6 m7 m8 m9 mb ms md mp mf mi mo mw mn mk mt mq mz me) o) ([.ref (a 0)] : List Value).toArray s 0 0 A) (F0 m 19 ls []) := by
          intro n
          induction n with
          | zero => exact fun s19 H locs ls _ _ _ _ hF => (zloop_0 hF).elim
          | succ n ih19 =>
            intro s19 H locs ls hP hD hS hl hF
            have hF : b_X8_unlike_19 ms rc4 s4 (zloop (b_X8_unlike_19 ms rc4 s4) n) s19 = some o := hF
            generalize zloop (b_X8_unlike_19 ms rc4 s4) n = rc19 at ih19 hF
            unfold b_X8_unlike_19 at hF
            refine lv_iload hx hb dX8_unlike_19 (lv_at hl 4 rfl) ?_
            refine lv_iload_n hx hb dX8_unlike_21 rfl (lv_at hl 2 rfl) ?_
            refine zi_ge (tgt := 101) hx hb hF dX8_unlike_22 (by decide) (fun hF => ?_) (fun hF => ?_)
            · exact J101 s19.1 _ _ ls hP hD hS (lv_sub hl [0, 1, 2, 3] rfl) hF
            · refine lv_iload_n hx hb dX8_unlike_25 rfl (lv_at hl 3 rfl) ?_
              have J94 : ∀ (t5 : Int32) (H : Heap) (locs : List Loc) (ls : Array Slot), va_P G vwCl (wMo cy a m0 m1 m2 m3 m4 m5 m6 m7 m8 m9 mb ms md mp mf mi mo mw mn mk mt mq mz me) H → va_D A (wMo cy a m0 m1 m2 m3 m4 m5 m6 m7 m8 m9 mb ms md mp mf mi mo mw mn mk mt mq mz me) → va_S A s.heap H locs → lv_has ls 5 [(0, .ref (a 0)), (1, .int s4.1), (2, .int s4.2), (4, .int s19.2)] → j_X8_unlike_94 rc19 s19 t5 = some o → W p l e (zR 1) s m ([.ref (a 0)] : List Value).toArray below meth c H locs 0 0 (MQ below (zQi G cy A (wMo cy a m0 m1 m2 m3 m4 m5 m6 m7 m8 m9 mb ms md mp mf mi mo mw mn mk mt mq mz me) o) ([.ref (a 0)] : List Value).toArray s 0 0 A) (F0 m 94 ls [.int t5]) := by
                intro t5 H locs ls hP hD hS hl hF
                unfold j_X8_unlike_94 at hF
                refine lv_istore_n (lv' := [(3, .int t5), (0, .ref (a 0)), (1, .int s4.1), (2, .int s4.2), (4, .int s19.2)]) hx hb dX8_unlike_94 rfl hl (by decide) rfl (fun ls hl => ?_)
                refine z_name hF (fun x6 ex6 hF => ?_)
                refine lv_iinc (v := x6) (lv' := [(4, .int x6), (3, .int t5), (0, .ref (a 0)), (1, .int s4.1), (2, .int s4.2)]) hx hb dX8_unlike_95 hl (k := 4) rfl (by rw [ex6]; rfl) (by decide) rfl (fun ls hl => ?_)
                refine lv_goto (tgt := 19) hx hb dX8_unlike_98 (by decide) ?_
                exact ih19 (t5, x6) _ _ ls hP hD hS (lv_sub hl [2, 3, 4, 1, 0] rfl) hF
              have J89 : ∀ (H : Heap) (locs : List Loc) (ls : Array Slot), va_P G vwCl (wMo cy a m0 m1 m2 m3 m4 m5 m6 m7 m8 m9 mb ms md mp mf mi mo mw mn mk mt mq mz me) H → va_D A (wMo cy a m0 m1 m2 m3 m4 m5 m6 m7 m8 m9 mb ms md mp mf mi mo mw mn mk mt mq mz me) → va_S A s.heap H locs → lv_has ls 5 [(0, .ref (a 0)), (1, .int s4.1), (2, .int s4.2), (4, .int s19.2)] → j_X8_unlike_89 rc19 s19 = some o → W p l e (zR 1) s m ([.ref (a 0)] : List Value).toArray below meth c H locs 0 0 (MQ below (zQi G cy A (wMo cy a m0 m1 m2 m3 m4 m5 m6 m7 m8 m9 mb ms md mp mf mi mo mw mn mk mt mq mz me) o) ([.ref (a 0)] : List Value).toArray s 0 0 A) (F0 m 89 ls []) := by
                intro H locs ls hP hD hS hl hF
                unfold j_X8_unlike_89 at hF
                refine lv_iconst (v := 1) hx hb dX8_unlike_89 (by decide) ?_
                refine lv_goto (tgt := 94) hx hb dX8_unlike_90 (by decide) ?_
                exact J94 1 _ _ ls hP hD hS (lv_sub hl [0, 1, 2, 3] rfl) hF
              refine zf_ne (tgt := 89) hx hb hF dX8_unlike_26 (by decide) (fun hF => ?_) (fun hF => ?_)
              · exact J89 _ _ ls hP hD hS (lv_sub hl [0, 1, 2, 4] rfl) hF
              · refine lv_aload_n hx hb dX8_unlike_29 rfl (lv_at hl 0 rfl) ?_
                refine va_get (ci := 8) (C := RX8) (T := TX8) (N := 24) (fs := (zMo a m0 m1 m2 m3 m4 m5 m6 m7 m8 m9)) (v := .ref (a 2)) hx hb hts iX8 hown hK hP _ (wMo_at0 cy a m0 m1 m2 m3 m4 m5 m6 m7 m8 m9 mb ms md mp mf mi mo mw mn mk mt mq mz me) rfl 3 (by decide) k13 (fun _ h9 => h9) rfl dX8_unlike_30 ?_
                refine lv_bipush (v := 54) hx hb dX8_unlike_33 (by decide) ?_
                refine lv_iconst (v := 3) hx hb dX8_unlike_35 (by decide) ?_
                refine lv_iload hx hb dX8_unlike_36 (lv_at hl 4 rfl) ?_
                refine lv_imul hx hb dX8_unlike_38 ?_
                refine lv_iadd hx hb dX8_unlike_39 ?_
                refine lv_iconst (v := 1) hx hb dX8_unlike_40 (by decide) ?_
                refine lv_iadd hx hb dX8_unlike_41 ?_
                refine z_iald (n := 114) (f := ms) hx hb hK hP _ 1 (wMo_at2 cy a m0 m1 m2 m3 m4 m5 m6 m7 m8 m9 mb ms md mp mf mi mo mw mn mk mt mq mz me) rfl hF dX8_unlike_42 (fun hF => ?_)
                refine lv_aload_n hx hb dX8_unlike_43 rfl (lv_at hl 0 rfl) ?_
                refine va_get (ci := 8) (C := RX8) (T := TX8) (N := 24) (fs := (zMo a m0 m1 m2 m3 m4 m5 m6 m7 m8 m9)) (v := .ref (a 2)) hx hb hts iX8 hown hK hP _ (wMo_at0 cy a m0 m1 m2 m3 m4 m5 m6 m7 m8 m9 mb ms md mp mf mi mo mw mn mk mt mq mz me) rfl 3 (by decide) k13 (fun _ h9 => h9) rfl dX8_unlike_44 ?_
                refine lv_bipush (v := 54) hx hb dX8_unlike_47 (by decide) ?_
                refine lv_iconst (v := 3) hx hb dX8_unlike_49 (by decide) ?_
                refine lv_iload_n hx hb dX8_unlike_50 rfl (lv_at hl 2 rfl) ?_
                refine lv_imul hx hb dX8_unlike_51 ?_
                refine lv_iadd hx hb dX8_unlike_52 ?_
                refine lv_iconst (v := 1) hx hb dX8_unlike_53 (by decide) ?_
                refine lv_iadd hx hb dX8_unlike_54 ?_
                refine z_iald (n := 114) (f := ms) hx hb hK hP _ 1 (wMo_at2 cy a m0 m1 m2 m3 m4 m5 m6 m7 m8 m9 mb ms md mp mf mi mo mw mn mk mt mq mz me) rfl hF dX8_unlike_55 (fun hF => ?_)
                have J93 : ∀ (H : Heap) (locs : List Loc) (ls : Array Slot), va_P G vwCl (wMo cy a m0 m1 m2 m3 m4 m5 m6 m7 m8 m9 mb ms md mp mf mi mo mw mn mk mt mq mz me) H → va_D A (wMo cy a m0 m1 m2 m3 m4 m5 m6 m7 m8 m9 mb ms md mp mf mi mo mw mn mk mt mq mz me) → va_S A s.heap H locs → lv_has ls 5 [(0, .ref (a 0)), (1, .int s4.1), (2, .int s4.2), (4, .int s19.2)] → j_X8_unlike_93 rc19 s19 = some o → W p l e (zR 1) s m ([.ref (a 0)] : List Value).toArray below meth c H locs 0 0 (MQ below (zQi G cy A (wMo cy a m0 m1 m2 m3 m4 m5 m6 m7 m8 m9 mb ms md mp mf mi mo mw mn mk mt mq mz me) o) ([.ref (a 0)] : List Value).toArray s 0 0 A) (F0 m 93 ls []) := by
                  intro H locs ls hP hD hS hl hF
                  unfold j_X8_unlike_93 at hF
                  refine lv_iconst (v := 0) hx hb dX8_unlike_93 (by decide) ?_
                  exact J94 0 _ _ ls hP hD hS (lv_sub hl [0, 1, 2, 3] rfl) hF
                refine zi_ne (tgt := 93) hx hb hF dX8_unlike_56 (by decide) (fun hF => ?_) (fun hF => ?_)
                · exact J93 _ _ ls hP hD hS (lv_sub hl [0, 1, 2, 4] rfl) hF
                · refine lv_aload_n hx hb dX8_unlike_59 rfl (lv_at hl 0 rfl) ?_
                  refine va_get (ci := 8) (C := RX8) (T := TX8) (N := 24) (fs := (zMo a m0 m1 m2 m3 m4 m5 m6 m7 m8 m9)) (v := .ref (a 2)) hx hb hts iX8 hown hK hP _ (wMo_at0 cy a m0 m1 m2 m3 m4 m5 m6 m7 m8 m9 mb ms md mp mf mi mo mw mn mk mt mq mz me) rfl 3 (by decide) k13 (fun _ h9 => h9) rfl dX8_unlike_60 ?_
                  refine lv_bipush (v := 54) hx hb dX8_unlike_63 (by decide) ?_
                  refine lv_iconst (v := 3) hx hb dX8_unlike_65 (by decide) ?_
                  refine lv_iload hx hb dX8_unlike_66 (lv_at hl 4 rfl) ?_
                  refine lv_imul hx hb dX8_unlike_68 ?_
                  refine lv_iadd hx hb dX8_unlike_69 ?_
                  refine lv_iconst (v := 2) hx hb dX8_unlike_70 (by decide) ?_
                  refine lv_iadd hx hb dX8_unlike_71 ?_
                  refine z_iald (n := 114) (f := ms) hx hb hK hP _ 1 (wMo_at2 cy a m0 m1 m2 m3 m4 m5 m6 m7 m8 m9 mb ms md mp mf mi mo mw mn mk mt mq mz me) rfl hF dX8_unlike_72 (fun hF => ?_)
                  refine lv_aload_n hx hb dX8_unlike_73 rfl (lv_at hl 0 rfl) ?_
                  refine va_get (ci := 8) (C := RX8) (T := TX8) (N := 24) (fs := (zMo a m0 m1 m2 m3 m4 m5 m6 m7 m8 m9)) (v := .ref (a 2)) hx hb hts iX8 hown hK hP _ (wMo_at0 cy a m0 m1 m2 m3 m4 m5 m6 m7 m8 m9 mb ms md mp mf mi mo mw mn mk mt mq mz me) rfl 3 (by decide) k13 (fun _ h9 => h9) rfl dX8_unlike_74 ?_
                  refine lv_bipush (v := 54) hx hb dX8_unlike_77 (by decide) ?_
                  refine lv_iconst (v := 3) hx hb dX8_unlike_79 (by decide) ?_
                  refine lv_iload_n hx hb dX8_unlike_80 rfl (lv_at hl 2 rfl) ?_
                  refine lv_imul hx hb dX8_unlike_81 ?_
                  refine lv_iadd hx hb dX8_unlike_82 ?_
                  refine lv_iconst (v := 2) hx hb dX8_unlike_83 (by decide) ?_
                  refine lv_iadd hx hb dX8_unlike_84 ?_
                  refine z_iald (n := 114) (f := ms) hx hb hK hP _ 1 (wMo_at2 cy a m0 m1 m2 m3 m4 m5 m6 m7 m8 m9 mb ms md mp mf mi mo mw mn mk mt mq mz me) rfl hF dX8_unlike_85 (fun hF => ?_)
                  refine zi_ne (tgt := 93) hx hb hF dX8_unlike_86 (by decide) (fun hF => ?_) (fun hF => ?_)
                  · exact J93 _ _ ls hP hD hS (lv_sub hl [0, 1, 2, 4] rfl) hF
                  · exact J89 _ _ ls hP hD hS (lv_sub hl [0, 1, 2, 4] rfl) hF
        exact L19 1000 (0, 0) _ _ ls hP hD hS (lv_sub hl [2, 3, 4, 1, 0] rfl) hF
  exact L4 1000 (0, 0) _ _ ls hP hD hS (lv_sub hl [2, 1, 0] rfl) hF
def f_X8_count (m1 : Int32) (m2 : Int32) (ms : Nat → Int32) (mf : Nat → Int32) (mi : Nat → Int32) (mo : Nat → Int32) (mw : Nat → Int32) (mn : Nat → Int32) (x01 : Int32) : Option (Int32 × Int32 × (Nat → Int32) × (Nat → Int32) × (Nat → Int32) × (Nat → Int32) × (Nat → Int32)) :=
zlet 0 fun m_1 =>
zbd (f_X8_lays ms mf mi mo mw mn) fun o2 =>
zlet (o2.1) fun mf_3 =>
zlet (o2.2.1) fun mi_4 =>
zlet (o2.2.2.1) fun mo_5 =>
zlet (o2.2.2.2.1) fun mw_6 =>
zlet (o2.2.2.2.2) fun mn_7 =>
if x01 = 0 then (
zg (zin x01 114) (
some ((ms (zn x01)), m_1, mf_3, mi_4, mo_5, mw_6, mn_7))) else (
if x01 = 1 then (
zg (zin x01 114) (
some ((ms (zn x01)), m_1, mf_3, mi_4, mo_5, mw_6, mn_7))) else (
if x01 = 2 then (
zg (zin x01 114) (
some ((ms (zn x01)), m_1, mf_3, mi_4, mo_5, mw_6, mn_7))) else (
if x01 = 3 then (
zg (zin x01 114) (
some ((ms (zn x01)), m_1, mf_3, mi_4, mo_5, mw_6, mn_7))) else (
if x01 = 4 then (
zg (zin x01 114) (
some ((ms (zn x01)), m_1, mf_3, mi_4, mo_5, mw_6, mn_7))) else (
if x01 = 5 then (
zbd (f_X8_good ms mo_5) fun o14 =>
some (o14, m_1, mf_3, mi_4, mo_5, mw_6, mn_7)) else (
if x01 = 6 then (
zbd (f_X8_stuck ms) fun o16 =>
some (o16, m_1, mf_3, mi_4, mo_5, mw_6, mn_7)) else (
if x01 = 7 then (
zbd (f_X8_offOf ms mo_5) fun o18 =>
some (o18, m_1, mf_3, mi_4, mo_5, mw_6, mn_7)) else (
if x01 = 8 then (
some (m2, m_1, mf_3, mi_4, mo_5, mw_6, mn_7)) else (
if x01 = 9 then (
some (m1, m_1, mf_3, mi_4, mo_5, mw_6, mn_7)) else (
if x01 = 10 then (
zbd (f_X8_isQuiet ms mn_7) fun o22 =>
if o22 = 0 then (
some (0, m_1, mf_3, mi_4, mo_5, mw_6, mn_7)) else (
some (1, m_1, mf_3, mi_4, mo_5, mw_6, mn_7))) else (
if x01 = 11 then (
zbd (f_X8_unlike ms) fun o24 =>
some (o24, m_1, mf_3, mi_4, mo_5, mw_6, mn_7)) else (
some ((-1), m_1, mf_3, mi_4, mo_5, mw_6, mn_7)))))))))))))
set_option maxHeartbeats 4000000 in
set_option maxRecDepth 100000 in
theorem c_X8_count (l : Launch) (G : va_G) (cy : Nat → ClassId) (st : Nat → Nat) (a : Nat → Nat) (m0 : Int32) (m1 : Int32) (m2 : Int32) (m3 : Int32) (m4 : Int32) (m5 : Int32) (m6 : Int32) (m7 : Int32) (m8 : Int32) (m9 : Int32) (mb : Nat → Int32) (ms : Nat → Int32) (md : Nat → Int32) (mp : Nat → Int32) (mf : Nat → Int32) (mi : Nat → Int32) (mo : Nat → Int32) (mw : Nat → Int32) (mn : Nat → Int32) (mk : Nat → Int32) (mt : Nat → Int64) (mq : Nat → Int32) (mz : Nat → Int32) (me : Nat → Int32) (x01 : Int32) (o : Int32 × Int32 × (Nat → Int32) × (Nat → Int32) × (Nat → Int32) × (Nat → Int32) × (Nat → Int32)) (hF : f_X8_count m1 m2 ms mf mi mo mw mn x01 = some o) : zMi l yX8_count wsX8_count (zR 4) G cy st [.ref (a 0), .int x01] (wMo cy a m0 m1 m2 m3 m4 m5 m6 m7 m8 m9 mb ms md mp mf mi mo mw mn mk mt mq mz me) (wMo cy a o.2.1 m1 m2 m3 m4 m5 m6 m7 m8 m9 mb ms md mp o.2.2.1 o.2.2.2.1 o.2.2.2.2.1 o.2.2.2.2.2.1 o.2.2.2.2.2.2 mk mt mq mz me) o.1 := by
  refine zM_of (cc := cX8_count) (maxL := 2) (ret := (some .int)) (Qc := fun A => zQi G cy A (wMo cy a o.2.1 m1 m2 m3 m4 m5 m6 m7 m8 m9 mb ms md mp o.2.2.1 o.2.2.2.1 o.2.2.2.2.1 o.2.2.2.2.2.1 o.2.2.2.2.2.2 mk mt mq mz me) o.1) (by decide) rfl (Nat.le_of_ble_eq_true rfl) ?_
  intro p e s m below meth c A ls hx hb hml hr hlocks hown hts hK hSE hA hP hD hS hl
  have hown : s.vm.findClass RX8 = some m.cls := hown
  have hl : lv_has ls 2 [(0, .ref (a 0)), (1, .int x01)] := hl
  have k59 := hts (.fieldLink RX8 59 "TapCascadeModel" "thrown" "I") (by decide +kernel)
  have iX8 : ∀ w ∈ wsX80, w ∈ wsX8_count := fun w h => List.mem_cons_of_mem _ (List.mem_append_right _ h)
  have k13 := hts (.fieldLink RX8 13 "TapCascadeModel" "s" "[I") (by decide +kernel)
  have k103 := hts (.fieldLink RX8 103 "TapCascadeModel" "undos" "I") (by decide +kernel)
  have k67 := hts (.fieldLink RX8 67 "TapCascadeModel" "letters" "I") (by decide +kernel)
  unfold f_X8_count at hF
  refine lv_aload_n hx hb dX8_count_0 rfl (lv_at hl 0 rfl) ?_
  refine lv_iconst (v := 0) hx hb dX8_count_1 (by decide) ?_
  refine z_puti (ci := 8) (C := RX8) (T := TX8) (N := 24) (fs := (zMo a m0 m1 m2 m3 m4 m5 m6 m7 m8 m9)) (x := 0) (wf := (fun y => (wMo cy a y m1 m2 m3 m4 m5 m6 m7 m8 m9 mb ms md mp mf mi mo mw mn mk mt mq mz me))) hx hb hts iX8 tyX8 tyX8_ok nmX8 hown hK hP hD hS _ 0 (wMo_foc0_0 cy a m0 m1 m2 m3 m4 m5 m6 m7 m8 m9 mb ms md mp mf mi mo mw mn mk mt mq mz me 0) rfl (by decide) k59 (fun _ h9 => h9) rfl (by decide +kernel) (Nat.le_of_ble_eq_true rfl) hF dX8_count_2 (fun m_1 hF H locs hP hD hS => ?_)
  refine lv_aload_n hx hb dX8_count_5 rfl (lv_at hl 0 rfl) ?_
  refine z_cVv (b := a 0) (As := []) (rest := []) (wc := (wMo cy a m_1 m1 m2 m3 m4 m5 m6 m7 m8 m9 mb ms md mp mf mi mo mw mn mk mt mq mz me)) (wcf := fun o' => (wMo cy a m_1 m1 m2 m3 m4 m5 m6 m7 m8 m9 mb ms md mp o'.1 o'.2.1 o'.2.2.1 o'.2.2.2.1 o'.2.2.2.2 mk mt mq mz me)) (wf := fun o' => (wMo cy a m_1 m1 m2 m3 m4 m5 m6 m7 m8 m9 mb ms md mp o'.1 o'.2.1 o'.2.2.1 o'.2.2.2.1 o'.2.2.2.2 mk mt mq mz me)) hF (fun o' hz => c_X8_lays l G cy st a m_1 m1 m2 m3 m4 m5 m6 m7 m8 m9 mb ms md mp mf mi mo mw mn mk mt mq mz me o' hz) (fun o' => zCut_all) ⟨hx, hb, hml, hown, hts⟩ (cwV 0 hts gX8_count_X8_lays rfl rfl rfl (by decide +kernel) ⟨by decide, by decide⟩) (ci := 8) (q0 := 0) rfl (wMo_at0 cy a m_1 m1 m2 m3 m4 m5 m6 m7 m8 m9 mb ms md mp mf mi mo mw mn mk mt mq mz me) hK hSE hA hP hD hS rfl hl.1 rfl (Nat.le_of_ble_eq_true rfl) dX8_count_6 ⟨Nat.le_refl _, Nat.le_refl _⟩ (fun o2 hF H locs hP hD hS => ?_)
  refine z_nameW (wf := (fun y => (wMo cy a m_1 m1 m2 m3 m4 m5 m6 m7 m8 m9 mb ms md mp y o2.2.1 o2.2.2.1 o2.2.2.2.1 o2.2.2.2.2 mk mt mq mz me))) hF hP hD (fun mf_3 hF hP hD => ?_)
  refine z_nameW (wf := (fun y => (wMo cy a m_1 m1 m2 m3 m4 m5 m6 m7 m8 m9 mb ms md mp mf_3 y o2.2.2.1 o2.2.2.2.1 o2.2.2.2.2 mk mt mq mz me))) hF hP hD (fun mi_4 hF hP hD => ?_)
  refine z_nameW (wf := (fun y => (wMo cy a m_1 m1 m2 m3 m4 m5 m6 m7 m8 m9 mb ms md mp mf_3 mi_4 y o2.2.2.2.1 o2.2.2.2.2 mk mt mq mz me))) hF hP hD (fun mo_5 hF hP hD => ?_)
  refine z_nameW (wf := (fun y => (wMo cy a m_1 m1 m2 m3 m4 m5 m6 m7 m8 m9 mb ms md mp mf_3 mi_4 mo_5 y o2.2.2.2.2 mk mt mq mz me))) hF hP hD (fun mw_6 hF hP hD => ?_)
  refine z_nameW (wf := (fun y => (wMo cy a m_1 m1 m2 m3 m4 m5 m6 m7 m8 m9 mb ms md mp mf_3 mi_4 mo_5 mw_6 y mk mt mq mz me))) hF hP hD (fun mn_7 hF hP hD => ?_)
  refine lv_iload_n hx hb dX8_count_9 rfl (lv_at hl 1 rfl) ?_
  by_cases h8 : x01 = 0
  · have hF := (if_pos h8).symm.trans hF
    refine lv_tableIn (off := 62) (tgt := 72) hx hb dX8_count_10 (by rw [h8]; decide) (by rw [h8]; decide) (by rw [h8]; decide) (by decide) ?_
    refine lv_aload_n hx hb dX8_count_72 rfl (lv_at hl 0 rfl) ?_
    refine va_get (ci := 8) (C := RX8) (T := TX8) (N := 24) (fs := (zMo a m_1 m1 m2 m3 m4 m5 m6 m7 m8 m9)) (v := .ref (a 2)) hx hb hts iX8 hown hK hP _ (wMo_at0 cy a m_1 m1 m2 m3 m4 m5 m6 m7 m8 m9 mb ms md mp mf_3 mi_4 mo_5 mw_6 mn_7 mk mt mq mz me) rfl 3 (by decide) k13 (fun _ h9 => h9) rfl dX8_count_73 ?_
    refine lv_iload_n hx hb dX8_count_76 rfl (lv_at hl 1 rfl) ?_
    refine z_iald (n := 114) (f := ms) hx hb hK hP _ 1 (wMo_at2 cy a m_1 m1 m2 m3 m4 m5 m6 m7 m8 m9 mb ms md mp mf_3 mi_4 mo_5 mw_6 mn_7 mk mt mq mz me) rfl hF dX8_count_77 (fun hF => ?_)
    refine z_iret (o := o) (o1 := ((ms (zn x01)), m_1, mf_3, mi_4, mo_5, mw_6, mn_7)) (v := (ms (zn x01))) (wf := (fun o => (wMo cy a o.2.1 m1 m2 m3 m4 m5 m6 m7 m8 m9 mb ms md mp o.2.2.1 o.2.2.2.1 o.2.2.2.2.1 o.2.2.2.2.2.1 o.2.2.2.2.2.2 mk mt mq mz me))) (rf := fun o => o.1) hx hb hr hlocks hK ?_ ?_ hS ?_ rfl dX8_count_78
    · exact hP
    · exact hD
    · exact hF
  have hF := (if_neg h8).symm.trans hF
  by_cases h9 : x01 = 1
  · have hF := (if_pos h9).symm.trans hF
    refine lv_tableIn (off := 62) (tgt := 72) hx hb dX8_count_10 (by rw [h9]; decide) (by rw [h9]; decide) (by rw [h9]; decide) (by decide) ?_
    refine lv_aload_n hx hb dX8_count_72 rfl (lv_at hl 0 rfl) ?_
    refine va_get (ci := 8) (C := RX8) (T := TX8) (N := 24) (fs := (zMo a m_1 m1 m2 m3 m4 m5 m6 m7 m8 m9)) (v := .ref (a 2)) hx hb hts iX8 hown hK hP _ (wMo_at0 cy a m_1 m1 m2 m3 m4 m5 m6 m7 m8 m9 mb ms md mp mf_3 mi_4 mo_5 mw_6 mn_7 mk mt mq mz me) rfl 3 (by decide) k13 (fun _ h9 => h9) rfl dX8_count_73 ?_
    refine lv_iload_n hx hb dX8_count_76 rfl (lv_at hl 1 rfl) ?_
    refine z_iald (n := 114) (f := ms) hx hb hK hP _ 1 (wMo_at2 cy a m_1 m1 m2 m3 m4 m5 m6 m7 m8 m9 mb ms md mp mf_3 mi_4 mo_5 mw_6 mn_7 mk mt mq mz me) rfl hF dX8_count_77 (fun hF => ?_)
    refine z_iret (o := o) (o1 := ((ms (zn x01)), m_1, mf_3, mi_4, mo_5, mw_6, mn_7)) (v := (ms (zn x01))) (wf := (fun o => (wMo cy a o.2.1 m1 m2 m3 m4 m5 m6 m7 m8 m9 mb ms md mp o.2.2.1 o.2.2.2.1 o.2.2.2.2.1 o.2.2.2.2.2.1 o.2.2.2.2.2.2 mk mt mq mz me))) (rf := fun o => o.1) hx hb hr hlocks hK ?_ ?_ hS ?_ rfl dX8_count_78
    · exact hP
    · exact hD
    · exact hF
  have hF := (if_neg h9).symm.trans hF
  by_cases h10 : x01 = 2
  · have hF := (if_pos h10).symm.trans hF
    refine lv_tableIn (off := 62) (tgt := 72) hx hb dX8_count_10 (by rw [h10]; decide) (by rw [h10]; decide) (by rw [h10]; decide) (by decide) ?_
    refine lv_aload_n hx hb dX8_count_72 rfl (lv_at hl 0 rfl) ?_
    refine va_get (ci := 8) (C := RX8) (T := TX8) (N := 24) (fs := (zMo a m_1 m1 m2 m3 m4 m5 m6 m7 m8 m9)) (v := .ref (a 2)) hx hb hts iX8 hown hK hP _ (wMo_at0 cy a m_1 m1 m2 m3 m4 m5 m6 m7 m8 m9 mb ms md mp mf_3 mi_4 mo_5 mw_6 mn_7 mk mt mq mz me) rfl 3 (by decide) k13 (fun _ h9 => h9) rfl dX8_count_73 ?_
    refine lv_iload_n hx hb dX8_count_76 rfl (lv_at hl 1 rfl) ?_
    refine z_iald (n := 114) (f := ms) hx hb hK hP _ 1 (wMo_at2 cy a m_1 m1 m2 m3 m4 m5 m6 m7 m8 m9 mb ms md mp mf_3 mi_4 mo_5 mw_6 mn_7 mk mt mq mz me) rfl hF dX8_count_77 (fun hF => ?_)
    refine z_iret (o := o) (o1 := ((ms (zn x01)), m_1, mf_3, mi_4, mo_5, mw_6, mn_7)) (v := (ms (zn x01))) (wf := (fun o => (wMo cy a o.2.1 m1 m2 m3 m4 m5 m6 m7 m8 m9 mb ms md mp o.2.2.1 o.2.2.2.1 o.2.2.2.2.1 o.2.2.2.2.2.1 o.2.2.2.2.2.2 mk mt mq mz me))) (rf := fun o => o.1) hx hb hr hlocks hK ?_ ?_ hS ?_ rfl dX8_count_78
    · exact hP
    · exact hD
    · exact hF
  have hF := (if_neg h10).symm.trans hF
  by_cases h11 : x01 = 3
  · have hF := (if_pos h11).symm.trans hF
    refine lv_tableIn (off := 62) (tgt := 72) hx hb dX8_count_10 (by rw [h11]; decide) (by rw [h11]; decide) (by rw [h11]; decide) (by decide) ?_
    refine lv_aload_n hx hb dX8_count_72 rfl (lv_at hl 0 rfl) ?_
    refine va_get (ci := 8) (C := RX8) (T := TX8) (N := 24) (fs := (zMo a m_1 m1 m2 m3 m4 m5 m6 m7 m8 m9)) (v := .ref (a 2)) hx hb hts iX8 hown hK hP _ (wMo_at0 cy a m_1 m1 m2 m3 m4 m5 m6 m7 m8 m9 mb ms md mp mf_3 mi_4 mo_5 mw_6 mn_7 mk mt mq mz me) rfl 3 (by decide) k13 (fun _ h9 => h9) rfl dX8_count_73 ?_
    refine lv_iload_n hx hb dX8_count_76 rfl (lv_at hl 1 rfl) ?_
    refine z_iald (n := 114) (f := ms) hx hb hK hP _ 1 (wMo_at2 cy a m_1 m1 m2 m3 m4 m5 m6 m7 m8 m9 mb ms md mp mf_3 mi_4 mo_5 mw_6 mn_7 mk mt mq mz me) rfl hF dX8_count_77 (fun hF => ?_)
    refine z_iret (o := o) (o1 := ((ms (zn x01)), m_1, mf_3, mi_4, mo_5, mw_6, mn_7)) (v := (ms (zn x01))) (wf := (fun o => (wMo cy a o.2.1 m1 m2 m3 m4 m5 m6 m7 m8 m9 mb ms md mp o.2.2.1 o.2.2.2.1 o.2.2.2.2.1 o.2.2.2.2.2.1 o.2.2.2.2.2.2 mk mt mq mz me))) (rf := fun o => o.1) hx hb hr hlocks hK ?_ ?_ hS ?_ rfl dX8_count_78
    · exact hP
    · exact hD
    · exact hF
  have hF := (if_neg h11).symm.trans hF
  by_cases h12 : x01 = 4
  · have hF := (if_pos h12).symm.trans hF
    refine lv_tableIn (off := 62) (tgt := 72) hx hb dX8_count_10 (by rw [h12]; decide) (by rw [h12]; decide) (by rw [h12]; decide) (by decide) ?_
    refine lv_aload_n hx hb dX8_count_72 rfl (lv_at hl 0 rfl) ?_
    refine va_get (ci := 8) (C := RX8) (T := TX8) (N := 24) (fs := (zMo a m_1 m1 m2 m3 m4 m5 m6 m7 m8 m9)) (v := .ref (a 2)) hx hb hts iX8 hown hK hP _ (wMo_at0 cy a m_1 m1 m2 m3 m4 m5 m6 m7 m8 m9 mb ms md mp mf_3 mi_4 mo_5 mw_6 mn_7 mk mt mq mz me) rfl 3 (by decide) k13 (fun _ h9 => h9) rfl dX8_count_73 ?_
    refine lv_iload_n hx hb dX8_count_76 rfl (lv_at hl 1 rfl) ?_
    refine z_iald (n := 114) (f := ms) hx hb hK hP _ 1 (wMo_at2 cy a m_1 m1 m2 m3 m4 m5 m6 m7 m8 m9 mb ms md mp mf_3 mi_4 mo_5 mw_6 mn_7 mk mt mq mz me) rfl hF dX8_count_77 (fun hF => ?_)
    refine z_iret (o := o) (o1 := ((ms (zn x01)), m_1, mf_3, mi_4, mo_5, mw_6, mn_7)) (v := (ms (zn x01))) (wf := (fun o => (wMo cy a o.2.1 m1 m2 m3 m4 m5 m6 m7 m8 m9 mb ms md mp o.2.2.1 o.2.2.2.1 o.2.2.2.2.1 o.2.2.2.2.2.1 o.2.2.2.2.2.2 mk mt mq mz me))) (rf := fun o => o.1) hx hb hr hlocks hK ?_ ?_ hS ?_ rfl dX8_count_78
    · exact hP
    · exact hD
    · exact hF
  have hF := (if_neg h12).symm.trans hF
  by_cases h13 : x01 = 5
  · have hF := (if_pos h13).symm.trans hF
    refine lv_tableIn (off := 69) (tgt := 79) hx hb dX8_count_10 (by rw [h13]; decide) (by rw [h13]; decide) (by rw [h13]; decide) (by decide) ?_
    refine lv_aload_n hx hb dX8_count_79 rfl (lv_at hl 0 rfl) ?_
    refine z_cVi (b := a 0) (As := []) (rest := []) (wc := (wMo cy a m_1 m1 m2 m3 m4 m5 m6 m7 m8 m9 mb ms md mp mf_3 mi_4 mo_5 mw_6 mn_7 mk mt mq mz me)) (wcf := fun o' => (wMo cy a m_1 m1 m2 m3 m4 m5 m6 m7 m8 m9 mb ms md mp mf_3 mi_4 mo_5 mw_6 mn_7 mk mt mq mz me)) (wf := fun o' => (wMo cy a m_1 m1 m2 m3 m4 m5 m6 m7 m8 m9 mb ms md mp mf_3 mi_4 mo_5 mw_6 mn_7 mk mt mq mz me)) (rf := fun o' => o') hF (fun o' hz => c_X8_good l G cy st a m_1 m1 m2 m3 m4 m5 m6 m7 m8 m9 mb ms md mp mf_3 mi_4 mo_5 mw_6 mn_7 mk mt mq mz me o' hz) (fun o' => zCut_all) ⟨hx, hb, hml, hown, hts⟩ (cwV 0 hts gX8_count_X8_good rfl rfl rfl (by decide +kernel) ⟨by decide, by decide⟩) (ci := 8) (q0 := 0) rfl (wMo_at0 cy a m_1 m1 m2 m3 m4 m5 m6 m7 m8 m9 mb ms md mp mf_3 mi_4 mo_5 mw_6 mn_7 mk mt mq mz me) hK hSE hA hP hD hS rfl hl.1 rfl (Nat.le_of_ble_eq_true rfl) dX8_count_80 ⟨Nat.le_refl _, Nat.le_refl _⟩ (fun o14 hF H locs hP hD hS => ?_)
    refine z_iret (o := o) (o1 := (o14, m_1, mf_3, mi_4, mo_5, mw_6, mn_7)) (v := o14) (wf := (fun o => (wMo cy a o.2.1 m1 m2 m3 m4 m5 m6 m7 m8 m9 mb ms md mp o.2.2.1 o.2.2.2.1 o.2.2.2.2.1 o.2.2.2.2.2.1 o.2.2.2.2.2.2 mk mt mq mz me))) (rf := fun o => o.1) hx hb hr hlocks hK ?_ ?_ hS ?_ rfl dX8_count_83
    · exact hP
    · exact hD
    · exact hF
  have hF := (if_neg h13).symm.trans hF
  by_cases h15 : x01 = 6
  · have hF := (if_pos h15).symm.trans hF
    refine lv_tableIn (off := 74) (tgt := 84) hx hb dX8_count_10 (by rw [h15]; decide) (by rw [h15]; decide) (by rw [h15]; decide) (by decide) ?_
    refine lv_aload_n hx hb dX8_count_84 rfl (lv_at hl 0 rfl) ?_
    refine z_cVi (b := a 0) (As := []) (rest := []) (wc := (wMo cy a m_1 m1 m2 m3 m4 m5 m6 m7 m8 m9 mb ms md mp mf_3 mi_4 mo_5 mw_6 mn_7 mk mt mq mz me)) (wcf := fun o' => (wMo cy a m_1 m1 m2 m3 m4 m5 m6 m7 m8 m9 mb ms md mp mf_3 mi_4 mo_5 mw_6 mn_7 mk mt mq mz me)) (wf := fun o' => (wMo cy a m_1 m1 m2 m3 m4 m5 m6 m7 m8 m9 mb ms md mp mf_3 mi_4 mo_5 mw_6 mn_7 mk mt mq mz me)) (rf := fun o' => o') hF (fun o' hz => c_X8_stuck l G cy st a m_1 m1 m2 m3 m4 m5 m6 m7 m8 m9 mb ms md mp mf_3 mi_4 mo_5 mw_6 mn_7 mk mt mq mz me o' hz) (fun o' => zCut_all) ⟨hx, hb, hml, hown, hts⟩ (cwV 0 hts gX8_count_X8_stuck rfl rfl rfl (by decide +kernel) ⟨by decide, by decide⟩) (ci := 8) (q0 := 0) rfl (wMo_at0 cy a m_1 m1 m2 m3 m4 m5 m6 m7 m8 m9 mb ms md mp mf_3 mi_4 mo_5 mw_6 mn_7 mk mt mq mz me) hK hSE hA hP hD hS rfl hl.1 rfl (Nat.le_of_ble_eq_true rfl) dX8_count_85 ⟨Nat.le_refl _, Nat.le_refl _⟩ (fun o16 hF H locs hP hD hS => ?_)
    refine z_iret (o := o) (o1 := (o16, m_1, mf_3, mi_4, mo_5, mw_6, mn_7)) (v := o16) (wf := (fun o => (wMo cy a o.2.1 m1 m2 m3 m4 m5 m6 m7 m8 m9 mb ms md mp o.2.2.1 o.2.2.2.1 o.2.2.2.2.1 o.2.2.2.2.2.1 o.2.2.2.2.2.2 mk mt mq mz me))) (rf := fun o => o.1) hx hb hr hlocks hK ?_ ?_ hS ?_ rfl dX8_count_88
    · exact hP
    · exact hD
    · exact hF
  have hF := (if_neg h15).symm.trans hF
  by_cases h17 : x01 = 7
  · have hF := (if_pos h17).symm.trans hF
    refine lv_tableIn (off := 79) (tgt := 89) hx hb dX8_count_10 (by rw [h17]; decide) (by rw [h17]; decide) (by rw [h17]; decide) (by decide) ?_
    refine lv_aload_n hx hb dX8_count_89 rfl (lv_at hl 0 rfl) ?_
    refine z_cVi (b := a 0) (As := []) (rest := []) (wc := (wMo cy a m_1 m1 m2 m3 m4 m5 m6 m7 m8 m9 mb ms md mp mf_3 mi_4 mo_5 mw_6 mn_7 mk mt mq mz me)) (wcf := fun o' => (wMo cy a m_1 m1 m2 m3 m4 m5 m6 m7 m8 m9 mb ms md mp mf_3 mi_4 mo_5 mw_6 mn_7 mk mt mq mz me)) (wf := fun o' => (wMo cy a m_1 m1 m2 m3 m4 m5 m6 m7 m8 m9 mb ms md mp mf_3 mi_4 mo_5 mw_6 mn_7 mk mt mq mz me)) (rf := fun o' => o') hF (fun o' hz => c_X8_offOf l G cy st a m_1 m1 m2 m3 m4 m5 m6 m7 m8 m9 mb ms md mp mf_3 mi_4 mo_5 mw_6 mn_7 mk mt mq mz me o' hz) (fun o' => zCut_all) ⟨hx, hb, hml, hown, hts⟩ (cwV 0 hts gX8_count_X8_offOf rfl rfl rfl (by decide +kernel) ⟨by decide, by decide⟩) (ci := 8) (q0 := 0) rfl (wMo_at0 cy a m_1 m1 m2 m3 m4 m5 m6 m7 m8 m9 mb ms md mp mf_3 mi_4 mo_5 mw_6 mn_7 mk mt mq mz me) hK hSE hA hP hD hS rfl hl.1 rfl (Nat.le_of_ble_eq_true rfl) dX8_count_90 ⟨Nat.le_refl _, Nat.le_refl _⟩ (fun o18 hF H locs hP hD hS => ?_)
    refine z_iret (o := o) (o1 := (o18, m_1, mf_3, mi_4, mo_5, mw_6, mn_7)) (v := o18) (wf := (fun o => (wMo cy a o.2.1 m1 m2 m3 m4 m5 m6 m7 m8 m9 mb ms md mp o.2.2.1 o.2.2.2.1 o.2.2.2.2.1 o.2.2.2.2.2.1 o.2.2.2.2.2.2 mk mt mq mz me))) (rf := fun o => o.1) hx hb hr hlocks hK ?_ ?_ hS ?_ rfl dX8_count_93
    · exact hP
    · exact hD
    · exact hF
  have hF := (if_neg h17).symm.trans hF
  by_cases h19 : x01 = 8
  · have hF := (if_pos h19).symm.trans hF
    refine lv_tableIn (off := 84) (tgt := 94) hx hb dX8_count_10 (by rw [h19]; decide) (by rw [h19]; decide) (by rw [h19]; decide) (by decide) ?_
    refine lv_aload_n hx hb dX8_count_94 rfl (lv_at hl 0 rfl) ?_
    refine va_get (ci := 8) (C := RX8) (T := TX8) (N := 24) (fs := (zMo a m_1 m1 m2 m3 m4 m5 m6 m7 m8 m9)) (v := .int m2) hx hb hts iX8 hown hK hP _ (wMo_at0 cy a m_1 m1 m2 m3 m4 m5 m6 m7 m8 m9 mb ms md mp mf_3 mi_4 mo_5 mw_6 mn_7 mk mt mq mz me) rfl 6 (by decide) k103 (fun _ h9 => h9) rfl dX8_count_95 ?_
    refine z_iret (o := o) (o1 := (m2, m_1, mf_3, mi_4, mo_5, mw_6, mn_7)) (v := m2) (wf := (fun o => (wMo cy a o.2.1 m1 m2 m3 m4 m5 m6 m7 m8 m9 mb ms md mp o.2.2.1 o.2.2.2.1 o.2.2.2.2.1 o.2.2.2.2.2.1 o.2.2.2.2.2.2 mk mt mq mz me))) (rf := fun o => o.1) hx hb hr hlocks hK ?_ ?_ hS ?_ rfl dX8_count_98
    · exact hP
    · exact hD
    · exact hF
  have hF := (if_neg h19).symm.trans hF
  by_cases h20 : x01 = 9
  · have hF := (if_pos h20).symm.trans hF
    refine lv_tableIn (off := 89) (tgt := 99) hx hb dX8_count_10 (by rw [h20]; decide) (by rw [h20]; decide) (by rw [h20]; decide) (by decide) ?_
    refine lv_aload_n hx hb dX8_count_99 rfl (lv_at hl 0 rfl) ?_
    refine va_get (ci := 8) (C := RX8) (T := TX8) (N := 24) (fs := (zMo a m_1 m1 m2 m3 m4 m5 m6 m7 m8 m9)) (v := .int m1) hx hb hts iX8 hown hK hP _ (wMo_at0 cy a m_1 m1 m2 m3 m4 m5 m6 m7 m8 m9 mb ms md mp mf_3 mi_4 mo_5 mw_6 mn_7 mk mt mq mz me) rfl 2 (by decide) k67 (fun _ h9 => h9) rfl dX8_count_100 ?_
    refine z_iret (o := o) (o1 := (m1, m_1, mf_3, mi_4, mo_5, mw_6, mn_7)) (v := m1) (wf := (fun o => (wMo cy a o.2.1 m1 m2 m3 m4 m5 m6 m7 m8 m9 mb ms md mp o.2.2.1 o.2.2.2.1 o.2.2.2.2.1 o.2.2.2.2.2.1 o.2.2.2.2.2.2 mk mt mq mz me))) (rf := fun o => o.1) hx hb hr hlocks hK ?_ ?_ hS ?_ rfl dX8_count_103
    · exact hP
    · exact hD
    · exact hF
  have hF := (if_neg h20).symm.trans hF
  by_cases h21 : x01 = 10
  · have hF := (if_pos h21).symm.trans hF
    refine lv_tableIn (off := 94) (tgt := 104) hx hb dX8_count_10 (by rw [h21]; decide) (by rw [h21]; decide) (by rw [h21]; decide) (by decide) ?_
    refine lv_aload_n hx hb dX8_count_104 rfl (lv_at hl 0 rfl) ?_
    refine z_cVi (b := a 0) (As := []) (rest := []) (wc := (wMo cy a m_1 m1 m2 m3 m4 m5 m6 m7 m8 m9 mb ms md mp mf_3 mi_4 mo_5 mw_6 mn_7 mk mt mq mz me)) (wcf := fun o' => (wMo cy a m_1 m1 m2 m3 m4 m5 m6 m7 m8 m9 mb ms md mp mf_3 mi_4 mo_5 mw_6 mn_7 mk mt mq mz me)) (wf := fun o' => (wMo cy a m_1 m1 m2 m3 m4 m5 m6 m7 m8 m9 mb ms md mp mf_3 mi_4 mo_5 mw_6 mn_7 mk mt mq mz me)) (rf := fun o' => o') hF (fun o' hz => c_X8_isQuiet l G cy st a m_1 m1 m2 m3 m4 m5 m6 m7 m8 m9 mb ms md mp mf_3 mi_4 mo_5 mw_6 mn_7 mk mt mq mz me o' hz) (fun o' => zCut_all) ⟨hx, hb, hml, hown, hts⟩ (cwV 0 hts gX8_count_X8_isQuiet rfl rfl rfl (by decide +kernel) ⟨by decide, by decide⟩) (ci := 8) (q0 := 0) rfl (wMo_at0 cy a m_1 m1 m2 m3 m4 m5 m6 m7 m8 m9 mb ms md mp mf_3 mi_4 mo_5 mw_6 mn_7 mk mt mq mz me) hK hSE hA hP hD hS rfl hl.1 rfl (Nat.le_of_ble_eq_true rfl) dX8_count_105 ⟨Nat.le_refl _, Nat.le_refl _⟩ (fun o22 hF H locs hP hD hS => ?_)
    refine zf_eq (tgt := 115) hx hb hF dX8_count_108 (by decide) (fun hF => ?_) (fun hF => ?_)
    · refine lv_iconst (v := 0) hx hb dX8_count_115 (by decide) ?_
      refine z_iret (o := o) (o1 := (0, m_1, mf_3, mi_4, mo_5, mw_6, mn_7)) (v := 0) (wf := (fun o => (wMo cy a o.2.1 m1 m2 m3 m4 m5 m6 m7 m8 m9 mb ms md mp o.2.2.1 o.2.2.2.1 o.2.2.2.2.1 o.2.2.2.2.2.1 o.2.2.2.2.2.2 mk mt mq mz me))) (rf := fun o => o.1) hx hb hr hlocks hK ?_ ?_ hS ?_ rfl dX8_count_116
      · exact hP
      · exact hD
      · exact hF
    · refine lv_iconst (v := 1) hx hb dX8_count_111 (by decide) ?_
      refine lv_goto (tgt := 116) hx hb dX8_count_112 (by decide) ?_
      refine z_iret (o := o) (o1 := (1, m_1, mf_3, mi_4, mo_5, mw_6, mn_7)) (v := 1) (wf := (fun o => (wMo cy a o.2.1 m1 m2 m3 m4 m5 m6 m7 m8 m9 mb ms md mp o.2.2.1 o.2.2.2.1 o.2.2.2.2.1 o.2.2.2.2.2.1 o.2.2.2.2.2.2 mk mt mq mz me))) (rf := fun o => o.1) hx hb hr hlocks hK ?_ ?_ hS ?_ rfl dX8_count_116
      · exact hP
      · exact hD
      · exact hF
  have hF := (if_neg h21).symm.trans hF
  by_cases h23 : x01 = 11
  · have hF := (if_pos h23).symm.trans hF
    refine lv_tableIn (off := 107) (tgt := 117) hx hb dX8_count_10 (by rw [h23]; decide) (by rw [h23]; decide) (by rw [h23]; decide) (by decide) ?_
    refine lv_aload_n hx hb dX8_count_117 rfl (lv_at hl 0 rfl) ?_
    refine z_cVi (b := a 0) (As := []) (rest := []) (wc := (wMo cy a m_1 m1 m2 m3 m4 m5 m6 m7 m8 m9 mb ms md mp mf_3 mi_4 mo_5 mw_6 mn_7 mk mt mq mz me)) (wcf := fun o' => (wMo cy a m_1 m1 m2 m3 m4 m5 m6 m7 m8 m9 mb ms md mp mf_3 mi_4 mo_5 mw_6 mn_7 mk mt mq mz me)) (wf := fun o' => (wMo cy a m_1 m1 m2 m3 m4 m5 m6 m7 m8 m9 mb ms md mp mf_3 mi_4 mo_5 mw_6 mn_7 mk mt mq mz me)) (rf := fun o' => o') hF (fun o' hz => c_X8_unlike l G cy st a m_1 m1 m2 m3 m4 m5 m6 m7 m8 m9 mb ms md mp mf_3 mi_4 mo_5 mw_6 mn_7 mk mt mq mz me o' hz) (fun o' => zCut_all) ⟨hx, hb, hml, hown, hts⟩ (cwV 0 hts gX8_count_X8_unlike rfl rfl rfl (by decide +kernel) ⟨by decide, by decide⟩) (ci := 8) (q0 := 0) rfl (wMo_at0 cy a m_1 m1 m2 m3 m4 m5 m6 m7 m8 m9 mb ms md mp mf_3 mi_4 mo_5 mw_6 mn_7 mk mt mq mz me) hK hSE hA hP hD hS rfl hl.1 rfl (Nat.le_of_ble_eq_true rfl) dX8_count_118 ⟨Nat.le_refl _, Nat.le_refl _⟩ (fun o24 hF H locs hP hD hS => ?_)
    refine z_iret (o := o) (o1 := (o24, m_1, mf_3, mi_4, mo_5, mw_6, mn_7)) (v := o24) (wf := (fun o => (wMo cy a o.2.1 m1 m2 m3 m4 m5 m6 m7 m8 m9 mb ms md mp o.2.2.1 o.2.2.2.1 o.2.2.2.2.1 o.2.2.2.2.2.1 o.2.2.2.2.2.2 mk mt mq mz me))) (rf := fun o => o.1) hx hb hr hlocks hK ?_ ?_ hS ?_ rfl dX8_count_121
    · exact hP
    · exact hD
    · exact hF
  have hF := (if_neg h23).symm.trans hF
  refine lv_tableOut (x := x01) (tgt := 122) hx hb dX8_count_10 (by have q0 := lv_neT (a := 0) h8 (by decide); have q1 := lv_neT (a := 1) h9 (by decide); have q2 := lv_neT (a := 2) h10 (by decide); have q3 := lv_neT (a := 3) h11 (by decide); have q4 := lv_neT (a := 4) h12 (by decide); have q5 := lv_neT (a := 5) h13 (by decide); have q6 := lv_neT (a := 6) h15 (by decide); have q7 := lv_neT (a := 7) h17 (by decide); have q8 := lv_neT (a := 8) h19 (by decide); have q9 := lv_neT (a := 9) h20 (by decide); have q10 := lv_neT (a := 10) h21 (by decide); have q11 := lv_neT (a := 11) h23 (by decide); omega) (by decide) ?_
  refine lv_iconst (v := (-1)) hx hb dX8_count_122 (by decide) ?_
  refine z_iret (o := o) (o1 := ((-1), m_1, mf_3, mi_4, mo_5, mw_6, mn_7)) (v := (-1)) (wf := (fun o => (wMo cy a o.2.1 m1 m2 m3 m4 m5 m6 m7 m8 m9 mb ms md mp o.2.2.1 o.2.2.2.1 o.2.2.2.2.1 o.2.2.2.2.2.1 o.2.2.2.2.2.2 mk mt mq mz me))) (rf := fun o => o.1) hx hb hr hlocks hK ?_ ?_ hS ?_ rfl dX8_count_123
  · exact hP
  · exact hD
  · exact hF
