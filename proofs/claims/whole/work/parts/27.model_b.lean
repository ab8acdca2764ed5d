/-! ===== 27.model_b: laid by a program out of the decode rows ===== -/
def j_X8_notesStep_113 (mw : Nat → Int32) (x01 : Int32) (ms_6 : Nat → Int32) : Option ((Nat → Int32)) :=
zg (zin 5 114) (
zlet (54 + (3 * (ms_6 (zn 5)))) fun x7 =>
zg (zin 2 114) (
zg (zin x7 114) (
zlet (upd ms_6 (zn x7) (ms_6 (zn 2))) fun ms_8 =>
zg (zin (x7 + 1) 114) (
zlet (upd ms_8 (zn (x7 + 1)) x01) fun ms_9 =>
zg (zin x01 4) (
zg (zin (x7 + 2) 114) (
zlet (upd ms_9 (zn (x7 + 2)) (mw (zn x01))) fun ms_10 =>
zg (zin 5 114) (
zg (zin 5 114) (
zlet (upd ms_10 (zn 5) ((ms_10 (zn 5)) + 1)) fun ms_11 =>
some ms_11))))))))
def j_X8_notesStep_103 (mw : Nat → Int32) (x01 : Int32) (ms_12 : Nat → Int32) : Option ((Nat → Int32)) :=
zg (zin 5 114) (
zg (zin 5 114) (
zlet (upd ms_12 (zn 5) ((ms_12 (zn 5)) - 1)) fun ms_13 =>
j_X8_notesStep_113 mw x01 ms_13))
def b_X8_notesStep_77 (mw : Nat → Int32) (x01 : Int32) (rc77 : (Int32 × (Nat → Int32)) → Option ((Nat → Int32))) (s77 : Int32 × (Nat → Int32)) : Option ((Nat → Int32)) :=
if (111 : Int32) ≤ s77.1 then (
j_X8_notesStep_103 mw x01 s77.2) else (
zg (zin (s77.1 + 3) 114) (
zg (zin s77.1 114) (
zlet (upd s77.2 (zn s77.1) (s77.2 (zn (s77.1 + 3)))) fun ms_14 =>
zlet (s77.1 + 1) fun x15 =>
rc77 (x15, ms_14))))
def j_X8_notesStep_48 (mw : Nat → Int32) (x01 : Int32) (ms_1 : Nat → Int32) (t3 : Int32) : Option ((Nat → Int32)) :=
zg (zin 4 114) (
zlet (upd ms_1 (zn 4) ((ms_1 (zn 4)) + t3)) fun ms_4 =>
zg (zin x01 4) (
zbd (f_X8_puts ms_4 x01 11 (mw (zn x01))) fun o5 =>
zg (zin 5 114) (
if (o5 (zn 5)) = (20 : Int32) then (
zloop (b_X8_notesStep_77 mw x01) 1000 (54, o5)) else (
j_X8_notesStep_113 mw x01 o5))))
def j_X8_notesStep_47 (mw : Nat → Int32) (x01 : Int32) (ms_1 : Nat → Int32) : Option ((Nat → Int32)) :=
j_X8_notesStep_48 mw x01 ms_1 0
def f_X8_notesStep (ms : Nat → Int32) (mw : Nat → Int32) (x01 : Int32) : Option ((Nat → Int32)) :=
zg (zin 3 114) (
zg (zin 3 114) (
zlet (upd ms (zn 3) ((ms (zn 3)) + 1)) fun ms_1 =>
zg (zin 4 114) (
zbd (f_X8_of ms_1 x01 11) fun o2 =>
if o2 ≤ 0 then (
j_X8_notesStep_47 mw x01 ms_1) else (
zbd (f_X8_of ms_1 x01 11) fun o16 =>
zg (zin x01 4) (
if o16 = (mw (zn x01)) then (
j_X8_notesStep_47 mw x01 ms_1) else (
j_X8_notesStep_48 mw x01 ms_1 1))))))
set_option maxHeartbeats 4000000 in
set_option maxRecDepth 100000 in
theorem c_X8_notesStep (l : Launch) (G : va_G) (cy : Nat → ClassId) (st : Nat → Nat) (a : Nat → Nat) (m0 : Int32) (m1 : Int32) (m2 : Int32) (m3 : Int32) (m4 : Int32) (m5 : Int32) (m6 : Int32) (m7 : Int32) (m8 : Int32) (m9 : Int32) (mb : Nat → Int32) (ms : Nat → Int32) (md : Nat → Int32) (mp : Nat → Int32) (mf : Nat → Int32) (mi : Nat → Int32) (mo : Nat → Int32) (mw : Nat → Int32) (mn : Nat → Int32) (mk : Nat → Int32) (mt : Nat → Int64) (mq : Nat → Int32) (mz : Nat → Int32) (me : Nat → Int32) (x01 : Int32) (o : (Nat → Int32)) (hF : f_X8_notesStep ms mw x01 = some o) : zMv l yX8_notesStep wsX8_notesStep (zR 2) G cy st [.ref (a 0), .int x01] (wMo cy a m0 m1 m2 m3 m4 m5 m6 m7 m8 m9 mb ms md mp mf mi mo mw mn mk mt mq mz me) (wMo cy a m0 m1 m2 m3 m4 m5 m6 m7 m8 m9 mb o md mp mf mi mo mw mn mk mt mq mz me) := by
  refine zM_of (cc := cX8_notesStep) (maxL := 3) (ret := none) (Qc := fun A => zQv G cy A (wMo cy a m0 m1 m2 m3 m4 m5 m6 m7 m8 m9 mb o md mp mf mi mo mw mn mk mt mq mz me)) (by decide) rfl (Nat.le_of_ble_eq_true rfl) ?_
  intro p e s m below meth c A ls hx hb hml hr hlocks hown hts hK hSE hA hP hD hS hl
  have hown : s.vm.findClass RX8 = some m.cls := hown
  have hl : lv_has ls 3 [(0, .ref (a 0)), (1, .int x01)] := hl
  have k13 := hts (.fieldLink RX8 13 "TapCascadeModel" "s" "[I") (by decide +kernel)
  have iX8 : ∀ w ∈ wsX80, w ∈ wsX8_notesStep := fun w h => List.mem_cons_of_mem _ (List.mem_append_right _ h)
  have k32 := hts (.fieldLink RX8 32 "TapCascadeModel" "want" "[I") (by decide +kernel)
  unfold f_X8_notesStep at hF
  refine lv_aload_n hx hb dX8_notesStep_0 rfl (lv_at hl 0 rfl) ?_
  refine va_get (ci := 8) (C := RX8) (T := TX8) (N := 24) (fs := (zMo a m0 m1 m2 m3 m4 m5 m6 m7 m8 m9)) (v := .ref (a 2)) hx hb hts iX8 hown hK hP _ (wMo_at0 cy a m0 m1 m2 m3 m4 m5 m6 m7 m8 m9 mb ms md mp mf mi mo mw mn mk mt mq mz me) rfl 3 (by decide) k13 (fun _ h9 => h9) rfl dX8_notesStep_1 ?_
  refine lv_iconst (v := 3) hx hb dX8_notesStep_4 (by decide) ?_
  refine lv_dup2_11 hx hb dX8_notesStep_5 rfl rfl ?_
  refine z_iald (n := 114) (f := ms) hx hb hK hP _ 1 (wMo_at2 cy a m0 m1 m2 m3 m4 m5 m6 m7 m8 m9 mb ms md mp mf mi mo mw mn mk mt mq mz me) rfl hF dX8_notesStep_6 (fun hF => ?_)
  refine lv_iconst (v := 1) hx hb dX8_notesStep_7 (by decide) ?_
  refine lv_iadd hx hb dX8_notesStep_8 ?_
  refine z_iast (n := 114) (f := ms) (i := 3) (x := ((ms (zn 3)) + 1)) (wf := (fun y => (wMo cy a m0 m1 m2 m3 m4 m5 m6 m7 m8 m9 mb y md mp mf mi mo mw mn mk mt mq mz me))) hx hb hK hP hD hS _ 1 (wMo_foc2 cy a m0 m1 m2 m3 m4 m5 m6 m7 m8 m9 mb ms md mp mf mi mo mw mn mk mt mq mz me _) rfl hF dX8_notesStep_9 (fun ms_1 hF H locs hP hD hS => ?_)
  refine lv_aload_n hx hb dX8_notesStep_10 rfl (lv_at hl 0 rfl) ?_
  refine va_get (ci := 8) (C := RX8) (T := TX8) (N := 24) (fs := (zMo a m0 m1 m2 m3 m4 m5 m6 m7 m8 m9)) (v := .ref (a 2)) hx hb hts iX8 hown hK hP _ (wMo_at0 cy a m0 m1 m2 m3 m4 m5 m6 m7 m8 m9 mb ms_1 md mp mf mi mo mw mn mk mt mq mz me) rfl 3 (by decide) k13 (fun _ h9 => h9) rfl dX8_notesStep_11 ?_
  refine lv_iconst (v := 4) hx hb dX8_notesStep_14 (by decide) ?_
  refine lv_dup2_11 hx hb dX8_notesStep_15 rfl rfl ?_
  refine z_iald (n := 114) (f := ms_1) hx hb hK hP _ 1 (wMo_at2 cy a m0 m1 m2 m3 m4 m5 m6 m7 m8 m9 mb ms_1 md mp mf mi mo mw mn mk mt mq mz me) rfl hF dX8_notesStep_16 (fun hF => ?_)
  refine lv_aload_n hx hb dX8_notesStep_17 rfl (lv_at hl 0 rfl) ?_
  refine lv_iload_n hx hb dX8_notesStep_18 rfl (lv_at hl 1 rfl) ?_
  refine lv_bipush (v := 11) hx hb dX8_notesStep_19 (by decide) ?_
  refine z_cVi (b := a 0) (As := [.int x01, .int 11]) (rest := [.int (ms_1 (zn 4)), .int 4, .ref (a 2)]) (wc := (wMo cy a m0 m1 m2 m3 m4 m5 m6 m7 m8 m9 mb ms_1 md mp mf mi mo mw mn mk mt mq mz me)) (wcf := fun o' => (wMo cy a m0 m1 m2 m3 m4 m5 m6 m7 m8 m9 mb ms_1 md mp mf mi mo mw mn mk mt mq mz me)) (wf := fun o' => (wMo cy a m0 m1 m2 m3 m4 m5 m6 m7 m8 m9 mb ms_1 md mp mf mi mo mw mn mk mt mq mz me)) (rf := fun o' => o') hF (fun o' hz => c_X8_of l G cy st a m0 m1 m2 m3 m4 m5 m6 m7 m8 m9 mb ms_1 md mp mf mi mo mw mn mk mt mq mz me x01 11 o' hz) (fun o' => zCut_all) ⟨hx, hb, hml, hown, hts⟩ (cwV 2 hts gX8_notesStep_X8_of rfl rfl rfl (by decide +kernel) ⟨by decide, by decide⟩) (ci := 8) (q0 := 0) rfl (wMo_at0 cy a m0 m1 m2 m3 m4 m5 m6 m7 m8 m9 mb ms_1 md mp mf mi mo mw mn mk mt mq mz me) hK hSE hA hP hD hS rfl hl.1 rfl (Nat.le_of_ble_eq_true rfl) dX8_notesStep_21 ⟨Nat.le_refl _, Nat.le_refl _⟩ (fun o2 hF H locs hP hD hS => ?_)
  have J48 : ∀ (t3 : Int32) (H : Heap) (locs : List Loc) (ls : Array Slot), va_P G vwCl (wMo cy a m0 m1 m2 m3 m4 m5 m6 m7 m8 m9 mb ms_1 md mp mf mi mo mw mn mk mt mq mz me) H → va_D A (wMo cy a m0 m1 m2 m3 m4 m5 m6 m7 m8 m9 mb ms_1 md mp mf mi mo mw mn mk mt mq mz me) → va_S A s.heap H locs → lv_has ls 3 [(0, .ref (a 0)), (1, .int x01)] → j_X8_notesStep_48 mw x01 ms_1 t3 = some o → W p l e (zR 2) s m ([.ref (a 0), .int x01] : List Value).toArray below meth c H locs 0 0 (MQ below (zQv G cy A (wMo cy a m0 m1 m2 m3 m4 m5 m6 m7 m8 m9 mb o md mp mf mi mo mw mn mk mt mq mz me)) ([.ref (a 0), .int x01] : List Value).toArray s 0 0 A) (F0 m 48 ls [.int t3, .int (ms_1 (zn 4)), .int 4, .ref (a 2)]) := by
    intro t3 H locs ls hP hD hS hl hF
    unfold j_X8_notesStep_48 at hF
    refine lv_iadd hx hb dX8_notesStep_48 ?_
    refine z_iast (n := 114) (f := ms_1) (i := 4) (x := ((ms_1 (zn 4)) + t3)) (wf := (fun y => (wMo cy a m0 m1 m2 m3 m4 m5 m6 m7 m8 m9 mb y md mp mf mi mo mw mn mk mt mq mz me))) hx hb hK hP hD hS _ 1 (wMo_foc2 cy a m0 m1 m2 m3 m4 m5 m6 m7 m8 m9 mb ms_1 md mp mf mi mo mw mn mk mt mq mz me _) rfl hF dX8_notesStep_49 (fun ms_4 hF H locs hP hD hS => ?_)
    refine lv_aload_n hx hb dX8_notesStep_50 rfl (lv_at hl 0 rfl) ?_
    refine lv_iload_n hx hb dX8_notesStep_51 rfl (lv_at hl 1 rfl) ?_
    refine lv_bipush (v := 11) hx hb dX8_notesStep_52 (by decide) ?_
    refine lv_aload_n hx hb dX8_notesStep_54 rfl (lv_at hl 0 rfl) ?_
    refine va_get (ci := 8) (C := RX8) (T := TX8) (N := 24) (fs := (zMo a m0 m1 m2 m3 m4 m5 m6 m7 m8 m9)) (v := .ref (a 8)) hx hb hts iX8 hown hK hP _ (wMo_at0 cy a m0 m1 m2 m3 m4 m5 m6 m7 m8 m9 mb ms_4 md mp mf mi mo mw mn mk mt mq mz me) rfl 12 (by decide) k32 (fun _ h9 => h9) rfl dX8_notesStep_55 ?_
    refine lv_iload_n hx hb dX8_notesStep_58 rfl (lv_at hl 1 rfl) ?_
    refine z_iald (n := 4) (f := mw) hx hb hK hP _ 1 (wMo_at8 cy a m0 m1 m2 m3 m4 m5 m6 m7 m8 m9 mb ms_4 md mp mf mi mo mw mn mk mt mq mz me) rfl hF dX8_notesStep_59 (fun hF => ?_)
    refine z_cVv (b := a 0) (As := [.int x01, .int 11, .int (mw (zn x01))]) (rest := []) (wc := (wMo cy a m0 m1 m2 m3 m4 m5 m6 m7 m8 m9 mb ms_4 md mp mf mi mo mw mn mk mt mq mz me)) (wcf := fun o' => (wMo cy a m0 m1 m2 m3 m4 m5 m6 m7 m8 m9 mb o' md mp mf mi mo mw mn mk mt mq mz me)) (wf := fun o' => (wMo cy a m0 m1 m2 m3 m4 m5 m6 m7 m8 m9 mb o' md mp mf mi mo mw mn mk mt mq mz me)) hF (fun o' hz => c_X8_puts l G cy st a m0 m1 m2 m3 m4 m5 m6 m7 m8 m9 mb ms_4 md mp mf mi mo mw mn mk mt mq mz me x01 11 (mw (zn x01)) o' hz) (fun o' => zCut_all) ⟨hx, hb, hml, hown, hts⟩ (cwV 3 hts gX8_notesStep_X8_puts rfl rfl rfl (by decide +kernel) ⟨by decide, by decide⟩) (ci := 8) (q0 := 0) rfl (wMo_at0 cy a m0 m1 m2 m3 m4 m5 m6 m7 m8 m9 mb ms_4 md mp mf mi mo mw mn mk mt mq mz me) hK hSE hA hP hD hS rfl hl.1 rfl (Nat.le_of_ble_eq_true rfl) dX8_notesStep_60 ⟨Nat.le_refl _, Nat.le_refl _⟩ (fun o5 hF H locs hP hD hS => ?_)
    refine lv_aload_n hx hb dX8_notesStep_63 rfl (lv_at hl 0 rfl) ?_
    refine va_get (ci := 8) (C := RX8) (T := TX8) (N := 24) (fs := (zMo a m0 m1 m2 m3 m4 m5 m6 m7 m8 m9)) (v := .ref (a 2)) hx hb hts iX8 hown hK hP _ (wMo_at0 cy a m0 m1 m2 m3 m4 m5 m6 m7 m8 m9 mb o5 md mp mf mi mo mw mn mk mt mq mz me) rfl 3 (by decide) k13 (fun _ h9 => h9) rfl dX8_notesStep_64 ?_
    refine lv_iconst (v := 5) hx hb dX8_notesStep_67 (by decide) ?_
    refine z_iald (n := 114) (f := o5) hx hb hK hP _ 1 (wMo_at2 cy a m0 m1 m2 m3 m4 m5 m6 m7 m8 m9 mb o5 md mp mf mi mo mw mn mk mt mq mz me) rfl hF dX8_notesStep_68 (fun hF => ?_)
    refine lv_bipush (v := 20) hx hb dX8_notesStep_69 (by decide) ?_
    have J113 : ∀ (ms_6 : Nat → Int32) (H : Heap) (locs : List Loc) (ls : Array Slot), va_P G vwCl (wMo cy a m0 m1 m2 m3 m4 m5 m6 m7 m8 m9 mb ms_6 md mp mf mi mo mw mn mk mt mq mz me) H → va_D A (wMo cy a m0 m1 m2 m3 m4 m5 m6 m7 m8 m9 mb ms_6 md mp mf mi mo mw mn mk mt mq mz me) → va_S A s.heap H locs → lv_has ls 3 [(0, .ref (a 0)), (1, .int x01)] → j_X8_notesStep_113 mw x01 ms_6 = some o → W p l e (zR 2) s m ([.ref (a 0), .int x01] : List Value).toArray below meth c H locs 0 0 (MQ below (zQv G cy A (wMo cy a m0 m1 m2 m3 m4 m5 m6 m7 m8 m9 mb o md mp mf mi mo mw mn mk mt mq mz me)) ([.ref (a 0), .int x01] : List Value).toArray s 0 0 A) (F0 m 113 ls []) := by
      intro ms_6 H locs ls hP hD hS hl hF
      unfold j_X8_notesStep_113 at hF
      refine lv_bipush (v := 54) hx hb dX8_notesStep_113 (by decide) ?_
      refine lv_iconst (v := 3) hx hb dX8_notesStep_115 (by decide) ?_
      refine lv_aload_n hx hb dX8_notesStep_116 rfl (lv_at hl 0 rfl) ?_
      refine va_get (ci := 8) (C := RX8) (T := TX8) (N := 24) (fs := (zMo a m0 m1 m2 m3 m4 m5 m6 m7 m8 m9)) (v := .ref (a 2)) hx hb hts iX8 hown hK hP _ (wMo_at0 cy a m0 m1 m2 m3 m4 m5 m6 m7 m8 m9 mb ms_6 md mp mf mi mo mw mn mk mt mq mz me) rfl 3 (by decide) k13 (fun _ h9 => h9) rfl dX8_notesStep_117 ?_
      refine lv_iconst (v := 5) hx hb dX8_notesStep_120 (by decide) ?_
      refine z_iald (n := 114) (f := ms_6) hx hb hK hP _ 1 (wMo_at2 cy a m0 m1 m2 m3 m4 m5 m6 m7 m8 m9 mb ms_6 md mp mf mi mo mw mn mk mt mq mz me) rfl hF dX8_notesStep_121 (fun hF => ?_)
      refine lv_imul hx hb dX8_notesStep_122 ?_
      refine lv_iadd hx hb dX8_notesStep_123 ?_
      refine z_leti hF (fun x7 hF => ?_)
      refine lv_istore_n (lv' := [(2, .int x7), (0, .ref (a 0)), (1, .int x01)]) hx hb dX8_notesStep_124 rfl hl (by decide) rfl (fun ls hl => ?_)
      refine lv_aload_n hx hb dX8_notesStep_125 rfl (lv_at hl 1 rfl) ?_
      refine va_get (ci := 8) (C := RX8) (T := TX8) (N := 24) (fs := (zMo a m0 m1 m2 m3 m4 m5 m6 m7 m8 m9)) (v := .ref (a 2)) hx hb hts iX8 hown hK hP _ (wMo_at0 cy a m0 m1 m2 m3 m4 m5 m6 m7 m8 m9 mb ms_6 md mp mf mi mo mw mn mk mt mq mz me) rfl 3 (by decide) k13 (fun _ h9 => h9) rfl dX8_notesStep_126 ?_
      refine lv_iload_n hx hb dX8_notesStep_129 rfl (lv_at hl 0 rfl) ?_
      refine lv_aload_n hx hb dX8_notesStep_130 rfl (lv_at hl 1 rfl) ?_
      refine va_get (ci := 8) (C := RX8) (T := TX8) (N := 24) (fs := (zMo a m0 m1 m2 m3 m4 m5 m6 m7 m8 m9)) (v := .ref (a 2)) hx hb hts iX8 hown hK hP _ (wMo_at0 cy a m0 m1 m2 m3 m4 m5 m6 m7 m8 m9 mb ms_6 md mp mf mi mo mw mn mk mt mq mz me) rfl 3 (by decide) k13 (fun _ h9 => h9) rfl dX8_notesStep_131 ?_
      refine lv_iconst (v := 2) hx hb dX8_notesStep_134 (by decide) ?_
      refine z_iald (n := 114) (f := ms_6) hx hb hK hP _ 1 (wMo_at2 cy a m0 m1 m2 m3 m4 m5 m6 m7 m8 m9 mb ms_6 md mp mf mi mo mw mn mk mt mq mz me) rfl hF dX8_notesStep_135 (fun hF => ?_)
      refine z_iast (n := 114) (f := ms_6) (i := x7) (x := (ms_6 (zn 2))) (wf := (fun y => (wMo cy a m0 m1 m2 m3 m4 m5 m6 m7 m8 m9 mb y md mp mf mi mo mw mn mk mt mq mz me))) hx hb hK hP hD hS _ 1 (wMo_foc2 cy a m0 m1 m2 m3 m4 m5 m6 m7 m8 m9 mb ms_6 md mp mf mi mo mw mn mk mt mq mz me _) rfl hF dX8_notesStep_136 (fun ms_8 hF H locs hP hD hS => ?_)
      refine lv_aload_n hx hb dX8_notesStep_137 rfl (lv_at hl 1 rfl) ?_
      refine va_get (ci := 8) (C := RX8) (T := TX8) (N := 24) (fs := (zMo a m0 m1 m2 m3 m4 m5 m6 m7 m8 m9)) (v := .ref (a 2)) hx hb hts iX8 hown hK hP _ (wMo_at0 cy a m0 m1 m2 m3 m4 m5 m6 m7 m8 m9 mb ms_8 md mp mf mi mo mw mn mk mt mq mz me) rfl 3 (by decide) k13 (fun _ h9 => h9) rfl dX8_notesStep_138 ?_
      refine lv_iload_n hx hb dX8_notesStep_141 rfl (lv_at hl 0 rfl) ?_
      refine lv_iconst (v := 1) hx hb dX8_notesStep_142 (by decide) ?_
      refine lv_iadd hx hb dX8_notesStep_143 ?_
      refine lv_iload_n hx hb dX8_notesStep_144 rfl (lv_at hl 2 rfl) ?_
      refine z_iast (n := 114) (f := ms_8) (i := (x7 + 1)) (x := x01) (wf := (fun y => (wMo cy a m0 m1 m2 m3 m4 m5 m6 m7 m8 m9 mb y md mp mf mi mo mw mn mk mt mq mz me))) hx hb hK hP hD hS _ 1 (wMo_foc2 cy a m0 m1 m2 m3 m4 m5 m6 m7 m8 m9 mb ms_8 md mp mf mi mo mw mn mk mt mq mz me _) rfl hF dX8_notesStep_145 (fun ms_9 hF H locs hP hD hS => ?_)
      refine lv_aload_n hx hb dX8_notesStep_146 rfl (lv_at hl 1 rfl) ?_
      refine va_get (ci := 8) (C := RX8) (T := TX8) (N := 24) (fs := (zMo a m0 m1 m2 m3 m4 m5 m6 m7 m8 m9)) (v := .ref (a 2)) hx hb hts iX8 hown hK hP _ (wMo_at0 cy a m0 m1 m2 m3 m4 m5 m6 m7 m8 m9 mb ms_9 md mp mf mi mo mw mn mk mt mq mz me) rfl 3 (by decide) k13 (fun _ h9 => h9) rfl dX8_notesStep_147 ?_
      refine lv_iload_n hx hb dX8_notesStep_150 rfl (lv_at hl 0 rfl) ?_
      refine lv_iconst (v := 2) hx hb dX8_notesStep_151 (by decide) ?_
      refine lv_iadd hx hb dX8_notesStep_152 ?_
      refine lv_aload_n hx hb dX8_notesStep_153 rfl (lv_at hl 1 rfl) ?_
      refine va_get (ci := 8) (C := RX8) (T := TX8) (N := 24) (fs := (zMo a m0 m1 m2 m3 m4 m5 m6 m7 m8 m9)) (v := .ref (a 8)) hx hb hts iX8 hown hK hP _ (wMo_at0 cy a m0 m1 m2 m3 m4 m5 m6 m7 m8 m9 mb ms_9 md mp mf mi mo mw mn mk mt mq mz me) rfl 12 (by decide) k32 (fun _ h9 => h9) rfl dX8_notesStep_154 ?_
      refine lv_iload_n hx hb dX8_notesStep_157 rfl (lv_at hl 2 rfl) ?_
      refine z_iald (n := 4) (f := mw) hx hb hK hP _ 1 (wMo_at8 cy a m0 m1 m2 m3 m4 m5 m6 m7 m8 m9 mb ms_9 md mp mf mi mo mw mn mk mt mq mz me) rfl hF dX8_notesStep_158 (fun hF => ?_)
      refine z_iast (n := 114) (f := ms_9) (i := (x7 + 2)) (x := (mw (zn x01))) (wf := (fun y => (wMo cy a m0 m1 m2 m3 m4 m5 m6 m7 m8 m9 mb y md mp mf mi mo mw mn mk mt mq mz me))) hx hb hK hP hD hS _ 1 (wMo_foc2 cy a m0 m1 m2 m3 m4 m5 m6 m7 m8 m9 mb ms_9 md mp mf mi mo mw mn mk mt mq mz me _) rfl hF dX8_notesStep_159 (fun ms_10 hF H locs hP hD hS => ?_)
      refine lv_aload_n hx hb dX8_notesStep_160 rfl (lv_at hl 1 rfl) ?_
      refine va_get (ci := 8) (C := RX8) (T := TX8) (N := 24) (fs := (zMo a m0 m1 m2 m3 m4 m5 m6 m7 m8 m9)) (v := .ref (a 2)) hx hb hts iX8 hown hK hP _ (wMo_at0 cy a m0 m1 m2 m3 m4 m5 m6 m7 m8 m9 mb ms_10 md mp mf mi mo mw mn mk mt mq mz me) rfl 3 (by decide) k13 (fun _ h9 => h9) rfl dX8_notesStep_161 ?_
      refine lv_iconst (v := 5) hx hb dX8_notesStep_164 (by decide) ?_
      refine lv_dup2_11 hx hb dX8_notesStep_165 rfl rfl ?_
      refine z_iald (n := 114) (f := ms_10) hx hb hK hP _ 1 (wMo_at2 cy a m0 m1 m2 m3 m4 m5 m6 m7 m8 m9 mb ms_10 md mp mf mi mo mw mn mk mt mq mz me) rfl hF dX8_notesStep_166 (fun hF => ?_)
      refine lv_iconst (v := 1) hx hb dX8_notesStep_167 (by decide) ?_
      refine lv_iadd hx hb dX8_notesStep_168 ?_
      refine z_iast (n := 114) (f := ms_10) (i := 5) (x := ((ms_10 (zn 5)) + 1)) (wf := (fun y => (wMo cy a m0 m1 m2 m3 m4 m5 m6 m7 m8 m9 mb y md mp mf mi mo mw mn mk mt mq mz me))) hx hb hK hP hD hS _ 1 (wMo_foc2 cy a m0 m1 m2 m3 m4 m5 m6 m7 m8 m9 mb ms_10 md mp mf mi mo mw mn mk mt mq mz me _) rfl hF dX8_notesStep_169 (fun ms_11 hF H locs hP hD hS => ?_)
      refine z_vret (o := o) (o1 := ms_11) (wf := (fun o => (wMo cy a m0 m1 m2 m3 m4 m5 m6 m7 m8 m9 mb o md mp mf mi mo mw mn mk mt mq mz me))) hx hb hr hlocks hK ?_ ?_ hS ?_ dX8_notesStep_170
      · exact hP
      · exact hD
      · exact hF
    refine zi_ne (tgt := 113) hx hb hF dX8_notesStep_71 (by decide) (fun hF => ?_) (fun hF => ?_)
    · exact J113 o5 _ _ ls hP hD hS (lv_sub hl [0, 1] rfl) hF
    · refine lv_bipush (v := 54) hx hb dX8_notesStep_74 (by decide) ?_
      refine lv_istore_n (lv' := [(2, .int 54), (0, .ref (a 0)), (1, .int x01)]) hx hb dX8_notesStep_76 rfl hl (by decide) rfl (fun ls hl => ?_)
      have J103 : ∀ (ms_12 : Nat → Int32) (H : Heap) (locs : List Loc) (ls : Array Slot), va_P G vwCl (wMo cy a m0 m1 m2 m3 m4 m5 m6 m7 m8 m9 mb ms_12 md mp mf mi mo mw mn mk mt mq mz me) H → va_D A (wMo cy a m0 m1 m2 m3 m4 m5 m6 m7 m8 m9 mb ms_12 md mp mf mi mo mw mn mk mt mq mz me) → va_S A s.heap H locs → lv_has ls 3 [(0, .ref (a 0)), (1, .int x01)] → j_X8_notesStep_103 mw x01 ms_12 = some o → W p l e (zR 2) s m ([.ref (a 0), .int x01] : List Value).toArray below meth c H locs 0 0 (MQ below (zQv G cy A (wMo cy a m0 m1 m2 m3 m4 m5 m6 m7 m8 m9 mb o md mp mf mi mo mw mn mk mt mq mz me)) ([.ref (a 0), .int x01] : List Value).toArray s 0 0 A) (F0 m 103 ls []) := by
        intro ms_12 H locs ls hP hD hS hl hF
        unfold j_X8_notesStep_103 at hF
        refine lv_aload_n hx hb dX8_notesStep_103 rfl (lv_at hl 0 rfl) ?_
        refine va_get (ci := 8) (C := RX8) (T := TX8) (N := 24) (fs := (zMo a m0 m1 m2 m3 m4 m5 m6 m7 m8 m9)) (v := .ref (a 2)) hx hb hts iX8 hown hK hP _ (wMo_at0 cy a m0 m1 m2 m3 m4 m5 m6 m7 m8 m9 mb ms_12 md mp mf mi mo mw mn mk mt mq mz me) rfl 3 (by decide) k13 (fun _ h9 => h9) rfl dX8_notesStep_104 ?_
        refine lv_iconst (v := 5) hx hb dX8_notesStep_107 (by decide) ?_
        refine lv_dup2_11 hx hb dX8_notesStep_108 rfl rfl ?_
        refine z_iald (n := 114) (f := ms_12) hx hb hK hP _ 1 (wMo_at2 cy a m0 m1 m2 m3 m4 m5 m6 m7 m8 m9 mb ms_12 md mp mf mi mo mw mn mk mt mq mz me) rfl hF dX8_notesStep_109 (fun hF => ?_)
        refine lv_iconst (v := 1) hx hb dX8_notesStep_110 (by decide) ?_
        refine lv_isub hx hb dX8_notesStep_111 ?_
        refine z_iast (n := 114) (f := ms_12) (i := 5) (x := ((ms_12 (zn 5)) - 1)) (wf := (fun y => (wMo cy a m0 m1 m2 m3 m4 m5 m6 m7 m8 m9 mb y md mp mf mi mo mw mn mk mt mq mz me))) hx hb hK hP hD hS _ 1 (wMo_foc2 cy a m0 m1 m2 m3 m4 m5 m6 m7 m8 m9 mb ms_12 md mp mf mi mo mw mn mk mt mq mz me _) rfl hF dX8_notesStep_112 (fun ms_13 hF H locs hP hD hS => ?_)
        exact J113 ms_13 _ _ ls hP hD hS (lv_sub hl [0, 1] rfl) hF
      have L77 : ∀ (n : Nat) (s77 : Int32 × (Nat → Int32)) (H : Heap) (locs : List Loc) (ls : Array Slot), va_P G vwCl (wMo cy a m0 m1 m2 m3 m4 m5 m6 m7 m8 m9 mb s77.2 md mp mf mi mo mw mn mk mt mq mz me) H → va_D A (wMo cy a m0 m1 m2 m3 m4 m5 m6 m7 m8 m9 mb s77.2 md mp mf mi mo mw mn mk mt mq mz me) → va_S A s.heap H locs → lv_has ls 3 [(0, .ref (a 0)), (1, .int x01), (2, .int s77.1)] → zloop (b_X8_notesStep_77 mw x01) n s77 = some o → W p l e (zR 2) s m ([.ref (a 0), .int x01] : List Value).toArray below meth c H locs 0 0 (MQ below (zQv G cy A (wMo cy a m0 m1 m2 m3 m4 m5 m6 m7 m8 m9 mb o md mp mf mi mo mw mn mk mt mq mz me)) ([.ref (a 0), .int x01] : List Value).toArray s 0 0 A) (F0 m 77 ls []) := by
        intro n
        induction n with
        | zero => exact fun s77 H locs ls _ _ _ _ hF => (zloop_0 hF).elim
        | succ n ih77 =>
          intro s77 H locs ls hP hD hS hl hF
          have hF : b_X8_notesStep_77 mw x01 (zloop (b_X8_notesStep_77 mw x01) n) s77 = some o := hF
          generalize zloop (b_X8_notesStep_77 mw x01) n = rc77 at ih77 hF
          unfold b_X8_notesStep_77 at hF
          refine lv_iload_n hx hb dX8_notesStep_77 rfl (lv_at hl 2 rfl) ?_
          refine lv_bipush (v := 111) hx hb dX8_notesStep_78 (by decide) ?_
          refine zi_ge (tgt := 103) hx hb hF dX8_notesStep_80 (by decide) (fun hF => ?_) (fun hF => ?_)
          · exact J103 s77.2 _ _ ls hP hD hS (lv_sub hl [0, 1] rfl) hF
          · refine lv_aload_n hx hb dX8_notesStep_83 rfl (lv_at hl 0 rfl) ?_
            refine va_get (ci := 8) (C := RX8) (T := TX8) (N := 24) (fs := (zMo a m0 m1 m2 m3 m4 m5 m6 m7 m8 m9)) (v := .ref (a 2)) hx hb hts iX8 hown hK hP _ (wMo_at0 cy a m0 m1 m2 m3 m4 m5 m6 m7 m8 m9 mb s77.2 md mp mf mi mo mw mn mk mt mq mz me) rfl 3 (by decide) k13 (fun _ h9 => h9) rfl dX8_notesStep_84 ?_
            refine lv_iload_n hx hb dX8_notesStep_87 rfl (lv_at hl 2 rfl) ?_
            refine lv_aload_n hx hb dX8_notesStep_88 rfl (lv_at hl 0 rfl) ?_
            refine va_get (ci := 8) (C := RX8) (T := TX8) (N := 24) (fs := (zMo a m0 m1 m2 m3 m4 m5 m6 m7 m8 m9)) (v := .ref (a 2)) hx hb hts iX8 hown hK hP _ (wMo_at0 cy a m0 m1 m2 m3 m4 m5 m6 m7 m8 m9 mb s77.2 md mp mf mi mo mw mn mk mt mq mz me) rfl 3 (by decide) k13 (fun _ h9 => h9) rfl dX8_notesStep_89 ?_
            refine lv_iload_n hx hb dX8_notesStep_92 rfl (lv_at hl 2 rfl) ?_
            refine lv_iconst (v := 3) hx hb dX8_notesStep_93 (by decide) ?_
            refine lv_iadd hx hb dX8_notesStep_94 ?_
            refine z_iald (n := 114) (f := s77.2) hx hb hK hP _ 1 (wMo_at2 cy a m0 m1 m2 m3 m4 m5 m6 m7 m8 m9 mb s77.2 md mp mf mi mo mw mn mk mt mq mz me) rfl hF dX8_notesStep_95 (fun hF => ?_)
            refine z_iast (n := 114) (f := s77.2) (i := s77.1) (x := (s77.2 (zn (s77.1 + 3)))) (wf := (fun y => (wMo cy a m0 m1 m2 m3 m4 m5 m6 m7 m8 m9 mb y md mp mf mi mo mw mn mk mt mq mz me))) hx hb hK hP hD hS _ 1 (wMo_foc2 cy a m0 m1 m2 m3 m4 m5 m6 m7 m8 m9 mb s77.2 md mp mf mi mo mw mn mk mt mq mz me _) rfl hF dX8_notesStep_96 (fun ms_14 hF H locs hP hD hS => ?_)
            refine z_name hF (fun x15 ex15 hF => ?_)
            refine lv_iinc (v := x15) (lv' := [(2, .int x15), (0, .ref (a 0)), (1, .int x01)]) hx hb dX8_notesStep_97 hl (k := 2) rfl (by rw [ex15]; rfl) (by decide) rfl (fun ls hl => ?_)
            refine lv_goto (tgt := 77) hx hb dX8_notesStep_100 (by decide) ?_
            exact ih77 (x15, ms_14) _ _ ls hP hD hS (lv_sub hl [1, 2, 0] rfl) hF
      exact L77 1000 (54, o5) _ _ ls hP hD hS (lv_sub hl [1, 2, 0] rfl) hF
  have J47 : ∀ (H : Heap) (locs : List Loc) (ls : Array Slot), va_P G vwCl (wMo cy a m0 m1 m2 m3 m4 m5 m6 m7 m8 m9 mb ms_1 md mp mf mi mo mw mn mk mt mq mz me) H → va_D A (wMo cy a m0 m1 m2 m3 m4 m5 m6 m7 m8 m9 mb ms_1 md mp mf mi mo mw mn mk mt mq mz me) → va_S A s.heap H locs → lv_has ls 3 [(0, .ref (a 0)), (1, .int x01)] → j_X8_notesStep_47 mw x01 ms_1 = some o → W p l e (zR 2) s m ([.ref (a 0), .int x01] : List Value).toArray below meth c H locs 0 0 (MQ below (zQv G cy A (wMo cy a m0 m1 m2 m3 m4 m5 m6 m7 m8 m9 mb o md mp mf mi mo mw mn mk mt mq mz me)) ([.ref (a 0), .int x01] : List Value).toArray s 0 0 A) (F0 m 47 ls [.int (ms_1 (zn 4)), .int 4, .ref (a 2)]) := by
    intro H locs ls hP hD hS hl hF
    unfold j_X8_notesStep_47 at hF
    refine lv_iconst (v := 0) hx hb dX8_notesStep_47 (by decide) ?_
    exact J48 0 _ _ ls hP hD hS (lv_sub hl [0, 1] rfl) hF
  refine zf_le (tgt := 47) hx hb hF dX8_notesStep_24 (by decide) (fun hF => ?_) (fun hF => ?_)
  · exact J47 _ _ ls hP hD hS (lv_sub hl [0, 1] rfl) hF
  · refine lv_aload_n hx hb dX8_notesStep_27 rfl (lv_at hl 0 rfl) ?_
    refine lv_iload_n hx hb dX8_notesStep_28 rfl (lv_at hl 1 rfl) ?_
    refine lv_bipush (v := 11) hx hb dX8_notesStep_29 (by decide) ?_
    refine z_cVi (b := a 0) (As := [.int x01, .int 11]) (rest := [.int (ms_1 (zn 4)), .int 4, .ref (a 2)]) (wc := (wMo cy a m0 m1 m2 m3 m4 m5 m6 m7 m8 m9 mb ms_1 md mp mf mi mo mw mn mk mt mq mz me)) (wcf := fun o' => (wMo cy a m0 m1 m2 m3 m4 m5 m6 m7 m8 m9 mb ms_1 md mp mf mi mo mw mn mk mt mq mz me)) (wf := fun o' => (wMo cy a m0 m1 m2 m3 m4 m5 m6 m7 m8 m9 mb ms_1 md mp mf mi mo mw mn mk mt mq mz me)) (rf := fun o' => o') hF (fun o' hz => c_X8_of l G cy st a m0 m1 m2 m3 m4 m5 m6 m7 m8 m9 mb ms_1 md mp mf mi mo mw mn mk mt mq mz me x01 11 o' hz) (fun o' => zCut_all) ⟨hx, hb, hml, hown, hts⟩ (cwV 2 hts gX8_notesStep_X8_of rfl rfl rfl (by decide +kernel) ⟨by decide, by decide⟩) (ci := 8) (q0 := 0) rfl (wMo_at0 cy a m0 m1 m2 m3 m4 m5 m6 m7 m8 m9 mb ms_1 md mp mf mi mo mw mn mk mt mq mz me) hK hSE hA hP hD hS rfl hl.1 rfl (Nat.le_of_ble_eq_true rfl) dX8_notesStep_31 ⟨Nat.le_refl _, Nat.le_refl _⟩ (fun o16 hF H locs hP hD hS => ?_)
    refine lv_aload_n hx hb dX8_notesStep_34 rfl (lv_at hl 0 rfl) ?_
    refine va_get (ci := 8) (C := RX8) (T := TX8) (N := 24) (fs := (zMo a m0 m1 m2 m3 m4 m5 m6 m7 m8 m9)) (v := .ref (a 8)) hx hb hts iX8 hown hK hP _ (wMo_at0 cy a m0 m1 m2 m3 m4 m5 m6 m7 m8 m9 mb ms_1 md mp mf mi mo mw mn mk mt mq mz me) rfl 12 (by decide) k32 (fun _ h9 => h9) rfl dX8_notesStep_35 ?_
    refine lv_iload_n hx hb dX8_notesStep_38 rfl (lv_at hl 1 rfl) ?_
    refine z_iald (n := 4) (f := mw) hx hb hK hP _ 1 (wMo_at8 cy a m0 m1 m2 m3 m4 m5 m6 m7 m8 m9 mb ms_1 md mp mf mi mo mw mn mk mt mq mz me) rfl hF dX8_notesStep_39 (fun hF => ?_)
    refine zi_eq (tgt := 47) hx hb hF dX8_notesStep_40 (by decide) (fun hF => ?_) (fun hF => ?_)
    · exact J47 _ _ ls hP hD hS (lv_sub hl [0, 1] rfl) hF
    · refine lv_iconst (v := 1) hx hb dX8_notesStep_43 (by decide) ?_
      refine lv_goto (tgt := 48) hx hb dX8_notesStep_44 (by decide) ?_
      exact J48 1 _ _ ls hP hD hS (lv_sub hl [0, 1] rfl) hF
def j_X8_ticks_93 (mf_2 : Nat → Int32) (mi_3 : Nat → Int32) (mo_4 : Nat → Int32) (mw_5 : Nat → Int32) (mn_6 : Nat → Int32) (o8 : (Nat → Int32)) (ms_9 : Nat → Int32) : Option ((Nat → Int32) × (Nat → Int32) × (Nat → Int32) × (Nat → Int32) × (Nat → Int32) × (Nat → Int32) × (Nat → Int32)) :=
zg (zin 2 114) (
zg (zin 2 114) (
zlet (upd ms_9 (zn 2) ((ms_9 (zn 2)) + 1)) fun ms_10 =>
some (ms_10, mf_2, mi_3, mo_4, mw_5, mn_6, o8)))
def j_X8_ticks_87 (rc14 : (Int32 × (Nat → Int32)) → Option ((Nat → Int32) × (Nat → Int32) × (Nat → Int32) × (Nat → Int32) × (Nat → Int32) × (Nat → Int32) × (Nat → Int32))) (s14 : Int32 × (Nat → Int32)) (ms_11 : Nat → Int32) : Option ((Nat → Int32) × (Nat → Int32) × (Nat → Int32) × (Nat → Int32) × (Nat → Int32) × (Nat → Int32) × (Nat → Int32)) :=
zlet (s14.1 + 1) fun x12 =>
rc14 (x12, ms_11)
def j_X8_ticks_71 (rc14 : (Int32 × (Nat → Int32)) → Option ((Nat → Int32) × (Nat → Int32) × (Nat → Int32) × (Nat → Int32) × (Nat → Int32) × (Nat → Int32) × (Nat → Int32))) (s14 : Int32 × (Nat → Int32)) (ms_13 : Nat → Int32) : Option ((Nat → Int32) × (Nat → Int32) × (Nat → Int32) × (Nat → Int32) × (Nat → Int32) × (Nat → Int32) × (Nat → Int32)) :=
zbd (f_X8_puts ms_13 s14.1 9 0) fun o14 =>
zbd (f_X8_puts o14 s14.1 10 0) fun o15 =>
j_X8_ticks_87 rc14 s14 o15
def b_X8_ticks_14 (mf_2 : Nat → Int32) (mi_3 : Nat → Int32) (mo_4 : Nat → Int32) (mw_5 : Nat → Int32) (mn_6 : Nat → Int32) (o8 : (Nat → Int32)) (rc14 : (Int32 × (Nat → Int32)) → Option ((Nat → Int32) × (Nat → Int32) × (Nat → Int32) × (Nat → Int32) × (Nat → Int32) × (Nat → Int32) × (Nat → Int32))) (s14 : Int32 × (Nat → Int32)) : Option ((Nat → Int32) × (Nat → Int32) × (Nat → Int32) × (Nat → Int32) × (Nat → Int32) × (Nat → Int32) × (Nat → Int32)) :=
zg (zin 0 114) (
if (s14.2 (zn 0)) ≤ s14.1 then (
j_X8_ticks_93 mf_2 mi_3 mo_4 mw_5 mn_6 o8 s14.2) else (
zg (zin s14.1 4) (
if (o8 (zn s14.1)) = 0 then (
j_X8_ticks_87 rc14 s14 s14.2) else (
zg (zin s14.1 4) (
if (mn_6 (zn s14.1)) = 0 then (
j_X8_ticks_71 rc14 s14 s14.2) else (
zbd (f_X8_of s14.2 s14.1 7) fun o16 =>
zg (zin s14.1 4) (
zbd (f_X8_way (mw_5 (zn s14.1))) fun o17 =>
zbd (f_X8_puts s14.2 s14.1 7 (o16 + o17)) fun o18 =>
zbd (f_X8_notesStep o18 mw_5 s14.1) fun o19 =>
j_X8_ticks_71 rc14 s14 o19)))))))
def f_X8_ticks (ms : Nat → Int32) (mf : Nat → Int32) (mi : Nat → Int32) (mo : Nat → Int32) (mw : Nat → Int32) (mn : Nat → Int32) (mk : Nat → Int32) : Option ((Nat → Int32) × (Nat → Int32) × (Nat → Int32) × (Nat → Int32) × (Nat → Int32) × (Nat → Int32) × (Nat → Int32)) :=
zbd (f_X8_lays ms mf mi mo mw mn) fun o1 =>
zlet (o1.1) fun mf_2 =>
zlet (o1.2.1) fun mi_3 =>
zlet (o1.2.2.1) fun mo_4 =>
zlet (o1.2.2.2.1) fun mw_5 =>
zlet (o1.2.2.2.2) fun mn_6 =>
zbd (f_X8_counts ms mw_5 mk) fun o7 =>
zbd (f_X8_passesOn o7.1 mw_5 mn_6 o7.2) fun o8 =>
zloop (b_X8_ticks_14 mf_2 mi_3 mo_4 mw_5 mn_6 o8) 1000 (0, o7.1)
set_option maxHeartbeats 4000000 in
set_option maxRecDepth 100000 in
theorem c_X8_ticks (l : Launch) (G : va_G) (cy : Nat → ClassId) (st : Nat → Nat) (a : Nat → Nat) (m0 : Int32) (m1 : Int32) (m2 : Int32) (m3 : Int32) (m4 : Int32) (m5 : Int32) (m6 : Int32) (m7 : Int32) (m8 : Int32) (m9 : Int32) (mb : Nat → Int32) (ms : Nat → Int32) (md : Nat → Int32) (mp : Nat → Int32) (mf : Nat → Int32) (mi : Nat → Int32) (mo : Nat → Int32) (mw : Nat → Int32) (mn : Nat → Int32) (mk : Nat → Int32) (mt : Nat → Int64) (mq : Nat → Int32) (mz : Nat → Int32) (me : Nat → Int32) (o : (Nat → Int32) × (Nat → Int32) × (Nat → Int32) × (Nat → Int32) × (Nat → Int32) × (Nat → Int32) × (Nat → Int32)) (hF : f_X8_ticks ms mf mi mo mw mn mk = some o) : zMv l yX8_ticks wsX8_ticks (zR 4) G cy st [.ref (a 0)] (wMo cy a m0 m1 m2 m3 m4 m5 m6 m7 m8 m9 mb ms md mp mf mi mo mw mn mk mt mq mz me) (wMo cy a m0 m1 m2 m3 m4 m5 m6 m7 m8 m9 mb o.1 md mp o.2.1 o.2.2.1 o.2.2.2.1 o.2.2.2.2.1 o.2.2.2.2.2.1 o.2.2.2.2.2.2 mt mq mz me) := by
  refine zM_of (cc := cX8_ticks) (maxL := 2) (ret := none) (Qc := fun A => zQv G cy A (wMo cy a m0 m1 m2 m3 m4 m5 m6 m7 m8 m9 mb o.1 md mp o.2.1 o.2.2.1 o.2.2.2.1 o.2.2.2.2.1 o.2.2.2.2.2.1 o.2.2.2.2.2.2 mt mq mz me)) (by decide) rfl (Nat.le_of_ble_eq_true rfl) ?_
  intro p e s m below meth c A ls hx hb hml hr hlocks hown hts hK hSE hA hP hD hS hl
  have hown : s.vm.findClass RX8 = some m.cls := hown
  have hl : lv_has ls 2 [(0, .ref (a 0))] := hl
  have k13 := hts (.fieldLink RX8 13 "TapCascadeModel" "s" "[I") (by decide +kernel)
  have iX8 : ∀ w ∈ wsX80, w ∈ wsX8_ticks := fun w h => List.mem_cons_of_mem _ (List.mem_append_right _ h)
  have k39 := hts (.fieldLink RX8 39 "TapCascadeModel" "called" "[Z") (by decide +kernel)
  have k35 := hts (.fieldLink RX8 35 "TapCascadeModel" "can" "[Z") (by decide +kernel)
  have k32 := hts (.fieldLink RX8 32 "TapCascadeModel" "want" "[I") (by decide +kernel)
  unfold f_X8_ticks at hF
  refine lv_aload_n hx hb dX8_ticks_0 rfl (lv_at hl 0 rfl) ?_
  refine z_cVv (b := a 0) (As := []) (rest := []) (wc := (wMo cy a m0 m1 m2 m3 m4 m5 m6 m7 m8 m9 mb ms md mp mf mi mo mw mn mk mt mq mz me)) (wcf := fun o' => (wMo cy a m0 m1 m2 m3 m4 m5 m6 m7 m8 m9 mb ms md mp o'.1 o'.2.1 o'.2.2.1 o'.2.2.2.1 o'.2.2.2.2 mk mt mq mz me)) (wf := fun o' => (wMo cy a m0 m1 m2 m3 m4 m5 m6 m7 m8 m9 mb ms md mp o'.1 o'.2.1 o'.2.2.1 o'.2.2.2.1 o'.2.2.2.2 mk mt mq mz me)) hF (fun o' hz => c_X8_lays l G cy st a m0 m1 m2 m3 m4 m5 m6 m7 m8 m9 mb ms md mp mf mi mo mw mn mk mt mq mz me o' hz) (fun o' => zCut_all) ⟨hx, hb, hml, hown, hts⟩ (cwV 0 hts gX8_ticks_X8_lays rfl rfl rfl (by decide +kernel) ⟨by decide, by decide⟩) (ci := 8) (q0 := 0) rfl (wMo_at0 cy a m0 m1 m2 m3 m4 m5 m6 m7 m8 m9 mb ms md mp mf mi mo mw mn mk mt mq mz me) hK hSE hA hP hD hS rfl hl.1 rfl (Nat.le_of_ble_eq_true rfl) dX8_ticks_1 ⟨Nat.le_refl _, Nat.le_refl _⟩ (fun o1 hF H locs hP hD hS => ?_)
  refine z_nameW (wf := (fun y => (wMo cy a m0 m1 m2 m3 m4 m5 m6 m7 m8 m9 mb ms md mp y o1.2.1 o1.2.2.1 o1.2.2.2.1 o1.2.2.2.2 mk mt mq mz me))) hF hP hD (fun mf_2 hF hP hD => ?_)
  refine z_nameW (wf := (fun y => (wMo cy a m0 m1 m2 m3 m4 m5 m6 m7 m8 m9 mb ms md mp mf_2 y o1.2.2.1 o1.2.2.2.1 o1.2.2.2.2 mk mt mq mz me))) hF hP hD (fun mi_3 hF hP hD => ?_)
  refine z_nameW (wf := (fun y => (wMo cy a m0 m1 m2 m3 m4 m5 m6 m7 m8 m9 mb ms md mp mf_2 mi_3 y o1.2.2.2.1 o1.2.2.2.2 mk mt mq mz me))) hF hP hD (fun mo_4 hF hP hD => ?_)
  refine z_nameW (wf := (fun y => (wMo cy a m0 m1 m2 m3 m4 m5 m6 m7 m8 m9 mb ms md mp mf_2 mi_3 mo_4 y o1.2.2.2.2 mk mt mq mz me))) hF hP hD (fun mw_5 hF hP hD => ?_)
  refine z_nameW (wf := (fun y => (wMo cy a m0 m1 m2 m3 m4 m5 m6 m7 m8 m9 mb ms md mp mf_2 mi_3 mo_4 mw_5 y mk mt mq mz me))) hF hP hD (fun mn_6 hF hP hD => ?_)
  refine lv_aload_n hx hb dX8_ticks_4 rfl (lv_at hl 0 rfl) ?_
  refine z_cVv (b := a 0) (As := []) (rest := []) (wc := (wMo cy a m0 m1 m2 m3 m4 m5 m6 m7 m8 m9 mb ms md mp mf_2 mi_3 mo_4 mw_5 mn_6 mk mt mq mz me)) (wcf := fun o' => (wMo cy a m0 m1 m2 m3 m4 m5 m6 m7 m8 m9 mb o'.1 md mp mf_2 mi_3 mo_4 mw_5 mn_6 o'.2 mt mq mz me)) (wf := fun o' => (wMo cy a m0 m1 m2 m3 m4 m5 m6 m7 m8 m9 mb o'.1 md mp mf_2 mi_3 mo_4 mw_5 mn_6 o'.2 mt mq mz me)) hF (fun o' hz => c_X8_counts l G cy st a m0 m1 m2 m3 m4 m5 m6 m7 m8 m9 mb ms md mp mf_2 mi_3 mo_4 mw_5 mn_6 mk mt mq mz me o' hz) (fun o' => zCut_all) ⟨hx, hb, hml, hown, hts⟩ (cwV 0 hts gX8_ticks_X8_counts rfl rfl rfl (by decide +kernel) ⟨by decide, by decide⟩) (ci := 8) (q0 := 0) rfl (wMo_at0 cy a m0 m1 m2 m3 m4 m5 m6 m7 m8 m9 mb ms md mp mf_2 mi_3 mo_4 mw_5 mn_6 mk mt mq mz me) hK hSE hA hP hD hS rfl hl.1 rfl (Nat.le_of_ble_eq_true rfl) dX8_ticks_5 ⟨Nat.le_refl _, Nat.le_refl _⟩ (fun o7 hF H locs hP hD hS => ?_)
  refine lv_aload_n hx hb dX8_ticks_8 rfl (lv_at hl 0 rfl) ?_
  refine z_cVv (b := a 0) (As := []) (rest := []) (wc := (wMo cy a m0 m1 m2 m3 m4 m5 m6 m7 m8 m9 mb o7.1 md mp mf_2 mi_3 mo_4 mw_5 mn_6 o7.2 mt mq mz me)) (wcf := fun o' => (wMo cy a m0 m1 m2 m3 m4 m5 m6 m7 m8 m9 mb o7.1 md mp mf_2 mi_3 mo_4 mw_5 mn_6 o' mt mq mz me)) (wf := fun o' => (wMo cy a m0 m1 m2 m3 m4 m5 m6 m7 m8 m9 mb o7.1 md mp mf_2 mi_3 mo_4 mw_5 mn_6 o' mt mq mz me)) hF (fun o' hz => c_X8_passesOn l G cy st a m0 m1 m2 m3 m4 m5 m6 m7 m8 m9 mb o7.1 md mp mf_2 mi_3 mo_4 mw_5 mn_6 o7.2 mt mq mz me o' hz) (fun o' => zCut_all) ⟨hx, hb, hml, hown, hts⟩ (cwV 0 hts gX8_ticks_X8_passesOn rfl rfl rfl (by decide +kernel) ⟨by decide, by decide⟩) (ci := 8) (q0 := 0) rfl (wMo_at0 cy a m0 m1 m2 m3 m4 m5 m6 m7 m8 m9 mb o7.1 md mp mf_2 mi_3 mo_4 mw_5 mn_6 o7.2 mt mq mz me) hK hSE hA hP hD hS rfl hl.1 rfl (Nat.le_of_ble_eq_true rfl) dX8_ticks_9 ⟨Nat.le_refl _, Nat.le_refl _⟩ (fun o8 hF H locs hP hD hS => ?_)
  refine lv_iconst (v := 0) hx hb dX8_ticks_12 (by decide) ?_
  refine lv_istore_n (lv' := [(1, .int 0), (0, .ref (a 0))]) hx hb dX8_ticks_13 rfl hl (by decide) rfl (fun ls hl => ?_)
  have J93 : ∀ (ms_9 : Nat → Int32) (H : Heap) (locs : List Loc) (ls : Array Slot), va_P G vwCl (wMo cy a m0 m1 m2 m3 m4 m5 m6 m7 m8 m9 mb ms_9 md mp mf_2 mi_3 mo_4 mw_5 mn_6 o8 mt mq mz me) H → va_D A (wMo cy a m0 m1 m2 m3 m4 m5 m6 m7 m8 m9 mb ms_9 md mp mf_2 mi_3 mo_4 mw_5 mn_6 o8 mt mq mz me) → va_S A s.heap H locs → lv_has ls 2 [(0, .ref (a 0))] → j_X8_ticks_93 mf_2 mi_3 mo_4 mw_5 mn_6 o8 ms_9 = some o → W p l e (zR 4) s m ([.ref (a 0)] : List Value).toArray below meth c H locs 0 0 (MQ below (zQv G cy A (wMo cy a m0 m1 m2 m3 m4 m5 m6 m7 m8 m9 mb o.1 md mp o.2.1 o.2.2.1 o.2.2.2.1 o.2.2.2.2.1 o.2.2.2.2.2.1 o.2.2.2.2.2.2 mt mq mz me)) ([.ref (a 0)] : List Value).toArray s 0 0 A) (F0 m 93 ls []) := by
    intro ms_9 H locs ls hP hD hS hl hF
    unfold j_X8_ticks_93 at hF
    refine lv_aload_n hx hb dX8_ticks_93 rfl (lv_at hl 0 rfl) ?_
    refine va_get (ci := 8) (C := RX8) (T := TX8) (N := 24) (fs := (zMo a m0 m1 m2 m3 m4 m5 m6 m7 m8 m9)) (v := .ref (a 2)) hx hb hts iX8 hown hK hP _ (wMo_at0 cy a m0 m1 m2 m3 m4 m5 m6 m7 m8 m9 mb ms_9 md mp mf_2 mi_3 mo_4 mw_5 mn_6 o8 mt mq mz me) rfl 3 (by decide) k13 (fun _ h9 => h9) rfl dX8_ticks_94 ?_
    refine lv_iconst (v := 2) hx hb dX8_ticks_97 (by decide) ?_
    refine lv_dup2_11 hx hb dX8_ticks_98 rfl rfl ?_
    refine z_iald (n := 114) (f := ms_9) hx hb hK hP _ 1 (wMo_at2 cy a m0 m1 m2 m3 m4 m5 m6 m7 m8 m9 mb ms_9 md mp mf_2 mi_3 mo_4 mw_5 mn_6 o8 mt mq mz me) rfl hF dX8_ticks_99 (fun hF => ?_)
    refine lv_iconst (v := 1) hx hb dX8_ticks_100 (by decide) ?_
    refine lv_iadd hx hb dX8_ticks_101 ?_
    refine z_iast (n := 114) (f := ms_9) (i := 2) (x := ((ms_9 (zn 2)) + 1)) (wf := (fun y => (wMo cy a m0 m1 m2 m3 m4 m5 m6 m7 m8 m9 mb y md mp mf_2 mi_3 mo_4 mw_5 mn_6 o8 mt mq mz me))) hx hb hK hP hD hS _ 1 (wMo_foc2 cy a m0 m1 m2 m3 m4 m5 m6 m7 m8 m9 mb ms_9 md mp mf_2 mi_3 mo_4 mw_5 mn_6 o8 mt mq mz me _) rfl hF dX8_ticks_102 (fun ms_10 hF H locs hP hD hS => ?_)
    refine z_vret (o := o) (o1 := (ms_10, mf_2, mi_3, mo_4, mw_5, mn_6, o8)) (wf := (fun o => (wMo cy a m0 m1 m2 m3 m4 m5 m6 m7 m8 m9 mb o.1 md mp o.2.1 o.2.2.1 o.2.2.2.1 o.2.2.2.2.1 o.2.2.2.2.2.1 o.2.2.2.2.2.2 mt mq mz me))) hx hb hr hlocks hK ?_ ?_ hS ?_ dX8_ticks_103
    · exact hP
    · exact hD
    · exact hF
  have L14 : ∀ (n : Nat) (s14 : Int32 × (Nat → Int32)) (H : Heap) (locs : List Loc) (ls : Array Slot), va_P G vwCl (wMo cy a m0 m1 m2 m3 m4 m5 m6 m7 m8 m9 mb s14.2 md mp mf_2 mi_3 mo_4 mw_5 mn_6 o8 mt mq mz me) H → va_D A (wMo cy a m0 m1 m2 m3 m4 m5 m6 m7 m8 m9 mb s14.2 md mp mf_2 mi_3 mo_4 mw_5 mn_6 o8 mt mq mz me) → va_S A s.heap H locs → lv_has ls 2 [(0, .ref (a 0)), (1, .int s14.1)] → zloop (b_X8_ticks_14 mf_2 mi_3 mo_4 mw_5 mn_6 o8) n s14 = some o → W p l e (zR 4) s m ([.ref (a 0)] : List Value).toArray below meth c H locs 0 0 (MQ below (zQv G cy A (wMo cy a m0 m1 m2 m3 m4 m5 m6 m7 m8 m9 mb o.1 md mp o.2.1 o.2.2.1 o.2.2.2.1 o.2.2.2.2.1 o.2.2.2.2.2.1 o.2.2.2.2.2.2 mt mq mz me)) ([.ref (a 0)] : List Value).toArray s 0 0 A) (F0 m 14 ls []) := by
    intro n
    induction n with
    | zero => exact fun s14 H locs ls _ _ _ _ hF => (zloop_0 hF).elim
    | succ n ih14 =>
      intro s14 H locs ls hP hD hS hl hF
      have hF : b_X8_ticks_14 mf_2 mi_3 mo_4 mw_5 mn_6 o8 (zloop (b_X8_ticks_14 mf_2 mi_3 mo_4 mw_5 mn_6 o8) n) s14 = some o := hF
      generalize zloop (b_X8_ticks_14 mf_2 mi_3 mo_4 mw_5 mn_6 o8) n = rc14 at ih14 hF
      unfold b_X8_ticks_14 at hF
      refine lv_iload_n hx hb dX8_ticks_14 rfl (lv_at hl 1 rfl) ?_
      refine lv_aload_n hx hb dX8_ticks_15 rfl (lv_at hl 0 rfl) ?_
      refine va_get (ci := 8) (C := RX8) (T := TX8) (N := 24) (fs := (zMo a m0 m1 m2 m3 m4 m5 m6 m7 m8 m9)) (v := .ref (a 2)) hx hb hts iX8 hown hK hP _ (wMo_at0 cy a m0 m1 m2 m3 m4 m5 m6 m7 m8 m9 mb s14.2 md mp mf_2 mi_3 mo_4 mw_5 mn_6 o8 mt mq mz me) rfl 3 (by decide) k13 (fun _ h9 => h9) rfl dX8_ticks_16 ?_
      refine lv_iconst (v := 0) hx hb dX8_ticks_19 (by decide) ?_
      refine z_iald (n := 114) (f := s14.2) hx hb hK hP _ 1 (wMo_at2 cy a m0 m1 m2 m3 m4 m5 m6 m7 m8 m9 mb s14.2 md mp mf_2 mi_3 mo_4 mw_5 mn_6 o8 mt mq mz me) rfl hF dX8_ticks_20 (fun hF => ?_)
      refine zi_ge (tgt := 93) hx hb hF dX8_ticks_21 (by decide) (fun hF => ?_) (fun hF => ?_)
      · exact J93 s14.2 _ _ ls hP hD hS (lv_sub hl [0] rfl) hF
      · refine lv_aload_n hx hb dX8_ticks_24 rfl (lv_at hl 0 rfl) ?_
        refine va_get (ci := 8) (C := RX8) (T := TX8) (N := 24) (fs := (zMo a m0 m1 m2 m3 m4 m5 m6 m7 m8 m9)) (v := .ref (a 10)) hx hb hts iX8 hown hK hP _ (wMo_at0 cy a m0 m1 m2 m3 m4 m5 m6 m7 m8 m9 mb s14.2 md mp mf_2 mi_3 mo_4 mw_5 mn_6 o8 mt mq mz me) rfl 14 (by decide) k39 (fun _ h9 => h9) rfl dX8_ticks_25 ?_
        refine lv_iload_n hx hb dX8_ticks_28 rfl (lv_at hl 1 rfl) ?_
        refine z_zald (n := 4) (f := o8) hx hb hK hP _ 3 (wMo_at10 cy a m0 m1 m2 m3 m4 m5 m6 m7 m8 m9 mb s14.2 md mp mf_2 mi_3 mo_4 mw_5 mn_6 o8 mt mq mz me) rfl hF dX8_ticks_29 (fun hF => ?_)
        have J87 : ∀ (ms_11 : Nat → Int32) (H : Heap) (locs : List Loc) (ls : Array Slot), va_P G vwCl (wMo cy a m0 m1 m2 m3 m4 m5 m6 m7 m8 m9 mb ms_11 md mp mf_2 mi_3 mo_4 mw_5 mn_6 o8 mt mq mz me) H → va_D A (wMo cy a m0 m1 m2 m3 m4 m5 m6 m7 m8 m9 mb ms_11 md mp mf_2 mi_3 mo_4 mw_5 mn_6 o8 mt mq mz me) → va_S A s.heap H locs → lv_has ls 2 [(0, .ref (a 0)), (1, .int s14.1)] → j_X8_ticks_87 rc14 s14 ms_11 = some o → W p l e (zR 4) s m ([.ref (a 0)] : List Value).toArray below meth c H locs 0 0 (MQ below (zQv G cy A (wMo cy a m0 m1 m2 m3 m4 m5 m6 m7 m8 m9 mb o.1 md mp o.2.1 o.2.2.1 o.2.2.2.1 o.2.2.2.2.1 o.2.2.2.2.2.1 o.2.2.2.2.2.2 mt mq mz me)) ([.ref (a 0)] : List Value).toArray s 0 0 A) (F0 m 87 ls []) := by
          intro ms_11 H locs ls hP hD hS hl hF
          unfold j_X8_ticks_87 at hF
          refine z_name hF (fun x12 ex12 hF => ?_)
          refine lv_iinc (v := x12) (lv' := [(1, .int x12), (0, .ref (a 0))]) hx hb dX8_ticks_87 hl (k := 1) rfl (by rw [ex12]; rfl) (by decide) rfl (fun ls hl => ?_)
          refine lv_goto (tgt := 14) hx hb dX8_ticks_90 (by decide) ?_
          exact ih14 (x12, ms_11) _ _ ls hP hD hS (lv_sub hl [1, 0] rfl) hF
        refine zf_eq (tgt := 87) hx hb hF dX8_ticks_30 (by decide) (fun hF => ?_) (fun hF => ?_)
        · exact J87 s14.2 _ _ ls hP hD hS (lv_sub hl [0, 1] rfl) hF
        · refine lv_aload_n hx hb dX8_ticks_33 rfl (lv_at hl 0 rfl) ?_
          refine va_get (ci := 8) (C := RX8) (T := TX8) (N := 24) (fs := (zMo a m0 m1 m2 m3 m4 m5 m6 m7 m8 m9)) (v := .ref (a 9)) hx hb hts iX8 hown hK hP _ (wMo_at0 cy a m0 m1 m2 m3 m4 m5 m6 m7 m8 m9 mb s14.2 md mp mf_2 mi_3 mo_4 mw_5 mn_6 o8 mt mq mz me) rfl 13 (by decide) k35 (fun _ h9 => h9) rfl dX8_ticks_34 ?_
          refine lv_iload_n hx hb dX8_ticks_37 rfl (lv_at hl 1 rfl) ?_
          refine z_zald (n := 4) (f := mn_6) hx hb hK hP _ 3 (wMo_at9 cy a m0 m1 m2 m3 m4 m5 m6 m7 m8 m9 mb s14.2 md mp mf_2 mi_3 mo_4 mw_5 mn_6 o8 mt mq mz me) rfl hF dX8_ticks_38 (fun hF => ?_)
          have J71 : ∀ (ms_13 : Nat → Int32) (H : Heap) (locs : List Loc) (ls : Array Slot), va_P G vwCl (wMo cy a m0 m1 m2 m3 m4 m5 m6 m7 m8 m9 mb ms_13 md mp mf_2 mi_3 mo_4 mw_5 mn_6 o8 mt mq mz me) H → va_D A (wMo cy a m0 m1 m2 m3 m4 m5 m6 m7 m8 m9 mb ms_13 md mp mf_2 mi_3 mo_4 mw_5 mn_6 o8 mt mq mz me) → va_S A s.heap H locs → lv_has ls 2 [(0, .ref (a 0)), (1, .int s14.1)] → j_X8_ticks_71 rc14 s14 ms_13 = some o → W p l e (zR 4) s m ([.ref (a 0)] : List Value).toArray below meth c H locs 0 0 (MQ below (zQv G cy A (wMo cy a m0 m1 m2 m3 m4 m5 m6 m7 m8 m9 mb o.1 md mp o.2.1 o.2.2.1 o.2.2.2.1 o.2.2.2.2.1 o.2.2.2.2.2.1 o.2.2.2.2.2.2 mt mq mz me)) ([.ref (a 0)] : List Value).toArray s 0 0 A) (F0 m 71 ls []) := by
            intro ms_13 H locs ls hP hD hS hl hF
            unfold j_X8_ticks_71 at hF
            refine lv_aload_n hx hb dX8_ticks_71 rfl (lv_at hl 0 rfl) ?_
            refine lv_iload_n hx hb dX8_ticks_72 rfl (lv_at hl 1 rfl) ?_
            refine lv_bipush (v := 9) hx hb dX8_ticks_73 (by decide) ?_
            refine lv_iconst (v := 0) hx hb dX8_ticks_75 (by decide) ?_
            refine z_cVv (b := a 0) (As := [.int s14.1, .int 9, .int 0]) (rest := []) (wc := (wMo cy a m0 m1 m2 m3 m4 m5 m6 m7 m8 m9 mb ms_13 md mp mf_2 mi_3 mo_4 mw_5 mn_6 o8 mt mq mz me)) (wcf := fun o' => (wMo cy a m0 m1 m2 m3 m4 m5 m6 m7 m8 m9 mb o' md mp mf_2 mi_3 mo_4 mw_5 mn_6 o8 mt mq mz me)) (wf := fun o' => (wMo cy a m0 m1 m2 m3 m4 m5 m6 m7 m8 m9 mb o' md mp mf_2 mi_3 mo_4 mw_5 mn_6 o8 mt mq mz me)) hF (fun o' hz => c_X8_puts l G cy st a m0 m1 m2 m3 m4 m5 m6 m7 m8 m9 mb ms_13 md mp mf_2 mi_3 mo_4 mw_5 mn_6 o8 mt mq mz me s14.1 9 0 o' hz) (fun o' => zCut_all) ⟨hx, hb, hml, hown, hts⟩ (cwV 3 hts gX8_ticks_X8_puts rfl rfl rfl (by decide +kernel) ⟨by decide, by decide⟩) (ci := 8) (q0 := 0) rfl (wMo_at0 cy a m0 m1 m2 m3 m4 m5 m6 m7 m8 m9 mb ms_13 md mp mf_2 mi_3 mo_4 mw_5 mn_6 o8 mt mq mz me) hK hSE hA hP hD hS rfl hl.1 rfl (Nat.le_of_ble_eq_true rfl) dX8_ticks_76 ⟨Nat.le_refl _, Nat.le_refl _⟩ (fun o14 hF H locs hP hD hS => ?_)
            refine lv_aload_n hx hb dX8_ticks_79 rfl (lv_at hl 0 rfl) ?_
            refine lv_iload_n hx hb dX8_ticks_80 rfl (lv_at hl 1 rfl) ?_
            refine lv_bipush (v := 10) hx hb dX8_ticks_81 (by decide) ?_
            refine lv_iconst (v := 0) hx hb dX8_ticks_83 (by decide) ?_
            refine z_cVv (b := a 0) (As := [.int s14.1, .int 10, .int 0]) (rest := []) (wc := (wMo cy a m0 m1 m2 m3 m4 m5 m6 m7 m8 m9 mb o14 md mp mf_2 mi_3 mo_4 mw_5 mn_6 o8 mt mq mz me)) (wcf := fun o' => (wMo cy a m0 m1 m2 m3 m4 m5 m6 m7 m8 m9 mb o' md mp mf_2 mi_3 mo_4 mw_5 mn_6 o8 mt mq mz me)) (wf := fun o' => (wMo cy a m0 m1 m2 m3 m4 m5 m6 m7 m8 m9 mb o' md mp mf_2 mi_3 mo_4 mw_5 mn_6 o8 mt mq mz me)) hF (fun o' hz => c_X8_puts l G cy st a m0 m1 m2 m3 m4 m5 m6 m7 m8 m9 mb o14 md mp mf_2 mi_3 mo_4 mw_5 mn_6 o8 mt mq mz me s14.1 10 0 o' hz) (fun o' => zCut_all) ⟨hx, hb, hml, hown, hts⟩ (cwV 3 hts gX8_ticks_X8_puts rfl rfl rfl (by decide +kernel) ⟨by decide, by decide⟩) (ci := 8) (q0 := 0) rfl (wMo_at0 cy a m0 m1 m2 m3 m4 m5 m6 m7 m8 m9 mb o14 md mp mf_2 mi_3 mo_4 mw_5 mn_6 o8 mt mq mz me) hK hSE hA hP hD hS rfl hl.1 rfl (Nat.le_of_ble_eq_true rfl) dX8_ticks_84 ⟨Nat.le_refl _, Nat.le_refl _⟩ (fun o15 hF H locs hP hD hS => ?_)
            exact J87 o15 _ _ ls hP hD hS (lv_sub hl [0, 1] rfl) hF
          refine zf_eq (tgt := 71) hx hb hF dX8_ticks_39 (by decide) (fun hF => ?_) (fun hF => ?_)
          · exact J71 s14.2 _ _ ls hP hD hS (lv_sub hl [0, 1] rfl) hF
          · refine lv_aload_n hx hb dX8_ticks_42 rfl (lv_at hl 0 rfl) ?_
            refine lv_iload_n hx hb dX8_ticks_43 rfl (lv_at hl 1 rfl) ?_
            refine lv_bipush (v := 7) hx hb dX8_ticks_44 (by decide) ?_
            refine lv_aload_n hx hb dX8_ticks_46 rfl (lv_at hl 0 rfl) ?_
            refine lv_iload_n hx hb dX8_ticks_47 rfl (lv_at hl 1 rfl) ?_
            refine lv_bipush (v := 7) hx hb dX8_ticks_48 (by decide) ?_
            refine z_cVi (b := a 0) (As := [.int s14.1, .int 7]) (rest := [.int 7, .int s14.1, .ref (a 0)]) (wc := (wMo cy a m0 m1 m2 m3 m4 m5 m6 m7 m8 m9 mb s14.2 md mp mf_2 mi_3 mo_4 mw_5 mn_6 o8 mt mq mz me)) (wcf := fun o' => (wMo cy a m0 m1 m2 m3 m4 m5 m6 m7 m8 m9 mb s14.2 md mp mf_2 mi_3 mo_4 mw_5 mn_6 o8 mt mq mz me)) (wf := fun o' => (wMo cy a m0 m1 m2 m3 m4 m5 m6 m7 m8 m9 mb s14.2 md mp mf_2 mi_3 mo_4 mw_5 mn_6 o8 mt mq mz me)) (rf := fun o' => o') hF (fun o' hz => c_X8_of l G cy st a m0 m1 m2 m3 m4 m5 m6 m7 m8 m9 mb s14.2 md mp mf_2 mi_3 mo_4 mw_5 mn_6 o8 mt mq mz me s14.1 7 o' hz) (fun o' => zCut_all) ⟨hx, hb, hml, hown, hts⟩ (cwV 2 hts gX8_ticks_X8_of rfl rfl rfl (by decide +kernel) ⟨by decide, by decide⟩) (ci := 8) (q0 := 0) rfl (wMo_at0 cy a m0 m1 m2 m3 m4 m5 m6 m7 m8 m9 mb s14.2 md mp mf_2 mi_3 mo_4 mw_5 mn_6 o8 mt mq mz me) hK hSE hA hP hD hS rfl hl.1 rfl (Nat.le_of_ble_eq_true rfl) dX8_ticks_50 ⟨Nat.le_refl _, Nat.le_refl _⟩ (fun o16 hF H locs hP hD hS => ?_)
            refine lv_aload_n hx hb dX8_ticks_53 rfl (lv_at hl 0 rfl) ?_
            refine va_get (ci := 8) (C := RX8) (T := TX8) (N := 24) (fs := (zMo a m0 m1 m2 m3 m4 m5 m6 m7 m8 m9)) (v := .ref (a 8)) hx hb hts iX8 hown hK hP _ (wMo_at0 cy a m0 m1 m2 m3 m4 m5 m6 m7 m8 m9 mb s14.2 md mp mf_2 mi_3 mo_4 mw_5 mn_6 o8 mt mq mz me) rfl 12 (by decide) k32 (fun _ h9 => h9) rfl dX8_ticks_54 ?_
            refine lv_iload_n hx hb dX8_ticks_57 rfl (lv_at hl 1 rfl) ?_
            refine z_iald (n := 4) (f := mw_5) hx hb hK hP _ 1 (wMo_at8 cy a m0 m1 m2 m3 m4 m5 m6 m7 m8 m9 mb s14.2 md mp mf_2 mi_3 mo_4 mw_5 mn_6 o8 mt mq mz me) rfl hF dX8_ticks_58 (fun hF => ?_)
            refine z_cSi (As := [.int (mw_5 (zn s14.1))]) (rest := [.int o16, .int 7, .int s14.1, .ref (a 0)]) (wc := ([] : va_W)) (wcf := fun o' => ([] : va_W)) (wf := fun o' => (wMo cy a m0 m1 m2 m3 m4 m5 m6 m7 m8 m9 mb s14.2 md mp mf_2 mi_3 mo_4 mw_5 mn_6 o8 mt mq mz me)) (rf := fun o' => o') hF (fun o' hz => c_X8_way l G cy st (mw_5 (zn s14.1)) o' hz) (fun o' => zCut_nil) ⟨hx, hb, hml, hown, hts⟩ (va_cwS 1 hts gX8_ticks_X8_way rfl rfl rfl (by decide +kernel) ⟨by decide, by decide⟩) hK hSE hA hP hD hS rfl hl.1 rfl (Nat.le_of_ble_eq_true rfl) dX8_ticks_59 ⟨Nat.le_refl _, Nat.le_refl _⟩ (fun o17 hF H locs hP hD hS => ?_)
            refine lv_iadd hx hb dX8_ticks_62 ?_
            refine z_cVv (b := a 0) (As := [.int s14.1, .int 7, .int (o16 + o17)]) (rest := []) (wc := (wMo cy a m0 m1 m2 m3 m4 m5 m6 m7 m8 m9 mb s14.2 md mp mf_2 mi_3 mo_4 mw_5 mn_6 o8 mt mq mz me)) (wcf := fun o' => (wMo cy a m0 m1 m2 m3 m4 m5 m6 m7 m8 m9 mb o' md mp mf_2 mi_3 mo_4 mw_5 mn_6 o8 mt mq mz me)) (wf := fun o' => (wMo cy a m0 m1 m2 m3 m4 m5 m6 m7 m8 m9 mb o' md mp mf_2 mi_3 mo_4 mw_5 mn_6 o8 mt mq mz me)) hF (fun o' hz => c_X8_puts l G cy st a m0 m1 m2 m3 m4 m5 m6 m7 m8 m9 mb s14.2 md mp mf_2 mi_3 mo_4 mw_5 mn_6 o8 mt mq mz me s14.1 7 (o16 + o17) o' hz) (fun o' => zCut_all) ⟨hx, hb, hml, hown, hts⟩ (cwV 3 hts gX8_ticks_X8_puts rfl rfl rfl (by decide +kernel) ⟨by decide, by decide⟩) (ci := 8) (q0 := 0) rfl (wMo_at0 cy a m0 m1 m2 m3 m4 m5 m6 m7 m8 m9 mb s14.2 md mp mf_2 mi_3 mo_4 mw_5 mn_6 o8 mt mq mz me) hK hSE hA hP hD hS rfl hl.1 rfl (Nat.le_of_ble_eq_true rfl) dX8_ticks_63 ⟨Nat.le_refl _, Nat.le_refl _⟩ (fun o18 hF H locs hP hD hS => ?_)
            refine lv_aload_n hx hb dX8_ticks_66 rfl (lv_at hl 0 rfl) ?_
            refine lv_iload_n hx hb dX8_ticks_67 rfl (lv_at hl 1 rfl) ?_
            refine z_cVv (b := a 0) (As := [.int s14.1]) (rest := []) (wc := (wMo cy a m0 m1 m2 m3 m4 m5 m6 m7 m8 m9 mb o18 md mp mf_2 mi_3 mo_4 mw_5 mn_6 o8 mt mq mz me)) (wcf := fun o' => (wMo cy a m0 m1 m2 m3 m4 m5 m6 m7 m8 m9 mb o' md mp mf_2 mi_3 mo_4 mw_5 mn_6 o8 mt mq mz me)) (wf := fun o' => (wMo cy a m0 m1 m2 m3 m4 m5 m6 m7 m8 m9 mb o' md mp mf_2 mi_3 mo_4 mw_5 mn_6 o8 mt mq mz me)) hF (fun o' hz => c_X8_notesStep l G cy st a m0 m1 m2 m3 m4 m5 m6 m7 m8 m9 mb o18 md mp mf_2 mi_3 mo_4 mw_5 mn_6 o8 mt mq mz me s14.1 o' hz) (fun o' => zCut_all) ⟨hx, hb, hml, hown, hts⟩ (cwV 1 hts gX8_ticks_X8_notesStep rfl rfl rfl (by decide +kernel) ⟨by decide, by decide⟩) (ci := 8) (q0 := 0) rfl (wMo_at0 cy a m0 m1 m2 m3 m4 m5 m6 m7 m8 m9 mb o18 md mp mf_2 mi_3 mo_4 mw_5 mn_6 o8 mt mq mz me) hK hSE hA hP hD hS rfl hl.1 rfl (Nat.le_of_ble_eq_true rfl) dX8_ticks_68 ⟨Nat.le_refl _, Nat.le_refl _⟩ (fun o19 hF H locs hP hD hS => ?_)
            exact J71 o19 _ _ ls hP hD hS (lv_sub hl [0, 1] rfl) hF
  exact L14 1000 (0, o7.1) _ _ ls hP hD hS (lv_sub hl [1, 0] rfl) hF
def j_X8_notes_83 (m_1 : Int32) (mp_3 : Nat → Int32) : Option (Int32 × (Nat → Int32)) :=
zlet (m_1 + 1) fun m_4 =>
some (m_4, mp_3)
def b_X8_notes_51 (ms : Nat → Int32) (m_1 : Int32) (rc51 : (Int32 × (Nat → Int32)) → Option (Int32 × (Nat → Int32))) (s51 : Int32 × (Nat → Int32)) : Option (Int32 × (Nat → Int32)) :=
if (114 : Int32) ≤ s51.1 then (
j_X8_notes_83 m_1 s51.2) else (
zg (zin s51.1 114) (
zg (zin ((114 * m_1) + s51.1) 684) (
zlet (upd s51.2 (zn ((114 * m_1) + s51.1)) (ms (zn s51.1))) fun mp_5 =>
zlet (s51.1 + 1) fun x6 =>
rc51 (x6, mp_5))))
def j_X8_notes_49 (ms : Nat → Int32) (m_1 : Int32) (mp_2 : Nat → Int32) : Option (Int32 × (Nat → Int32)) :=
zloop (b_X8_notes_51 ms m_1) 1000 (0, mp_2)
def j_X8_notes_39 (m2 : Int32) (ms : Nat → Int32) (mp_7 : Nat → Int32) : Option (Int32 × (Nat → Int32)) :=
zlet (m2 - 1) fun m_8 =>
j_X8_notes_49 ms m_8 mp_7
def b_X8_notes_11 (m2 : Int32) (ms : Nat → Int32) (rc11 : (Int32 × (Nat → Int32)) → Option (Int32 × (Nat → Int32))) (s11 : Int32 × (Nat → Int32)) : Option (Int32 × (Nat → Int32)) :=
if (570 : Int32) ≤ s11.1 then (
j_X8_notes_39 m2 ms s11.2) else (
zg (zin (s11.1 + 114) 684) (
zg (zin s11.1 684) (
zlet (upd s11.2 (zn s11.1) (s11.2 (zn (s11.1 + 114)))) fun mp_9 =>
zlet (s11.1 + 1) fun x10 =>
rc11 (x10, mp_9))))
def f_X8_notes (m2 : Int32) (ms : Nat → Int32) (mp : Nat → Int32) : Option (Int32 × (Nat → Int32)) :=
if m2 = (6 : Int32) then (
zloop (b_X8_notes_11 m2 ms) 1000 (0, mp)) else (
j_X8_notes_49 ms m2 mp)
set_option maxHeartbeats 4000000 in
set_option maxRecDepth 100000 in
theorem c_X8_notes (l : Launch) (G : va_G) (cy : Nat → ClassId) (st : Nat → Nat) (a : Nat → Nat) (m0 : Int32) (m1 : Int32) (m2 : Int32) (m3 : Int32) (m4 : Int32) (m5 : Int32) (m6 : Int32) (m7 : Int32) (m8 : Int32) (m9 : Int32) (mb : Nat → Int32) (ms : Nat → Int32) (md : Nat → Int32) (mp : Nat → Int32) (mf : Nat → Int32) (mi : Nat → Int32) (mo : Nat → Int32) (mw : Nat → Int32) (mn : Nat → Int32) (mk : Nat → Int32) (mt : Nat → Int64) (mq : Nat → Int32) (mz : Nat → Int32) (me : Nat → Int32) (o : Int32 × (Nat → Int32)) (hF : f_X8_notes m2 ms mp = some o) : zMv l yX8_notes wsX8_notes (zR 1) G cy st [.ref (a 0)] (wMo cy a m0 m1 m2 m3 m4 m5 m6 m7 m8 m9 mb ms md mp mf mi mo mw mn mk mt mq mz me) (wMo cy a m0 m1 o.1 m3 m4 m5 m6 m7 m8 m9 mb ms md o.2 mf mi mo mw mn mk mt mq mz me) := by
  refine zM_of (cc := cX8_notes) (maxL := 2) (ret := none) (Qc := fun A => zQv G cy A (wMo cy a m0 m1 o.1 m3 m4 m5 m6 m7 m8 m9 mb ms md o.2 mf mi mo mw mn mk mt mq mz me)) (by decide) rfl (Nat.le_of_ble_eq_true rfl) ?_
  intro p e s m below meth c A ls hx hb hml hr hlocks hown hts hK hSE hA hP hD hS hl
  have hown : s.vm.findClass RX8 = some m.cls := hown
  have hl : lv_has ls 2 [(0, .ref (a 0))] := hl
  have k103 := hts (.fieldLink RX8 103 "TapCascadeModel" "undos" "I") (by decide +kernel)
  have iX8 : ∀ w ∈ wsX80, w ∈ wsX8_notes := fun w h => List.mem_cons_of_mem _ (List.mem_append_right _ h)
  have k20 := hts (.fieldLink RX8 20 "TapCascadeModel" "past" "[I") (by decide +kernel)
  have k13 := hts (.fieldLink RX8 13 "TapCascadeModel" "s" "[I") (by decide +kernel)
  unfold f_X8_notes at hF
  refine lv_aload_n hx hb dX8_notes_0 rfl (lv_at hl 0 rfl) ?_
  refine va_get (ci := 8) (C := RX8) (T := TX8) (N := 24) (fs := (zMo a m0 m1 m2 m3 m4 m5 m6 m7 m8 m9)) (v := .int m2) hx hb hts iX8 hown hK hP _ (wMo_at0 cy a m0 m1 m2 m3 m4 m5 m6 m7 m8 m9 mb ms md mp mf mi mo mw mn mk mt mq mz me) rfl 6 (by decide) k103 (fun _ h9 => h9) rfl dX8_notes_1 ?_
  refine lv_bipush (v := 6) hx hb dX8_notes_4 (by decide) ?_
  have J49 : ∀ (m_1 : Int32) (mp_2 : Nat → Int32) (H : Heap) (locs : List Loc) (ls : Array Slot), va_P G vwCl (wMo cy a m0 m1 m_1 m3 m4 m5 m6 m7 m8 m9 mb ms md mp_2 mf mi mo mw mn mk mt mq mz me) H → va_D A (wMo cy a m0 m1 m_1 m3 m4 m5 m6 m7 m8 m9 mb ms md mp_2 mf mi mo mw mn mk mt mq mz me) → va_S A s.heap H locs → lv_has ls 2 [(0, .ref (a 0))] → j_X8_notes_49 ms m_1 mp_2 = some o → W p l e (zR 1) s m ([.ref (a 0)] : List Value).toArray below meth c H locs 0 0 (MQ below (zQv G cy A (wMo cy a m0 m1 o.1 m3 m4 m5 m6 m7 m8 m9 mb ms md o.2 mf mi mo mw mn mk mt mq mz me)) ([.ref (a 0)] : List Value).toArray s 0 0 A) (F0 m 49 ls []) := by
    intro m_1 mp_2 H locs ls hP hD hS hl hF
    unfold j_X8_notes_49 at hF
    refine lv_iconst (v := 0) hx hb dX8_notes_49 (by decide) ?_
    refine lv_istore_n (lv' := [(1, .int 0), (0, .ref (a 0))]) hx hb dX8_notes_50 rfl hl (by decide) rfl (fun ls hl => ?_)
    have J83 : ∀ (mp_3 : Nat → Int32) (H : Heap) (locs : List Loc) (ls : Array Slot), va_P G vwCl (wMo cy a m0 m1 m_1 m3 m4 m5 m6 m7 m8 m9 mb ms md mp_3 mf mi mo mw mn mk mt mq mz me) H → va_D A (wMo cy a m0 m1 m_1 m3 m4 m5 m6 m7 m8 m9 mb ms md mp_3 mf mi mo mw mn mk mt mq mz me) → va_S A s.heap H locs → lv_has ls 2 [(0, .ref (a 0))] → j_X8_notes_83 m_1 mp_3 = some o → W p l e (zR 1) s m ([.ref (a 0)] : List Value).toArray below meth c H locs 0 0 (MQ below (zQv G cy A (wMo cy a m0 m1 o.1 m3 m4 m5 m6 m7 m8 m9 mb ms md o.2 mf mi mo mw mn mk mt mq mz me)) ([.ref (a 0)] : List Value).toArray s 0 0 A) (F0 m 83 ls []) := by
      intro mp_3 H locs ls hP hD hS hl hF
      unfold j_X8_notes_83 at hF
      refine lv_aload_n hx hb dX8_notes_83 rfl (lv_at hl 0 rfl) ?_
      refine lv_dup hx hb dX8_notes_84 rfl ?_
      refine va_get (ci := 8) (C := RX8) (T := TX8) (N := 24) (fs := (zMo a m0 m1 m_1 m3 m4 m5 m6 m7 m8 m9)) (v := .int m_1) hx hb hts iX8 hown hK hP _ (wMo_at0 cy a m0 m1 m_1 m3 m4 m5 m6 m7 m8 m9 mb ms md mp_3 mf mi mo mw mn mk mt mq mz me) rfl 6 (by decide) k103 (fun _ h9 => h9) rfl dX8_notes_85 ?_
      refine lv_iconst (v := 1) hx hb dX8_notes_88 (by decide) ?_
      refine lv_iadd hx hb dX8_notes_89 ?_
      refine z_puti (ci := 8) (C := RX8) (T := TX8) (N := 24) (fs := (zMo a m0 m1 m_1 m3 m4 m5 m6 m7 m8 m9)) (x := (m_1 + 1)) (wf := (fun y => (wMo cy a m0 m1 y m3 m4 m5 m6 m7 m8 m9 mb ms md mp_3 mf mi mo mw mn mk mt mq mz me))) hx hb hts iX8 tyX8 tyX8_ok nmX8 hown hK hP hD hS _ 6 (wMo_foc0_6 cy a m0 m1 m_1 m3 m4 m5 m6 m7 m8 m9 mb ms md mp_3 mf mi mo mw mn mk mt mq mz me (m_1 + 1)) rfl (by decide) k103 (fun _ h9 => h9) rfl (by decide +kernel) (Nat.le_of_ble_eq_true rfl) hF dX8_notes_90 (fun m_4 hF H locs hP hD hS => ?_)
      refine z_vret (o := o) (o1 := (m_4, mp_3)) (wf := (fun o => (wMo cy a m0 m1 o.1 m3 m4 m5 m6 m7 m8 m9 mb ms md o.2 mf mi mo mw mn mk mt mq mz me))) hx hb hr hlocks hK ?_ ?_ hS ?_ dX8_notes_93
      · exact hP
      · exact hD
      · exact hF
    have L51 : ∀ (n : Nat) (s51 : Int32 × (Nat → Int32)) (H : Heap) (locs : List Loc) (ls : Array Slot), va_P G vwCl (wMo cy a m0 m1 m_1 m3 m4 m5 m6 m7 m8 m9 mb ms md s51.2 mf mi mo mw mn mk mt mq mz me) H → va_D A (wMo cy a m0 m1 m_1 m3 m4 m5 m6 m7 m8 m9 mb ms md s51.2 mf mi mo mw mn mk mt mq mz me) → va_S A s.heap H locs → lv_has ls 2 [(0, .ref (a 0)), (1, .int s51.1)] → zloop (b_X8_notes_51 ms m_1) n s51 = some o → W p l e (zR 1) s m ([.ref (a 0)] : List Value).toArray below meth c H locs 0 0 (MQ below (zQv G cy A (wMo cy a m0 m1 o.1 m3 m4 m5 m6 m7 m8 m9 mb ms md o.2 mf mi mo mw mn mk mt mq mz me)) ([.ref (a 0)] : List Value).toArray s 0 0 A) (F0 m 51 ls []) := by
      intro n
      induction n with
      | zero => exact fun s51 H locs ls _ _ _ _ hF => (zloop_0 hF).elim
      | succ n ih51 =>
        intro s51 H locs ls hP hD hS hl hF
        have hF : b_X8_notes_51 ms m_1 (zloop (b_X8_notes_51 ms m_1) n) s51 = some o := hF
        generalize zloop (b_X8_notes_51 ms m_1) n = rc51 at ih51 hF
        unfold b_X8_notes_51 at hF
        refine lv_iload_n hx hb dX8_notes_51 rfl (lv_at hl 1 rfl) ?_
        refine lv_bipush (v := 114) hx hb dX8_notes_52 (by decide) ?_
        refine zi_ge (tgt := 83) hx hb hF dX8_notes_54 (by decide) (fun hF => ?_) (fun hF => ?_)
        · exact J83 s51.2 _ _ ls hP hD hS (lv_sub hl [0] rfl) hF
        · refine lv_aload_n hx hb dX8_notes_57 rfl (lv_at hl 0 rfl) ?_
          refine va_get (ci := 8) (C := RX8) (T := TX8) (N := 24) (fs := (zMo a m0 m1 m_1 m3 m4 m5 m6 m7 m8 m9)) (v := .ref (a 4)) hx hb hts iX8 hown hK hP _ (wMo_at0 cy a m0 m1 m_1 m3 m4 m5 m6 m7 m8 m9 mb ms md s51.2 mf mi mo mw mn mk mt mq mz me) rfl 5 (by decide) k20 (fun _ h9 => h9) rfl dX8_notes_58 ?_
          refine lv_bipush (v := 114) hx hb dX8_notes_61 (by decide) ?_
          refine lv_aload_n hx hb dX8_notes_63 rfl (lv_at hl 0 rfl) ?_
          refine va_get (ci := 8) (C := RX8) (T := TX8) (N := 24) (fs := (zMo a m0 m1 m_1 m3 m4 m5 m6 m7 m8 m9)) (v := .int m_1) hx hb hts iX8 hown hK hP _ (wMo_at0 cy a m0 m1 m_1 m3 m4 m5 m6 m7 m8 m9 mb ms md s51.2 mf mi mo mw mn mk mt mq mz me) rfl 6 (by decide) k103 (fun _ h9 => h9) rfl dX8_notes_64 ?_
          refine lv_imul hx hb dX8_notes_67 ?_
          refine lv_iload_n hx hb dX8_notes_68 rfl (lv_at hl 1 rfl) ?_
          refine lv_iadd hx hb dX8_notes_69 ?_
          refine lv_aload_n hx hb dX8_notes_70 rfl (lv_at hl 0 rfl) ?_
          refine va_get (ci := 8) (C := RX8) (T := TX8) (N := 24) (fs := (zMo a m0 m1 m_1 m3 m4 m5 m6 m7 m8 m9)) (v := .ref (a 2)) hx hb hts iX8 hown hK hP _ (wMo_at0 cy a m0 m1 m_1 m3 m4 m5 m6 m7 m8 m9 mb ms md s51.2 mf mi mo mw mn mk mt mq mz me) rfl 3 (by decide) k13 (fun _ h9 => h9) rfl dX8_notes_71 ?_
          refine lv_iload_n hx hb dX8_notes_74 rfl (lv_at hl 1 rfl) ?_
          refine z_iald (n := 114) (f := ms) hx hb hK hP _ 1 (wMo_at2 cy a m0 m1 m_1 m3 m4 m5 m6 m7 m8 m9 mb ms md s51.2 mf mi mo mw mn mk mt mq mz me) rfl hF dX8_notes_75 (fun hF => ?_)
          refine z_iast (n := 684) (f := s51.2) (i := ((114 * m_1) + s51.1)) (x := (ms (zn s51.1))) (wf := (fun y => (wMo cy a m0 m1 m_1 m3 m4 m5 m6 m7 m8 m9 mb ms md y mf mi mo mw mn mk mt mq mz me))) hx hb hK hP hD hS _ 1 (wMo_foc4 cy a m0 m1 m_1 m3 m4 m5 m6 m7 m8 m9 mb ms md s51.2 mf mi mo mw mn mk mt mq mz me _) rfl hF dX8_notes_76 (fun mp_5 hF H locs hP hD hS => ?_)
          refine z_name hF (fun x6 ex6 hF => ?_)
          refine lv_iinc (v := x6) (lv' := [(1, .int x6), (0, .ref (a 0))]) hx hb dX8_notes_77 hl (k := 1) rfl (by rw [ex6]; rfl) (by decide) rfl (fun ls hl => ?_)
          refine lv_goto (tgt := 51) hx hb dX8_notes_80 (by decide) ?_
          exact ih51 (x6, mp_5) _ _ ls hP hD hS (lv_sub hl [1, 0] rfl) hF
    exact L51 1000 (0, mp_2) _ _ ls hP hD hS (lv_sub hl [1, 0] rfl) hF
  refine zi_ne (tgt := 49) hx hb hF dX8_notes_6 (by decide) (fun hF => ?_) (fun hF => ?_)
  · exact J49 m2 mp _ _ ls hP hD hS (lv_sub hl [0] rfl) hF
  · refine lv_iconst (v := 0) hx hb dX8_notes_9 (by decide) ?_
    refine lv_istore_n (lv' := [(1, .int 0), (0, .ref (a 0))]) hx hb dX8_notes_10 rfl hl (by decide) rfl (fun ls hl => ?_)
    have J39 : ∀ (mp_7 : Nat → Int32) (H : Heap) (locs : List Loc) (ls : Array Slot), va_P G vwCl (wMo cy a m0 m1 m2 m3 m4 m5 m6 m7 m8 m9 mb ms md mp_7 mf mi mo mw mn mk mt mq mz me) H → va_D A (wMo cy a m0 m1 m2 m3 m4 m5 m6 m7 m8 m9 mb ms md mp_7 mf mi mo mw mn mk mt mq mz me) → va_S A s.heap H locs → lv_has ls 2 [(0, .ref (a 0))] → j_X8_notes_39 m2 ms mp_7 = some o → W p l e (zR 1) s m ([.ref (a 0)] : List Value).toArray below meth c H locs 0 0 (MQ below (zQv G cy A (wMo cy a m0 m1 o.1 m3 m4 m5 m6 m7 m8 m9 mb ms md o.2 mf mi mo mw mn mk mt mq mz me)) ([.ref (a 0)] : List Value).toArray s 0 0 A) (F0 m 39 ls []) := by
      intro mp_7 H locs ls hP hD hS hl hF
      unfold j_X8_notes_39 at hF
      refine lv_aload_n hx hb dX8_notes_39 rfl (lv_at hl 0 rfl) ?_
      refine lv_dup hx hb dX8_notes_40 rfl ?_
      refine va_get (ci := 8) (C := RX8) (T := TX8) (N := 24) (fs := (zMo a m0 m1 m2 m3 m4 m5 m6 m7 m8 m9)) (v := .int m2) hx hb hts iX8 hown hK hP _ (wMo_at0 cy a m0 m1 m2 m3 m4 m5 m6 m7 m8 m9 mb ms md mp_7 mf mi mo mw mn mk mt mq mz me) rfl 6 (by decide) k103 (fun _ h9 => h9) rfl dX8_notes_41 ?_
      refine lv_iconst (v := 1) hx hb dX8_notes_44 (by decide) ?_
      refine lv_isub hx hb dX8_notes_45 ?_
      refine z_puti (ci := 8) (C := RX8) (T := TX8) (N := 24) (fs := (zMo a m0 m1 m2 m3 m4 m5 m6 m7 m8 m9)) (x := (m2 - 1)) (wf := (fun y => (wMo cy a m0 m1 y m3 m4 m5 m6 m7 m8 m9 mb ms md mp_7 mf mi mo mw mn mk mt mq mz me))) hx hb hts iX8 tyX8 tyX8_ok nmX8 hown hK hP hD hS _ 6 (wMo_foc0_6 cy a m0 m1 m2 m3 m4 m5 m6 m7 m8 m9 mb ms md mp_7 mf mi mo mw mn mk mt mq mz me (m2 - 1)) rfl (by decide) k103 (fun _ h9 => h9) rfl (by decide +kernel) (Nat.le_of_ble_eq_true rfl) hF dX8_notes_46 (fun m_8 hF H locs hP hD hS => ?_)
      exact J49 m_8 mp_7 _ _ ls hP hD hS (lv_sub hl [0] rfl) hF
    have L11 : ∀ (n : Nat) (s11 : Int32 × (Nat → Int32)) (H : Heap) (locs : List Loc) (ls : Array Slot), va_P G vwCl (wMo cy a m0 m1 m2 m3 m4 m5 m6 m7 m8 m9 mb ms md s11.2 mf mi mo mw mn mk mt mq mz me) H → va_D A (wMo cy a m0 m1 m2 m3 m4 m5 m6 m7 m8 m9 mb ms md s11.2 mf mi mo mw mn mk mt mq mz me) → va_S A s.heap H locs → lv_has ls 2 [(0, .ref (a 0)), (1, .int s11.1)] → zloop (b_X8_notes_11 m2 ms) n s11 = some o → W p l e (zR 1) s m ([.ref (a 0)] : List Value).toArray below meth c H locs 0 0 (MQ below (zQv G cy A (wMo cy a m0 m1 o.1 m3 m4 m5 m6 m7 m8 m9 mb ms md o.2 mf mi mo mw mn mk mt mq mz me)) ([.ref (a 0)] : List Value).toArray s 0 0 A) (F0 m 11 ls []) := by
      intro n
      induction n with
      | zero => exact fun s11 H locs ls _ _ _ _ hF => (zloop_0 hF).elim
      | succ n ih11 =>
        intro s11 H locs ls hP hD hS hl hF
        have hF : b_X8_notes_11 m2 ms (zloop (b_X8_notes_11 m2 ms) n) s11 = some o := hF
        generalize zloop (b_X8_notes_11 m2 ms) n = rc11 at ih11 hF
        unfold b_X8_notes_11 at hF
        refine lv_iload_n hx hb dX8_notes_11 rfl (lv_at hl 1 rfl) ?_
        refine lv_sipush (v := 570) hx hb dX8_notes_12 (by decide) ?_
        refine zi_ge (tgt := 39) hx hb hF dX8_notes_15 (by decide) (fun hF => ?_) (fun hF => ?_)
        · exact J39 s11.2 _ _ ls hP hD hS (lv_sub hl [0] rfl) hF
        · refine lv_aload_n hx hb dX8_notes_18 rfl (lv_at hl 0 rfl) ?_
          refine va_get (ci := 8) (C := RX8) (T := TX8) (N := 24) (fs := (zMo a m0 m1 m2 m3 m4 m5 m6 m7 m8 m9)) (v := .ref (a 4)) hx hb hts iX8 hown hK hP _ (wMo_at0 cy a m0 m1 m2 m3 m4 m5 m6 m7 m8 m9 mb ms md s11.2 mf mi mo mw mn mk mt mq mz me) rfl 5 (by decide) k20 (fun _ h9 => h9) rfl dX8_notes_19 ?_
          refine lv_iload_n hx hb dX8_notes_22 rfl (lv_at hl 1 rfl) ?_
          refine lv_aload_n hx hb dX8_notes_23 rfl (lv_at hl 0 rfl) ?_
          refine va_get (ci := 8) (C := RX8) (T := TX8) (N := 24) (fs := (zMo a m0 m1 m2 m3 m4 m5 m6 m7 m8 m9)) (v := .ref (a 4)) hx hb hts iX8 hown hK hP _ (wMo_at0 cy a m0 m1 m2 m3 m4 m5 m6 m7 m8 m9 mb ms md s11.2 mf mi mo mw mn mk mt mq mz me) rfl 5 (by decide) k20 (fun _ h9 => h9) rfl dX8_notes_24 ?_
          refine lv_iload_n hx hb dX8_notes_27 rfl (lv_at hl 1 rfl) ?_
          refine lv_bipush (v := 114) hx hb dX8_notes_28 (by decide) ?_
          refine lv_iadd hx hb dX8_notes_30 ?_
          refine z_iald (n := 684) (f := s11.2) hx hb hK hP _ 1 (wMo_at4 cy a m0 m1 m2 m3 m4 m5 m6 m7 m8 m9 mb ms md s11.2 mf mi mo mw mn mk mt mq mz me) rfl hF dX8_notes_31 (fun hF => ?_)
          refine z_iast (n := 684) (f := s11.2) (i := s11.1) (x := (s11.2 (zn (s11.1 + 114)))) (wf := (fun y => (wMo cy a m0 m1 m2 m3 m4 m5 m6 m7 m8 m9 mb ms md y mf mi mo mw mn mk mt mq mz me))) hx hb hK hP hD hS _ 1 (wMo_foc4 cy a m0 m1 m2 m3 m4 m5 m6 m7 m8 m9 mb ms md s11.2 mf mi mo mw mn mk mt mq mz me _) rfl hF dX8_notes_32 (fun mp_9 hF H locs hP hD hS => ?_)
          refine z_name hF (fun x10 ex10 hF => ?_)
          refine lv_iinc (v := x10) (lv' := [(1, .int x10), (0, .ref (a 0))]) hx hb dX8_notes_33 hl (k := 1) rfl (by rw [ex10]; rfl) (by decide) rfl (fun ls hl => ?_)
          refine lv_goto (tgt := 11) hx hb dX8_notes_36 (by decide) ?_
          exact ih11 (x10, mp_9) _ _ ls hP hD hS (lv_sub hl [1, 0] rfl) hF
    exact L11 1000 (0, mp) _ _ ls hP hD hS (lv_sub hl [1, 0] rfl) hF
def f_X8_source (m2 : Int32) (ms : Nat → Int32) (mp : Nat → Int32) (x01 : Int32) : Option (Int32 × Int32 × Int32 × (Nat → Int32) × (Nat → Int32)) :=
zlet 0 fun m_1 =>
zbd (f_X8_in x01 800 1200) fun o2 =>
if o2 = 0 then (
some ((-1), m_1, m2, ms, mp)) else (
zg (zin 1 114) (
zlet (ms (zn 1)) fun x3 =>
if x3 = x01 then (
some ((-2), m_1, m2, ms, mp)) else (
zbd (f_X8_notes m2 ms mp) fun o4 =>
zg (zin 1 114) (
zlet (upd ms (zn 1) x01) fun ms_5 =>
some (x3, m_1, o4.1, ms_5, o4.2)))))
set_option maxHeartbeats 4000000 in
set_option maxRecDepth 100000 in
theorem c_X8_source (l : Launch) (G : va_G) (cy : Nat → ClassId) (st : Nat → Nat) (a : Nat → Nat) (m0 : Int32) (m1 : Int32) (m2 : Int32) (m3 : Int32) (m4 : Int32) (m5 : Int32) (m6 : Int32) (m7 : Int32) (m8 : Int32) (m9 : Int32) (mb : Nat → Int32) (ms : Nat → Int32) (md : Nat → Int32) (mp : Nat → Int32) (mf : Nat → Int32) (mi : Nat → Int32) (mo : Nat → Int32) (mw : Nat → Int32) (mn : Nat → Int32) (mk : Nat → Int32) (mt : Nat → Int64) (mq : Nat → Int32) (mz : Nat → Int32) (me : Nat → Int32) (x01 : Int32) (o : Int32 × Int32 × Int32 × (Nat → Int32) × (Nat → Int32)) (hF : f_X8_source m2 ms mp x01 = some o) : zMi l yX8_source wsX8_source (zR 2) G cy st [.ref (a 0), .int x01] (wMo cy a m0 m1 m2 m3 m4 m5 m6 m7 m8 m9 mb ms md mp mf mi mo mw mn mk mt mq mz me) (wMo cy a o.2.1 m1 o.2.2.1 m3 m4 m5 m6 m7 m8 m9 mb o.2.2.2.1 md o.2.2.2.2 mf mi mo mw mn mk mt mq mz me) o.1 := by
  refine zM_of (cc := cX8_source) (maxL := 3) (ret := (some .int)) (Qc := fun A => zQi G cy A (wMo cy a o.2.1 m1 o.2.2.1 m3 m4 m5 m6 m7 m8 m9 mb o.2.2.2.1 md o.2.2.2.2 mf mi mo mw mn mk mt mq mz me) o.1) (by decide) rfl (Nat.le_of_ble_eq_true rfl) ?_
  intro p e s m below meth c A ls hx hb hml hr hlocks hown hts hK hSE hA hP hD hS hl
  have hown : s.vm.findClass RX8 = some m.cls := hown
  have hl : lv_has ls 3 [(0, .ref (a 0)), (1, .int x01)] := hl
  have k59 := hts (.fieldLink RX8 59 "TapCascadeModel" "thrown" "I") (by decide +kernel)
  have iX8 : ∀ w ∈ wsX80, w ∈ wsX8_source := fun w h => List.mem_cons_of_mem _ (List.mem_append_right _ h)
  have k13 := hts (.fieldLink RX8 13 "TapCascadeModel" "s" "[I") (by decide +kernel)
  unfold f_X8_source at hF
  refine lv_aload_n hx hb dX8_source_0 rfl (lv_at hl 0 rfl) ?_
  refine lv_iconst (v := 0) hx hb dX8_source_1 (by decide) ?_
  refine z_puti (ci := 8) (C := RX8) (T := TX8) (N := 24) (fs := (zMo a m0 m1 m2 m3 m4 m5 m6 m7 m8 m9)) (x := 0) (wf := (fun y => (wMo cy a y m1 m2 m3 m4 m5 m6 m7 m8 m9 mb ms md mp mf mi mo mw mn mk mt mq mz me))) hx hb hts iX8 tyX8 tyX8_ok nmX8 hown hK hP hD hS _ 0 (wMo_foc0_0 cy a m0 m1 m2 m3 m4 m5 m6 m7 m8 m9 mb ms md mp mf mi mo mw mn mk mt mq mz me 0) rfl (by decide) k59 (fun _ h9 => h9) rfl (by decide +kernel) (Nat.le_of_ble_eq_true rfl) hF dX8_source_2 (fun m_1 hF H locs hP hD hS => ?_)
  refine lv_iload_n hx hb dX8_source_5 rfl (lv_at hl 1 rfl) ?_
  refine lv_sipush (v := 800) hx hb dX8_source_6 (by decide) ?_
  refine lv_sipush (v := 1200) hx hb dX8_source_9 (by decide) ?_
  refine z_cSi (As := [.int x01, .int 800, .int 1200]) (rest := []) (wc := ([] : va_W)) (wcf := fun o' => ([] : va_W)) (wf := fun o' => (wMo cy a m_1 m1 m2 m3 m4 m5 m6 m7 m8 m9 mb ms md mp mf mi mo mw mn mk mt mq mz me)) (rf := fun o' => o') hF (fun o' hz => c_X8_in l G cy st x01 800 1200 o' hz) (fun o' => zCut_nil) ⟨hx, hb, hml, hown, hts⟩ (va_cwS 3 hts gX8_source_X8_in rfl rfl rfl (by decide +kernel) ⟨by decide, by decide⟩) hK hSE hA hP hD hS rfl hl.1 rfl (Nat.le_of_ble_eq_true rfl) dX8_source_12 ⟨Nat.le_refl _, Nat.le_refl _⟩ (fun o2 hF H locs hP hD hS => ?_)
  refine zf_ne (tgt := 20) hx hb hF dX8_source_15 (by decide) (fun hF => ?_) (fun hF => ?_)
  · refine lv_aload_n hx hb dX8_source_20 rfl (lv_at hl 0 rfl) ?_
    refine va_get (ci := 8) (C := RX8) (T := TX8) (N := 24) (fs := (zMo a m_1 m1 m2 m3 m4 m5 m6 m7 m8 m9)) (v := .ref (a 2)) hx hb hts iX8 hown hK hP _ (wMo_at0 cy a m_1 m1 m2 m3 m4 m5 m6 m7 m8 m9 mb ms md mp mf mi mo mw mn mk mt mq mz me) rfl 3 (by decide) k13 (fun _ h9 => h9) rfl dX8_source_21 ?_
    refine lv_iconst (v := 1) hx hb dX8_source_24 (by decide) ?_
    refine z_iald (n := 114) (f := ms) hx hb hK hP _ 1 (wMo_at2 cy a m_1 m1 m2 m3 m4 m5 m6 m7 m8 m9 mb ms md mp mf mi mo mw mn mk mt mq mz me) rfl hF dX8_source_25 (fun hF => ?_)
    refine z_leti hF (fun x3 hF => ?_)
    refine lv_istore_n (lv' := [(2, .int x3), (0, .ref (a 0)), (1, .int x01)]) hx hb dX8_source_26 rfl hl (by decide) rfl (fun ls hl => ?_)
    refine lv_iload_n hx hb dX8_source_27 rfl (lv_at hl 0 rfl) ?_
    refine lv_iload_n hx hb dX8_source_28 rfl (lv_at hl 2 rfl) ?_
    refine zi_ne (tgt := 35) hx hb hF dX8_source_29 (by decide) (fun hF => ?_) (fun hF => ?_)
    · refine lv_aload_n hx hb dX8_source_35 rfl (lv_at hl 1 rfl) ?_
      refine z_cVv (b := a 0) (As := []) (rest := []) (wc := (wMo cy a m_1 m1 m2 m3 m4 m5 m6 m7 m8 m9 mb ms md mp mf mi mo mw mn mk mt mq mz me)) (wcf := fun o' => (wMo cy a m_1 m1 o'.1 m3 m4 m5 m6 m7 m8 m9 mb ms md o'.2 mf mi mo mw mn mk mt mq mz me)) (wf := fun o' => (wMo cy a m_1 m1 o'.1 m3 m4 m5 m6 m7 m8 m9 mb ms md o'.2 mf mi mo mw mn mk mt mq mz me)) hF (fun o' hz => c_X8_notes l G cy st a m_1 m1 m2 m3 m4 m5 m6 m7 m8 m9 mb ms md mp mf mi mo mw mn mk mt mq mz me o' hz) (fun o' => zCut_all) ⟨hx, hb, hml, hown, hts⟩ (cwV 0 hts gX8_source_X8_notes rfl rfl rfl (by decide +kernel) ⟨by decide, by decide⟩) (ci := 8) (q0 := 0) rfl (wMo_at0 cy a m_1 m1 m2 m3 m4 m5 m6 m7 m8 m9 mb ms md mp mf mi mo mw mn mk mt mq mz me) hK hSE hA hP hD hS rfl hl.1 rfl (Nat.le_of_ble_eq_true rfl) dX8_source_36 ⟨Nat.le_refl _, Nat.le_refl _⟩ (fun o4 hF H locs hP hD hS => ?_)
      refine lv_aload_n hx hb dX8_source_39 rfl (lv_at hl 1 rfl) ?_
      refine va_get (ci := 8) (C := RX8) (T := TX8) (N := 24) (fs := (zMo a m_1 m1 o4.1 m3 m4 m5 m6 m7 m8 m9)) (v := .ref (a 2)) hx hb hts iX8 hown hK hP _ (wMo_at0 cy a m_1 m1 o4.1 m3 m4 m5 m6 m7 m8 m9 mb ms md o4.2 mf mi mo mw mn mk mt mq mz me) rfl 3 (by decide) k13 (fun _ h9 => h9) rfl dX8_source_40 ?_
      refine lv_iconst (v := 1) hx hb dX8_source_43 (by decide) ?_
      refine lv_iload_n hx hb dX8_source_44 rfl (lv_at hl 2 rfl) ?_
      refine z_iast (n := 114) (f := ms) (i := 1) (x := x01) (wf := (fun y => (wMo cy a m_1 m1 o4.1 m3 m4 m5 m6 m7 m8 m9 mb y md o4.2 mf mi mo mw mn mk mt mq mz me))) hx hb hK hP hD hS _ 1 (wMo_foc2 cy a m_1 m1 o4.1 m3 m4 m5 m6 m7 m8 m9 mb ms md o4.2 mf mi mo mw mn mk mt mq mz me _) rfl hF dX8_source_45 (fun ms_5 hF H locs hP hD hS => ?_)
      refine lv_iload_n hx hb dX8_source_46 rfl (lv_at hl 0 rfl) ?_
      refine z_iret (o := o) (o1 := (x3, m_1, o4.1, ms_5, o4.2)) (v := x3) (wf := (fun o => (wMo cy a o.2.1 m1 o.2.2.1 m3 m4 m5 m6 m7 m8 m9 mb o.2.2.2.1 md o.2.2.2.2 mf mi mo mw mn mk mt mq mz me))) (rf := fun o => o.1) hx hb hr hlocks hK ?_ ?_ hS ?_ rfl dX8_source_47
      · exact hP
      · exact hD
      · exact hF
    · refine lv_bipush (v := (-2)) hx hb dX8_source_32 (by decide) ?_
      refine z_iret (o := o) (o1 := ((-2), m_1, m2, ms, mp)) (v := (-2)) (wf := (fun o => (wMo cy a o.2.1 m1 o.2.2.1 m3 m4 m5 m6 m7 m8 m9 mb o.2.2.2.1 md o.2.2.2.2 mf mi mo mw mn mk mt mq mz me))) (rf := fun o => o.1) hx hb hr hlocks hK ?_ ?_ hS ?_ rfl dX8_source_34
      · exact hP
      · exact hD
      · exact hF
  · refine lv_iconst (v := (-1)) hx hb dX8_source_18 (by decide) ?_
    refine z_iret (o := o) (o1 := ((-1), m_1, m2, ms, mp)) (v := (-1)) (wf := (fun o => (wMo cy a o.2.1 m1 o.2.2.1 m3 m4 m5 m6 m7 m8 m9 mb o.2.2.2.1 md o.2.2.2.2 mf mi mo mw mn mk mt mq mz me))) (rf := fun o => o.1) hx hb hr hlocks hK ?_ ?_ hS ?_ rfl dX8_source_19
    · exact hP
    · exact hD
    · exact hF
def j_X8_tell_101 (m2 : Int32) (ms : Nat → Int32) (mp : Nat → Int32) (x01 : Int32) (x03 : Int32) (m_1 : Int32) (t4 : Int32) (t5 : Int32) (t6 : Int32) : Option (Int32 × Int32 × Int32 × (Nat → Int32) × (Nat → Int32)) :=
if t6 = 0 then (
some ((-1), m_1, m2, ms, mp)) else (
zbd (f_X8_of ms x01 t5) fun o7 =>
if (o7 + t4) = x03 then (
some ((-2), m_1, m2, ms, mp)) else (
zbd (f_X8_notes m2 ms mp) fun o8 =>
zbd (f_X8_puts ms x01 t5 (x03 - t4)) fun o9 =>
some ((o7 + t4), m_1, o8.1, o9, o8.2)))
def j_X8_tell_57 (m2 : Int32) (ms : Nat → Int32) (mp : Nat → Int32) (x01 : Int32) (x02 : Int32) (x03 : Int32) (m_1 : Int32) (t4 : Int32) (t5 : Int32) : Option (Int32 × Int32 × Int32 × (Nat → Int32) × (Nat → Int32)) :=
if x02 = 0 then (
zbd (f_X8_in x03 950 1050) fun o12 =>
j_X8_tell_101 m2 ms mp x01 x03 m_1 t4 t5 o12) else (
if x02 = (1 : Int32) then (
zbd (f_X8_in x03 995 1005) fun o11 =>
j_X8_tell_101 m2 ms mp x01 x03 m_1 t4 t5 o11) else (
zbd (f_X8_in x03 1 9) fun o10 =>
j_X8_tell_101 m2 ms mp x01 x03 m_1 t4 t5 o10))
def j_X8_tell_36 (m2 : Int32) (ms : Nat → Int32) (mp : Nat → Int32) (x01 : Int32) (x02 : Int32) (x03 : Int32) (m_1 : Int32) (t4 : Int32) : Option (Int32 × Int32 × Int32 × (Nat → Int32) × (Nat → Int32)) :=
if x02 = 0 then (
j_X8_tell_57 m2 ms mp x01 x02 x03 m_1 t4 5) else (
if x02 = (1 : Int32) then (
j_X8_tell_57 m2 ms mp x01 x02 x03 m_1 t4 7) else (
j_X8_tell_57 m2 ms mp x01 x02 x03 m_1 t4 3))
def f_X8_tell (m2 : Int32) (ms : Nat → Int32) (mp : Nat → Int32) (x01 : Int32) (x02 : Int32) (x03 : Int32) : Option (Int32 × Int32 × Int32 × (Nat → Int32) × (Nat → Int32)) :=
zlet 0 fun m_1 =>
zbd (f_X8_isStage ms x01) fun o2 =>
if o2 = 0 then (
some ((-1), m_1, m2, ms, mp)) else (
zbd (f_X8_in x02 0 2) fun o3 =>
if o3 = 0 then (
some ((-1), m_1, m2, ms, mp)) else (
if (2 : Int32) ≤ x02 then (
j_X8_tell_36 m2 ms mp x01 x02 x03 m_1 0) else (
j_X8_tell_36 m2 ms mp x01 x02 x03 m_1 1000)))
set_option maxHeartbeats 4000000 in
set_option maxRecDepth 100000 in
theorem c_X8_tell (l : Launch) (G : va_G) (cy : Nat → ClassId) (st : Nat → Nat) (a : Nat → Nat) (m0 : Int32) (m1 : Int32) (m2 : Int32) (m3 : Int32) (m4 : Int32) (m5 : Int32) (m6 : Int32) (m7 : Int32) (m8 : Int32) (m9 : Int32) (mb : Nat → Int32) (ms : Nat → Int32) (md : Nat → Int32) (mp : Nat → Int32) (mf : Nat → Int32) (mi : Nat → Int32) (mo : Nat → Int32) (mw : Nat → Int32) (mn : Nat → Int32) (mk : Nat → Int32) (mt : Nat → Int64) (mq : Nat → Int32) (mz : Nat → Int32) (me : Nat → Int32) (x01 : Int32) (x02 : Int32) (x03 : Int32) (o : Int32 × Int32 × Int32 × (Nat → Int32) × (Nat → Int32)) (hF : f_X8_tell m2 ms mp x01 x02 x03 = some o) : zMi l yX8_tell wsX8_tell (zR 3) G cy st [.ref (a 0), .int x01, .int x02, .int x03] (wMo cy a m0 m1 m2 m3 m4 m5 m6 m7 m8 m9 mb ms md mp mf mi mo mw mn mk mt mq mz me) (wMo cy a o.2.1 m1 o.2.2.1 m3 m4 m5 m6 m7 m8 m9 mb o.2.2.2.1 md o.2.2.2.2 mf mi mo mw mn mk mt mq mz me) o.1 := by
  refine zM_of (cc := cX8_tell) (maxL := 8) (ret := (some .int)) (Qc := fun A => zQi G cy A (wMo cy a o.2.1 m1 o.2.2.1 m3 m4 m5 m6 m7 m8 m9 mb o.2.2.2.1 md o.2.2.2.2 mf mi mo mw mn mk mt mq mz me) o.1) (by decide) rfl (Nat.le_of_ble_eq_true rfl) ?_
  intro p e s m below meth c A ls hx hb hml hr hlocks hown hts hK hSE hA hP hD hS hl
  have hown : s.vm.findClass RX8 = some m.cls := hown
  have hl : lv_has ls 8 [(0, .ref (a 0)), (1, .int x01), (2, .int x02), (3, .int x03)] := hl
  have k59 := hts (.fieldLink RX8 59 "TapCascadeModel" "thrown" "I") (by decide +kernel)
  have iX8 : ∀ w ∈ wsX80, w ∈ wsX8_tell := fun w h => List.mem_cons_of_mem _ (List.mem_append_right _ h)
  unfold f_X8_tell at hF
  refine lv_aload_n hx hb dX8_tell_0 rfl (lv_at hl 0 rfl) ?_
  refine lv_iconst (v := 0) hx hb dX8_tell_1 (by decide) ?_
  refine z_puti (ci := 8) (C := RX8) (T := TX8) (N := 24) (fs := (zMo a m0 m1 m2 m3 m4 m5 m6 m7 m8 m9)) (x := 0) (wf := (fun y => (wMo cy a y m1 m2 m3 m4 m5 m6 m7 m8 m9 mb ms md mp mf mi mo mw mn mk mt mq mz me))) hx hb hts iX8 tyX8 tyX8_ok nmX8 hown hK hP hD hS _ 0 (wMo_foc0_0 cy a m0 m1 m2 m3 m4 m5 m6 m7 m8 m9 mb ms md mp mf mi mo mw mn mk mt mq mz me 0) rfl (by decide) k59 (fun _ h9 => h9) rfl (by decide +kernel) (Nat.le_of_ble_eq_true rfl) hF dX8_tell_2 (fun m_1 hF H locs hP hD hS => ?_)
  refine lv_aload_n hx hb dX8_tell_5 rfl (lv_at hl 0 rfl) ?_
  refine lv_iload_n hx hb dX8_tell_6 rfl (lv_at hl 1 rfl) ?_
  refine z_cVi (b := a 0) (As := [.int x01]) (rest := []) (wc := (wMo cy a m_1 m1 m2 m3 m4 m5 m6 m7 m8 m9 mb ms md mp mf mi mo mw mn mk mt mq mz me)) (wcf := fun o' => (wMo cy a m_1 m1 m2 m3 m4 m5 m6 m7 m8 m9 mb ms md mp mf mi mo mw mn mk mt mq mz me)) (wf := fun o' => (wMo cy a m_1 m1 m2 m3 m4 m5 m6 m7 m8 m9 mb ms md mp mf mi mo mw mn mk mt mq mz me)) (rf := fun o' => o') hF (fun o' hz => c_X8_isStage l G cy st a m_1 m1 m2 m3 m4 m5 m6 m7 m8 m9 mb ms md mp mf mi mo mw mn mk mt mq mz me x01 o' hz) (fun o' => zCut_all) ⟨hx, hb, hml, hown, hts⟩ (cwV 1 hts gX8_tell_X8_isStage rfl rfl rfl (by decide +kernel) ⟨by decide, by decide⟩) (ci := 8) (q0 := 0) rfl (wMo_at0 cy a m_1 m1 m2 m3 m4 m5 m6 m7 m8 m9 mb ms md mp mf mi mo mw mn mk mt mq mz me) hK hSE hA hP hD hS rfl hl.1 rfl (Nat.le_of_ble_eq_true rfl) dX8_tell_7 ⟨Nat.le_refl _, Nat.le_refl _⟩ (fun o2 hF H locs hP hD hS => ?_)
  refine zf_eq (tgt := 22) hx hb hF dX8_tell_10 (by decide) (fun hF => ?_) (fun hF => ?_)
  · refine lv_iconst (v := (-1)) hx hb dX8_tell_22 (by decide) ?_
    refine z_iret (o := o) (o1 := ((-1), m_1, m2, ms, mp)) (v := (-1)) (wf := (fun o => (wMo cy a o.2.1 m1 o.2.2.1 m3 m4 m5 m6 m7 m8 m9 mb o.2.2.2.1 md o.2.2.2.2 mf mi mo mw mn mk mt mq mz me))) (rf := fun o => o.1) hx hb hr hlocks hK ?_ ?_ hS ?_ rfl dX8_tell_23
    · exact hP
    · exact hD
    · exact hF
  · refine lv_iload_n hx hb dX8_tell_13 rfl (lv_at hl 2 rfl) ?_
    refine lv_iconst (v := 0) hx hb dX8_tell_14 (by decide) ?_
    refine lv_iconst (v := 2) hx hb dX8_tell_15 (by decide) ?_
    refine z_cSi (As := [.int x02, .int 0, .int 2]) (rest := []) (wc := ([] : va_W)) (wcf := fun o' => ([] : va_W)) (wf := fun o' => (wMo cy a m_1 m1 m2 m3 m4 m5 m6 m7 m8 m9 mb ms md mp mf mi mo mw mn mk mt mq mz me)) (rf := fun o' => o') hF (fun o' hz => c_X8_in l G cy st x02 0 2 o' hz) (fun o' => zCut_nil) ⟨hx, hb, hml, hown, hts⟩ (va_cwS 3 hts gX8_tell_X8_in rfl rfl rfl (by decide +kernel) ⟨by decide, by decide⟩) hK hSE hA hP hD hS rfl hl.1 rfl (Nat.le_of_ble_eq_true rfl) dX8_tell_16 ⟨Nat.le_refl _, Nat.le_refl _⟩ (fun o3 hF H locs hP hD hS => ?_)
    refine zf_ne (tgt := 24) hx hb hF dX8_tell_19 (by decide) (fun hF => ?_) (fun hF => ?_)
    · refine lv_iload_n hx hb dX8_tell_24 rfl (lv_at hl 2 rfl) ?_
      refine lv_iconst (v := 2) hx hb dX8_tell_25 (by decide) ?_
      have J36 : ∀ (t4 : Int32) (H : Heap) (locs : List Loc) (ls : Array Slot), va_P G vwCl (wMo cy a m_1 m1 m2 m3 m4 m5 m6 m7 m8 m9 mb ms md mp mf mi mo mw mn mk mt mq mz me) H → va_D A (wMo cy a m_1 m1 m2 m3 m4 m5 m6 m7 m8 m9 mb ms md mp mf mi mo mw mn mk mt mq mz me) → va_S A s.heap H locs → lv_has ls 8 [(0, .ref (a 0)), (1, .int x01), (2, .int x02), (3, .int x03)] → j_X8_tell_36 m2 ms mp x01 x02 x03 m_1 t4 = some o → W p l e (zR 3) s m ([.ref (a 0), .int x01, .int x02, .int x03] : List Value).toArray below meth c H locs 0 0 (MQ below (zQi G cy A (wMo cy a o.2.1 m1 o.2.2.1 m3 m4 m5 m6 m7 m8 m9 mb o.2.2.2.1 md o.2.2.2.2 mf mi mo mw mn mk mt mq mz me) o.1) ([.ref (a 0), .int x01, .int x02, .int x03] : List Value).toArray s 0 0 A) (F0 m 36 ls [.int t4]) := by
        intro t4 H locs ls hP hD hS hl hF
        unfold j_X8_tell_36 at hF
        refine lv_istore (lv' := [(4, .int t4), (0, .ref (a 0)), (1, .int x01), (2, .int x02), (3, .int x03)]) hx hb dX8_tell_36 hl (by decide) rfl (fun ls hl => ?_)
        refine lv_iload_n hx hb dX8_tell_38 rfl (lv_at hl 3 rfl) ?_
        have J57 : ∀ (t5 : Int32) (H : Heap) (locs : List Loc) (ls : Array Slot), va_P G vwCl (wMo cy a m_1 m1 m2 m3 m4 m5 m6 m7 m8 m9 mb ms md mp mf mi mo mw mn mk mt mq mz me) H → va_D A (wMo cy a m_1 m1 m2 m3 m4 m5 m6 m7 m8 m9 mb ms md mp mf mi mo mw mn mk mt mq mz me) → va_S A s.heap H locs → lv_has ls 8 [(0, .ref (a 0)), (1, .int x01), (2, .int x02), (3, .int x03), (4, .int t4)] → j_X8_tell_57 m2 ms mp x01 x02 x03 m_1 t4 t5 = some o → W p l e (zR 3) s m ([.ref (a 0), .int x01, .int x02, .int x03] : List Value).toArray below meth c H locs 0 0 (MQ below (zQi G cy A (wMo cy a o.2.1 m1 o.2.2.1 m3 m4 m5 m6 m7 m8 m9 mb o.2.2.2.1 md o.2.2.2.2 mf mi mo mw mn mk mt mq mz me) o.1) ([.ref (a 0), .int x01, .int x02, .int x03] : List Value).toArray s 0 0 A) (F0 m 57 ls [.int t5]) := by
          intro t5 H locs ls hP hD hS hl hF
          unfold j_X8_tell_57 at hF
          refine lv_istore (lv' := [(5, .int t5), (0, .ref (a 0)), (1, .int x01), (2, .int x02), (3, .int x03), (4, .int t4)]) hx hb dX8_tell_57 hl (by decide) rfl (fun ls hl => ?_)
          refine lv_iload_n hx hb dX8_tell_59 rfl (lv_at hl 3 rfl) ?_
          have J101 : ∀ (t6 : Int32) (H : Heap) (locs : List Loc) (ls : Array Slot), va_P G vwCl (wMo cy a m_1 m1 m2 m3 m4 m5 m6 m7 m8 m9 mb ms md mp mf mi mo mw mn mk mt mq mz me) H → va_D A (wMo cy a m_1 m1 m2 m3 m4 m5 m6 m7 m8 m9 mb ms md mp mf mi mo mw mn mk mt mq mz me) → va_S A s.heap H locs → lv_has ls 8 [(0, .ref (a 0)), (1, .int x01), (3, .int x03), (4, .int t4), (5, .int t5)] → j_X8_tell_101 m2 ms mp x01 x03 m_1 t4 t5 t6 = some o → W p l e (zR 3) s m ([.ref (a 0), .int x01, .int x02, .int x03] : List Value).toArray below meth c H locs 0 0 (MQ below (zQi G cy A (wMo cy a o.2.1 m1 o.2.2.1 m3 m4 m5 m6 m7 m8 m9 mb o.2.2.2.1 md o.2.2.2.2 mf mi mo mw mn mk mt mq mz me) o.1) ([.ref (a 0), .int x01, .int x02, .int x03] : List Value).toArray s 0 0 A) (F0 m 101 ls [.int t6]) := by
            intro t6 H locs ls hP hD hS hl hF
            unfold j_X8_tell_101 at hF
            refine lv_istore (lv' := [(6, .int t6), (0, .ref (a 0)), (1, .int x01), (3, .int x03), (4, .int t4), (5, .int t5)]) hx hb dX8_tell_101 hl (by decide) rfl (fun ls hl => ?_)
            refine lv_iload hx hb dX8_tell_103 (lv_at hl 0 rfl) ?_
            refine zf_ne (tgt := 110) hx hb hF dX8_tell_105 (by decide) (fun hF => ?_) (fun hF => ?_)
            · refine lv_aload_n hx hb dX8_tell_110 rfl (lv_at hl 1 rfl) ?_
              refine lv_iload_n hx hb dX8_tell_111 rfl (lv_at hl 2 rfl) ?_
              refine lv_iload hx hb dX8_tell_112 (lv_at hl 5 rfl) ?_
              refine z_cVi (b := a 0) (As := [.int x01, .int t5]) (rest := []) (wc := (wMo cy a m_1 m1 m2 m3 m4 m5 m6 m7 m8 m9 mb ms md mp mf mi mo mw mn mk mt mq mz me)) (wcf := fun o' => (wMo cy a m_1 m1 m2 m3 m4 m5 m6 m7 m8 m9 mb ms md mp mf mi mo mw mn mk mt mq mz me)) (wf := fun o' => (wMo cy a m_1 m1 m2 m3 m4 m5 m6 m7 m8 m9 mb ms md mp mf mi mo mw mn mk mt mq mz me)) (rf := fun o' => o') hF (fun o' hz => c_X8_of l G cy st a m_1 m1 m2 m3 m4 m5 m6 m7 m8 m9 mb ms md mp mf mi mo mw mn mk mt mq mz me x01 t5 o' hz) (fun o' => zCut_all) ⟨hx, hb, hml, hown, hts⟩ (cwV 2 hts gX8_tell_X8_of rfl rfl rfl (by decide +kernel) ⟨by decide, by decide⟩) (ci := 8) (q0 := 0) rfl (wMo_at0 cy a m_1 m1 m2 m3 m4 m5 m6 m7 m8 m9 mb ms md mp mf mi mo mw mn mk mt mq mz me) hK hSE hA hP hD hS rfl hl.1 rfl (Nat.le_of_ble_eq_true rfl) dX8_tell_114 ⟨Nat.le_refl _, Nat.le_refl _⟩ (fun o7 hF H locs hP hD hS => ?_)
              refine lv_istore (lv' := [(7, .int o7), (6, .int t6), (0, .ref (a 0)), (1, .int x01), (3, .int x03), (4, .int t4), (5, .int t5)]) hx hb dX8_tell_117 hl (by decide) rfl (fun ls hl => ?_)
              refine lv_iload hx hb dX8_tell_119 (lv_at hl 0 rfl) ?_
              refine lv_iload hx hb dX8_tell_121 (lv_at hl 5 rfl) ?_
              refine lv_iadd hx hb dX8_tell_123 ?_
              refine lv_iload_n hx hb dX8_tell_124 rfl (lv_at hl 4 rfl) ?_
              refine zi_ne (tgt := 131) hx hb hF dX8_tell_125 (by decide) (fun hF => ?_) (fun hF => ?_)
              · refine lv_aload_n hx hb dX8_tell_131 rfl (lv_at hl 2 rfl) ?_
                refine z_cVv (b := a 0) (As := []) (rest := []) (wc := (wMo cy a m_1 m1 m2 m3 m4 m5 m6 m7 m8 m9 mb ms md mp mf mi mo mw mn mk mt mq mz me)) (wcf := fun o' => (wMo cy a m_1 m1 o'.1 m3 m4 m5 m6 m7 m8 m9 mb ms md o'.2 mf mi mo mw mn mk mt mq mz me)) (wf := fun o' => (wMo cy a m_1 m1 o'.1 m3 m4 m5 m6 m7 m8 m9 mb ms md o'.2 mf mi mo mw mn mk mt mq mz me)) hF (fun o' hz => c_X8_notes l G cy st a m_1 m1 m2 m3 m4 m5 m6 m7 m8 m9 mb ms md mp mf mi mo mw mn mk mt mq mz me o' hz) (fun o' => zCut_all) ⟨hx, hb, hml, hown, hts⟩ (cwV 0 hts gX8_tell_X8_notes rfl rfl rfl (by decide +kernel) ⟨by decide, by decide⟩) (ci := 8) (q0 := 0) rfl (wMo_at0 cy a m_1 m1 m2 m3 m4 m5 m6 m7 m8 m9 mb ms md mp mf mi mo mw mn mk mt mq mz me) hK hSE hA hP hD hS rfl hl.1 rfl (Nat.le_of_ble_eq_true rfl) dX8_tell_132 ⟨Nat.le_refl _, Nat.le_refl _⟩ (fun o8 hF H locs hP hD hS => ?_)
                refine lv_aload_n hx hb dX8_tell_135 rfl (lv_at hl 2 rfl) ?_
                refine lv_iload_n hx hb dX8_tell_136 rfl (lv_at hl 3 rfl) ?_
                refine lv_iload hx hb dX8_tell_137 (lv_at hl 6 rfl) ?_
                refine lv_iload_n hx hb dX8_tell_139 rfl (lv_at hl 4 rfl) ?_
                refine lv_iload hx hb dX8_tell_140 (lv_at hl 5 rfl) ?_
                refine lv_isub hx hb dX8_tell_142 ?_
                refine z_cVv (b := a 0) (As := [.int x01, .int t5, .int (x03 - t4)]) (rest := []) (wc := (wMo cy a m_1 m1 o8.1 m3 m4 m5 m6 m7 m8 m9 mb ms md o8.2 mf mi mo mw mn mk mt mq mz me)) (wcf := fun o' => (wMo cy a m_1 m1 o8.1 m3 m4 m5 m6 m7 m8 m9 mb o' md o8.2 mf mi mo mw mn mk mt mq mz me)) (wf := fun o' => (wMo cy a m_1 m1 o8.1 m3 m4 m5 m6 m7 m8 m9 mb o' md o8.2 mf mi mo mw mn mk mt mq mz me)) hF (fun o' hz => c_X8_puts l G cy st a m_1 m1 o8.1 m3 m4 m5 m6 m7 m8 m9 mb ms md o8.2 mf mi mo mw mn mk mt mq mz me x01 t5 (x03 - t4) o' hz) (fun o' => zCut_all) ⟨hx, hb, hml, hown, hts⟩ (cwV 3 hts gX8_tell_X8_puts rfl rfl rfl (by decide +kernel) ⟨by decide, by decide⟩) (ci := 8) (q0 := 0) rfl (wMo_at0 cy a m_1 m1 o8.1 m3 m4 m5 m6 m7 m8 m9 mb ms md o8.2 mf mi mo mw mn mk mt mq mz me) hK hSE hA hP hD hS rfl hl.1 rfl (Nat.le_of_ble_eq_true rfl) dX8_tell_143 ⟨Nat.le_refl _, Nat.le_refl _⟩ (fun o9 hF H locs hP hD hS => ?_)
                refine lv_iload hx hb dX8_tell_146 (lv_at hl 0 rfl) ?_
                refine lv_iload hx hb dX8_tell_148 (lv_at hl 5 rfl) ?_
                refine lv_iadd hx hb dX8_tell_150 ?_
                refine z_iret (o := o) (o1 := ((o7 + t4), m_1, o8.1, o9, o8.2)) (v := (o7 + t4)) (wf := (fun o => (wMo cy a o.2.1 m1 o.2.2.1 m3 m4 m5 m6 m7 m8 m9 mb o.2.2.2.1 md o.2.2.2.2 mf mi mo mw mn mk mt mq mz me))) (rf := fun o => o.1) hx hb hr hlocks hK ?_ ?_ hS ?_ rfl dX8_tell_151
                · exact hP
                · exact hD
                · exact hF
              · refine lv_bipush (v := (-2)) hx hb dX8_tell_128 (by decide) ?_
                refine z_iret (o := o) (o1 := ((-2), m_1, m2, ms, mp)) (v := (-2)) (wf := (fun o => (wMo cy a o.2.1 m1 o.2.2.1 m3 m4 m5 m6 m7 m8 m9 mb o.2.2.2.1 md o.2.2.2.2 mf mi mo mw mn mk mt mq mz me))) (rf := fun o => o.1) hx hb hr hlocks hK ?_ ?_ hS ?_ rfl dX8_tell_130
                · exact hP
                · exact hD
                · exact hF
            · refine lv_iconst (v := (-1)) hx hb dX8_tell_108 (by decide) ?_
              refine z_iret (o := o) (o1 := ((-1), m_1, m2, ms, mp)) (v := (-1)) (wf := (fun o => (wMo cy a o.2.1 m1 o.2.2.1 m3 m4 m5 m6 m7 m8 m9 mb o.2.2.2.1 md o.2.2.2.2 mf mi mo mw mn mk mt mq mz me))) (rf := fun o => o.1) hx hb hr hlocks hK ?_ ?_ hS ?_ rfl dX8_tell_109
              · exact hP
              · exact hD
              · exact hF
          refine zf_ne (tgt := 76) hx hb hF dX8_tell_60 (by decide) (fun hF => ?_) (fun hF => ?_)
          · refine lv_iload_n hx hb dX8_tell_76 rfl (lv_at hl 3 rfl) ?_
            refine lv_iconst (v := 1) hx hb dX8_tell_77 (by decide) ?_
            refine zi_ne (tgt := 94) hx hb hF dX8_tell_78 (by decide) (fun hF => ?_) (fun hF => ?_)
            · refine lv_iload_n hx hb dX8_tell_94 rfl (lv_at hl 4 rfl) ?_
              refine lv_iconst (v := 1) hx hb dX8_tell_95 (by decide) ?_
              refine lv_bipush (v := 9) hx hb dX8_tell_96 (by decide) ?_
              refine z_cSi (As := [.int x03, .int 1, .int 9]) (rest := []) (wc := ([] : va_W)) (wcf := fun o' => ([] : va_W)) (wf := fun o' => (wMo cy a m_1 m1 m2 m3 m4 m5 m6 m7 m8 m9 mb ms md mp mf mi mo mw mn mk mt mq mz me)) (rf := fun o' => o') hF (fun o' hz => c_X8_in l G cy st x03 1 9 o' hz) (fun o' => zCut_nil) ⟨hx, hb, hml, hown, hts⟩ (va_cwS 3 hts gX8_tell_X8_in rfl rfl rfl (by decide +kernel) ⟨by decide, by decide⟩) hK hSE hA hP hD hS rfl hl.1 rfl (Nat.le_of_ble_eq_true rfl) dX8_tell_98 ⟨Nat.le_refl _, Nat.le_refl _⟩ (fun o10 hF H locs hP hD hS => ?_)
              exact J101 o10 _ _ ls hP hD hS (lv_sub hl [1, 2, 4, 5, 0] rfl) hF
            · refine lv_iload_n hx hb dX8_tell_81 rfl (lv_at hl 4 rfl) ?_
              refine lv_sipush (v := 995) hx hb dX8_tell_82 (by decide) ?_
              refine lv_sipush (v := 1005) hx hb dX8_tell_85 (by decide) ?_
              refine z_cSi (As := [.int x03, .int 995, .int 1005]) (rest := []) (wc := ([] : va_W)) (wcf := fun o' => ([] : va_W)) (wf := fun o' => (wMo cy a m_1 m1 m2 m3 m4 m5 m6 m7 m8 m9 mb ms md mp mf mi mo mw mn mk mt mq mz me)) (rf := fun o' => o') hF (fun o' hz => c_X8_in l G cy st x03 995 1005 o' hz) (fun o' => zCut_nil) ⟨hx, hb, hml, hown, hts⟩ (va_cwS 3 hts gX8_tell_X8_in rfl rfl rfl (by decide +kernel) ⟨by decide, by decide⟩) hK hSE hA hP hD hS rfl hl.1 rfl (Nat.le_of_ble_eq_true rfl) dX8_tell_88 ⟨Nat.le_refl _, Nat.le_refl _⟩ (fun o11 hF H locs hP hD hS => ?_)
              refine lv_goto (tgt := 101) hx hb dX8_tell_91 (by decide) ?_
              exact J101 o11 _ _ ls hP hD hS (lv_sub hl [1, 2, 4, 5, 0] rfl) hF
          · refine lv_iload_n hx hb dX8_tell_63 rfl (lv_at hl 4 rfl) ?_
            refine lv_sipush (v := 950) hx hb dX8_tell_64 (by decide) ?_
            refine lv_sipush (v := 1050) hx hb dX8_tell_67 (by decide) ?_
            refine z_cSi (As := [.int x03, .int 950, .int 1050]) (rest := []) (wc := ([] : va_W)) (wcf := fun o' => ([] : va_W)) (wf := fun o' => (wMo cy a m_1 m1 m2 m3 m4 m5 m6 m7 m8 m9 mb ms md mp mf mi mo mw mn mk mt mq mz me)) (rf := fun o' => o') hF (fun o' hz => c_X8_in l G cy st x03 950 1050 o' hz) (fun o' => zCut_nil) ⟨hx, hb, hml, hown, hts⟩ (va_cwS 3 hts gX8_tell_X8_in rfl rfl rfl (by decide +kernel) ⟨by decide, by decide⟩) hK hSE hA hP hD hS rfl hl.1 rfl (Nat.le_of_ble_eq_true rfl) dX8_tell_70 ⟨Nat.le_refl _, Nat.le_refl _⟩ (fun o12 hF H locs hP hD hS => ?_)
            refine lv_goto (tgt := 101) hx hb dX8_tell_73 (by decide) ?_
            exact J101 o12 _ _ ls hP hD hS (lv_sub hl [1, 2, 4, 5, 0] rfl) hF
        refine zf_ne (tgt := 46) hx hb hF dX8_tell_39 (by decide) (fun hF => ?_) (fun hF => ?_)
        · refine lv_iload_n hx hb dX8_tell_46 rfl (lv_at hl 3 rfl) ?_
          refine lv_iconst (v := 1) hx hb dX8_tell_47 (by decide) ?_
          refine zi_ne (tgt := 56) hx hb hF dX8_tell_48 (by decide) (fun hF => ?_) (fun hF => ?_)
          · refine lv_iconst (v := 3) hx hb dX8_tell_56 (by decide) ?_
            exact J57 3 _ _ ls hP hD hS (lv_sub hl [1, 2, 3, 4, 0] rfl) hF
          · refine lv_bipush (v := 7) hx hb dX8_tell_51 (by decide) ?_
            refine lv_goto (tgt := 57) hx hb dX8_tell_53 (by decide) ?_
            exact J57 7 _ _ ls hP hD hS (lv_sub hl [1, 2, 3, 4, 0] rfl) hF
        · refine lv_iconst (v := 5) hx hb dX8_tell_42 (by decide) ?_
          refine lv_goto (tgt := 57) hx hb dX8_tell_43 (by decide) ?_
          exact J57 5 _ _ ls hP hD hS (lv_sub hl [1, 2, 3, 4, 0] rfl) hF
      refine zi_ge (tgt := 35) hx hb hF dX8_tell_26 (by decide) (fun hF => ?_) (fun hF => ?_)
      · refine lv_iconst (v := 0) hx hb dX8_tell_35 (by decide) ?_
        exact J36 0 _ _ ls hP hD hS (lv_sub hl [0, 1, 2, 3] rfl) hF
      · refine lv_sipush (v := 1000) hx hb dX8_tell_29 (by decide) ?_
        refine lv_goto (tgt := 36) hx hb dX8_tell_32 (by decide) ?_
        exact J36 1000 _ _ ls hP hD hS (lv_sub hl [0, 1, 2, 3] rfl) hF
    · refine lv_iconst (v := (-1)) hx hb dX8_tell_22 (by decide) ?_
      refine z_iret (o := o) (o1 := ((-1), m_1, m2, ms, mp)) (v := (-1)) (wf := (fun o => (wMo cy a o.2.1 m1 o.2.2.1 m3 m4 m5 m6 m7 m8 m9 mb o.2.2.2.1 md o.2.2.2.2 mf mi mo mw mn mk mt mq mz me))) (rf := fun o => o.1) hx hb hr hlocks hK ?_ ?_ hS ?_ rfl dX8_tell_23
      · exact hP
      · exact hD
      · exact hF
def b_X8_stuck_4 (ms : Nat → Int32) (rc4 : (Int32 × Int32) → Option (Int32)) (s4 : Int32 × Int32) : Option (Int32) :=
zg (zin 0 114) (
if (ms (zn 0)) ≤ s4.2 then (
some s4.1) else (
zbd (f_X8_of ms s4.2 8) fun o1 =>
zlet (s4.1 + o1) fun x2 =>
zlet (s4.2 + 1) fun x3 =>
rc4 (x2, x3)))
def f_X8_stuck (ms : Nat → Int32) : Option (Int32) :=
zloop (b_X8_stuck_4 ms) 1000 (0, 0)
set_option maxHeartbeats 4000000 in
set_option maxRecDepth 100000 in
theorem c_X8_stuck (l : Launch) (G : va_G) (cy : Nat → ClassId) (st : Nat → Nat) (a : Nat → Nat) (m0 : Int32) (m1 : Int32) (m2 : Int32) (m3 : Int32) (m4 : Int32) (m5 : Int32) (m6 : Int32) (m7 : Int32) (m8 : Int32) (m9 : Int32) (mb : Nat → Int32) (ms : Nat → Int32) (md : Nat → Int32) (mp : Nat → Int32) (mf : Nat → Int32) (mi : Nat → Int32) (mo : Nat → Int32) (mw : Nat → Int32) (mn : Nat → Int32) (mk : Nat → Int32) (mt : Nat → Int64) (mq : Nat → Int32) (mz : Nat → Int32) (me : Nat → Int32) (o : Int32) (hF : f_X8_stuck ms = some o) : zMi l yX8_stuck wsX8_stuck (zR 2) G cy st [.ref (a 0)] (wMo cy a m0 m1 m2 m3 m4 m5 m6 m7 m8 m9 mb ms md mp mf mi mo mw mn mk mt mq mz me) (wMo cy a m0 m1 m2 m3 m4 m5 m6 m7 m8 m9 mb ms md mp mf mi mo mw mn mk mt mq mz me) o := by
  refine zM_of (cc := cX8_stuck) (maxL := 3) (ret := (some .int)) (Qc := fun A => zQi G cy A (wMo cy a m0 m1 m2 m3 m4 m5 m6 m7 m8 m9 mb ms md mp mf mi mo mw mn mk mt mq mz me) o) (by decide) rfl (Nat.le_of_ble_eq_true rfl) ?_
  intro p e s m below meth c A ls hx hb hml hr hlocks hown hts hK hSE hA hP hD hS hl
  have hown : s.vm.findClass RX8 = some m.cls := hown
  have hl : lv_has ls 3 [(0, .ref (a 0))] := hl
  have k13 := hts (.fieldLink RX8 13 "TapCascadeModel" "s" "[I") (by decide +kernel)
  have iX8 : ∀ w ∈ wsX80, w ∈ wsX8_stuck := fun w h => List.mem_cons_of_mem _ (List.mem_append_right _ h)
  unfold f_X8_stuck at hF
  refine lv_iconst (v := 0) hx hb dX8_stuck_0 (by decide) ?_
  refine lv_istore_n (lv' := [(1, .int 0), (0, .ref (a 0))]) hx hb dX8_stuck_1 rfl hl (by decide) rfl (fun ls hl => ?_)
  refine lv_iconst (v := 0) hx hb dX8_stuck_2 (by decide) ?_
  refine lv_istore_n (lv' := [(2, .int 0), (1, .int 0), (0, .ref (a 0))]) hx hb dX8_stuck_3 rfl hl (by decide) rfl (fun ls hl => ?_)
  have L4 : ∀ (n : Nat) (s4 : Int32 × Int32) (H : Heap) (locs : List Loc) (ls : Array Slot), va_P G vwCl (wMo cy a m0 m1 m2 m3 m4 m5 m6 m7 m8 m9 mb ms md mp mf mi mo mw mn mk mt mq mz me) H → va_D A (wMo cy a m0 m1 m2 m3 m4 m5 m6 m7 m8 m9 mb ms md mp mf mi mo mw mn mk mt mq mz me) → va_S A s.heap H locs → lv_has ls 3 [(0, .ref (a 0)), (1, .int s4.1), (2, .int s4.2)] → zloop (b_X8_stuck_4 ms) n s4 = some o → W p l e (zR 2) s m ([.ref (a 0)] : List Value).toArray below meth c H locs 0 0 (MQ below (zQi G cy A (wMo cy a m0 m1 m2 m3 m4 m5 m6 m7 m8 m9 mb ms md mp mf mi mo mw mn mk mt mq mz me) o) ([.ref (a 0)] : List Value).toArray s 0 0 A) (F0 m 4 ls []) := by
    intro n
    induction n with
    | zero => exact fun s4 H locs ls _ _ _ _ hF => (zloop_0 hF).elim
    | succ n ih4 =>
      intro s4 H locs ls hP hD hS hl hF
      have hF : b_X8_stuck_4 ms (zloop (b_X8_stuck_4 ms) n) s4 = some o := hF
      generalize zloop (b_X8_stuck_4 ms) n = rc4 at ih4 hF
      unfold b_X8_stuck_4 at hF
      refine lv_iload_n hx hb dX8_stuck_4 rfl (lv_at hl 2 rfl) ?_
      refine lv_aload_n hx hb dX8_stuck_5 rfl (lv_at hl 0 rfl) ?_
      refine va_get (ci := 8) (C := RX8) (T := TX8) (N := 24) (fs := (zMo a m0 m1 m2 m3 m4 m5 m6 m7 m8 m9)) (v := .ref (a 2)) hx hb hts iX8 hown hK hP _ (wMo_at0 cy a m0 m1 m2 m3 m4 m5 m6 m7 m8 m9 mb ms md mp mf mi mo mw mn mk mt mq mz me) rfl 3 (by decide) k13 (fun _ h9 => h9) rfl dX8_stuck_6 ?_
      refine lv_iconst (v := 0) hx hb dX8_stuck_9 (by decide) ?_
      refine z_iald (n := 114) (f := ms) hx hb hK hP _ 1 (wMo_at2 cy a m0 m1 m2 m3 m4 m5 m6 m7 m8 m9 mb ms md mp mf mi mo mw mn mk mt mq mz me) rfl hF dX8_stuck_10 (fun hF => ?_)
      refine zi_ge (tgt := 30) hx hb hF dX8_stuck_11 (by decide) (fun hF => ?_) (fun hF => ?_)
      · refine lv_iload_n hx hb dX8_stuck_30 rfl (lv_at hl 1 rfl) ?_
        refine z_iret (o := o) (o1 := s4.1) (v := s4.1) (wf := (fun o => (wMo cy a m0 m1 m2 m3 m4 m5 m6 m7 m8 m9 mb ms md mp mf mi mo mw mn mk mt mq mz me))) (rf := fun o => o) hx hb hr hlocks hK ?_ ?_ hS ?_ rfl dX8_stuck_31
        · exact hP
        · exact hD
        · exact hF
      · refine lv_iload_n hx hb dX8_stuck_14 rfl (lv_at hl 1 rfl) ?_
        refine lv_aload_n hx hb dX8_stuck_15 rfl (lv_at hl 0 rfl) ?_
        refine lv_iload_n hx hb dX8_stuck_16 rfl (lv_at hl 2 rfl) ?_
        refine lv_bipush (v := 8) hx hb dX8_stuck_17 (by decide) ?_
        refine z_cVi (b := a 0) (As := [.int s4.2, .int 8]) (rest := [.int s4.1]) (wc := (wMo cy a m0 m1 m2 m3 m4 m5 m6 m7 m8 m9 mb ms md mp mf mi mo mw mn mk mt mq mz me)) (wcf := fun o' => (wMo cy a m0 m1 m2 m3 m4 m5 m6 m7 m8 m9 mb ms md mp mf mi mo mw mn mk mt mq mz me)) (wf := fun o' => (wMo cy a m0 m1 m2 m3 m4 m5 m6 m7 m8 m9 mb ms md mp mf mi mo mw mn mk mt mq mz me)) (rf := fun o' => o') hF (fun o' hz => c_X8_of l G cy st a m0 m1 m2 m3 m4 m5 m6 m7 m8 m9 mb ms md mp mf mi mo mw mn mk mt mq mz me s4.2 8 o' hz) (fun o' => zCut_all) ⟨hx, hb, hml, hown, hts⟩ (cwV 2 hts gX8_stuck_X8_of rfl rfl rfl (by decide +kernel) ⟨by decide, by decide⟩) (ci := 8) (q0 := 0) rfl (wMo_at0 cy a m0 m1 m2 m3 m4 m5 m6 m7 m8 m9 mb ms md mp mf mi mo mw mn mk mt mq mz me) hK hSE hA hP hD hS rfl hl.1 rfl (Nat.le_of_ble_eq_true rfl) dX8_stuck_19 ⟨Nat.le_refl _, Nat.le_refl _⟩ (fun o1 hF H locs hP hD hS => ?_)
        refine lv_iadd hx hb dX8_stuck_22 ?_
        refine z_leti hF (fun x2 hF => ?_)
        refine lv_istore_n (lv' := [(1, .int x2), (0, .ref (a 0)), (2, .int s4.2)]) hx hb dX8_stuck_23 rfl hl (by decide) rfl (fun ls hl => ?_)
        refine z_name hF (fun x3 ex3 hF => ?_)
        refine lv_iinc (v := x3) (lv' := [(2, .int x3), (1, .int x2), (0, .ref (a 0))]) hx hb dX8_stuck_24 hl (k := 2) rfl (by rw [ex3]; rfl) (by decide) rfl (fun ls hl => ?_)
        refine lv_goto (tgt := 4) hx hb dX8_stuck_27 (by decide) ?_
        exact ih4 (x2, x3) _ _ ls hP hD hS (lv_sub hl [2, 1, 0] rfl) hF
  exact L4 1000 (0, 0) _ _ ls hP hD hS (lv_sub hl [2, 1, 0] rfl) hF
def f_X8_stick (m2 : Int32) (ms : Nat → Int32) (mp : Nat → Int32) (x01 : Int32) (x02 : Int32) : Option (Int32 × Int32 × Int32 × (Nat → Int32) × (Nat → Int32)) :=
zlet 0 fun m_1 =>
zbd (f_X8_isStage ms x01) fun o2 =>
if o2 = 0 then (
some ((-1), m_1, m2, ms, mp)) else (
zbd (f_X8_in x02 0 1) fun o3 =>
if o3 = 0 then (
some ((-1), m_1, m2, ms, mp)) else (
zbd (f_X8_of ms x01 8) fun o4 =>
if o4 = x02 then (
some ((-2), m_1, m2, ms, mp)) else (
zbd (f_X8_notes m2 ms mp) fun o5 =>
zbd (f_X8_puts ms x01 8 x02) fun o6 =>
zbd (f_X8_stuck o6) fun o7 =>
some (o7, m_1, o5.1, o6, o5.2))))
set_option maxHeartbeats 4000000 in
set_option maxRecDepth 100000 in
theorem c_X8_stick (l : Launch) (G : va_G) (cy : Nat → ClassId) (st : Nat → Nat) (a : Nat → Nat) (m0 : Int32) (m1 : Int32) (m2 : Int32) (m3 : Int32) (m4 : Int32) (m5 : Int32) (m6 : Int32) (m7 : Int32) (m8 : Int32) (m9 : Int32) (mb : Nat → Int32) (ms : Nat → Int32) (md : Nat → Int32) (mp : Nat → Int32) (mf : Nat → Int32) (mi : Nat → Int32) (mo : Nat → Int32) (mw : Nat → Int32) (mn : Nat → Int32) (mk : Nat → Int32) (mt : Nat → Int64) (mq : Nat → Int32) (mz : Nat → Int32) (me : Nat → Int32) (x01 : Int32) (x02 : Int32) (o : Int32 × Int32 × Int32 × (Nat → Int32) × (Nat → Int32)) (hF : f_X8_stick m2 ms mp x01 x02 = some o) : zMi l yX8_stick wsX8_stick (zR 3) G cy st [.ref (a 0), .int x01, .int x02] (wMo cy a m0 m1 m2 m3 m4 m5 m6 m7 m8 m9 mb ms md mp mf mi mo mw mn mk mt mq mz me) (wMo cy a o.2.1 m1 o.2.2.1 m3 m4 m5 m6 m7 m8 m9 mb o.2.2.2.1 md o.2.2.2.2 mf mi mo mw mn mk mt mq mz me) o.1 := by
  refine zM_of (cc := cX8_stick) (maxL := 3) (ret := (some .int)) (Qc := fun A => zQi G cy A (wMo cy a o.2.1 m1 o.2.2.1 m3 m4 m5 m6 m7 m8 m9 mb o.2.2.2.1 md o.2.2.2.2 mf mi mo mw mn mk mt mq mz me) o.1) (by decide) rfl (Nat.le_of_ble_eq_true rfl) ?_
  intro p e s m below meth c A ls hx hb hml hr hlocks hown hts hK hSE hA hP hD hS hl
  have hown : s.vm.findClass RX8 = some m.cls := hown
  have hl : lv_has ls 3 [(0, .ref (a 0)), (1, .int x01), (2, .int x02)] := hl
  have k59 := hts (.fieldLink RX8 59 "TapCascadeModel" "thrown" "I") (by decide +kernel)
  have iX8 : ∀ w ∈ wsX80, w ∈ wsX8_stick := fun w h => List.mem_cons_of_mem _ (List.mem_append_right _ h)
  unfold f_X8_stick at hF
  refine lv_aload_n hx hb dX8_stick_0 rfl (lv_at hl 0 rfl) ?_
  refine lv_iconst (v := 0) hx hb dX8_stick_1 (by decide) ?_
  refine z_puti (ci := 8) (C := RX8) (T := TX8) (N := 24) (fs := (zMo a m0 m1 m2 m3 m4 m5 m6 m7 m8 m9)) (x := 0) (wf := (fun y => (wMo cy a y m1 m2 m3 m4 m5 m6 m7 m8 m9 mb ms md mp mf mi mo mw mn mk mt mq mz me))) hx hb hts iX8 tyX8 tyX8_ok nmX8 hown hK hP hD hS _ 0 (wMo_foc0_0 cy a m0 m1 m2 m3 m4 m5 m6 m7 m8 m9 mb ms md mp mf mi mo mw mn mk mt mq mz me 0) rfl (by decide) k59 (fun _ h9 => h9) rfl (by decide +kernel) (Nat.le_of_ble_eq_true rfl) hF dX8_stick_2 (fun m_1 hF H locs hP hD hS => ?_)
  refine lv_aload_n hx hb dX8_stick_5 rfl (lv_at hl 0 rfl) ?_
  refine lv_iload_n hx hb dX8_stick_6 rfl (lv_at hl 1 rfl) ?_
  refine z_cVi (b := a 0) (As := [.int x01]) (rest := []) (wc := (wMo cy a m_1 m1 m2 m3 m4 m5 m6 m7 m8 m9 mb ms md mp mf mi mo mw mn mk mt mq mz me)) (wcf := fun o' => (wMo cy a m_1 m1 m2 m3 m4 m5 m6 m7 m8 m9 mb ms md mp mf mi mo mw mn mk mt mq mz me)) (wf := fun o' => (wMo cy a m_1 m1 m2 m3 m4 m5 m6 m7 m8 m9 mb ms md mp mf mi mo mw mn mk mt mq mz me)) (rf := fun o' => o') hF (fun o' hz => c_X8_isStage l G cy st a m_1 m1 m2 m3 m4 m5 m6 m7 m8 m9 mb ms md mp mf mi mo mw mn mk mt mq mz me x01 o' hz) (fun o' => zCut_all) ⟨hx, hb, hml, hown, hts⟩ (cwV 1 hts gX8_stick_X8_isStage rfl rfl rfl (by decide +kernel) ⟨by decide, by decide⟩) (ci := 8) (q0 := 0) rfl (wMo_at0 cy a m_1 m1 m2 m3 m4 m5 m6 m7 m8 m9 mb ms md mp mf mi mo mw mn mk mt mq mz me) hK hSE hA hP hD hS rfl hl.1 rfl (Nat.le_of_ble_eq_true rfl) dX8_stick_7 ⟨Nat.le_refl _, Nat.le_refl _⟩ (fun o2 hF H locs hP hD hS => ?_)
  refine zf_eq (tgt := 22) hx hb hF dX8_stick_10 (by decide) (fun hF => ?_) (fun hF => ?_)
  · refine lv_iconst (v := (-1)) hx hb dX8_stick_22 (by decide) ?_
    refine z_iret (o := o) (o1 := ((-1), m_1, m2, ms, mp)) (v := (-1)) (wf := (fun o => (wMo cy a o.2.1 m1 o.2.2.1 m3 m4 m5 m6 m7 m8 m9 mb o.2.2.2.1 md o.2.2.2.2 mf mi mo mw mn mk mt mq mz me))) (rf := fun o => o.1) hx hb hr hlocks hK ?_ ?_ hS ?_ rfl dX8_stick_23
    · exact hP
    · exact hD
    · exact hF
  · refine lv_iload_n hx hb dX8_stick_13 rfl (lv_at hl 2 rfl) ?_
    refine lv_iconst (v := 0) hx hb dX8_stick_14 (by decide) ?_
    refine lv_iconst (v := 1) hx hb dX8_stick_15 (by decide) ?_
    refine z_cSi (As := [.int x02, .int 0, .int 1]) (rest := []) (wc := ([] : va_W)) (wcf := fun o' => ([] : va_W)) (wf := fun o' => (wMo cy a m_1 m1 m2 m3 m4 m5 m6 m7 m8 m9 mb ms md mp mf mi mo mw mn mk mt mq mz me)) (rf := fun o' => o') hF (fun o' hz => c_X8_in l G cy st x02 0 1 o' hz) (fun o' => zCut_nil) ⟨hx, hb, hml, hown, hts⟩ (va_cwS 3 hts gX8_stick_X8_in rfl rfl rfl (by decide +kernel) ⟨by decide, by decide⟩) hK hSE hA hP hD hS rfl hl.1 rfl (Nat.le_of_ble_eq_true rfl) dX8_stick_16 ⟨Nat.le_refl _, Nat.le_refl _⟩ (fun o3 hF H locs hP hD hS => ?_)
    refine zf_ne (tgt := 24) hx hb hF dX8_stick_19 (by decide) (fun hF => ?_) (fun hF => ?_)
    · refine lv_aload_n hx hb dX8_stick_24 rfl (lv_at hl 0 rfl) ?_
      refine lv_iload_n hx hb dX8_stick_25 rfl (lv_at hl 1 rfl) ?_
      refine lv_bipush (v := 8) hx hb dX8_stick_26 (by decide) ?_
      refine z_cVi (b := a 0) (As := [.int x01, .int 8]) (rest := []) (wc := (wMo cy a m_1 m1 m2 m3 m4 m5 m6 m7 m8 m9 mb ms md mp mf mi mo mw mn mk mt mq mz me)) (wcf := fun o' => (wMo cy a m_1 m1 m2 m3 m4 m5 m6 m7 m8 m9 mb ms md mp mf mi mo mw mn mk mt mq mz me)) (wf := fun o' => (wMo cy a m_1 m1 m2 m3 m4 m5 m6 m7 m8 m9 mb ms md mp mf mi mo mw mn mk mt mq mz me)) (rf := fun o' => o') hF (fun o' hz => c_X8_of l G cy st a m_1 m1 m2 m3 m4 m5 m6 m7 m8 m9 mb ms md mp mf mi mo mw mn mk mt mq mz me x01 8 o' hz) (fun o' => zCut_all) ⟨hx, hb, hml, hown, hts⟩ (cwV 2 hts gX8_stick_X8_of rfl rfl rfl (by decide +kernel) ⟨by decide, by decide⟩) (ci := 8) (q0 := 0) rfl (wMo_at0 cy a m_1 m1 m2 m3 m4 m5 m6 m7 m8 m9 mb ms md mp mf mi mo mw mn mk mt mq mz me) hK hSE hA hP hD hS rfl hl.1 rfl (Nat.le_of_ble_eq_true rfl) dX8_stick_28 ⟨Nat.le_refl _, Nat.le_refl _⟩ (fun o4 hF H locs hP hD hS => ?_)
      refine lv_iload_n hx hb dX8_stick_31 rfl (lv_at hl 2 rfl) ?_
      refine zi_ne (tgt := 38) hx hb hF dX8_stick_32 (by decide) (fun hF => ?_) (fun hF => ?_)
      · refine lv_aload_n hx hb dX8_stick_38 rfl (lv_at hl 0 rfl) ?_
        refine z_cVv (b := a 0) (As := []) (rest := []) (wc := (wMo cy a m_1 m1 m2 m3 m4 m5 m6 m7 m8 m9 mb ms md mp mf mi mo mw mn mk mt mq mz me)) (wcf := fun o' => (wMo cy a m_1 m1 o'.1 m3 m4 m5 m6 m7 m8 m9 mb ms md o'.2 mf mi mo mw mn mk mt mq mz me)) (wf := fun o' => (wMo cy a m_1 m1 o'.1 m3 m4 m5 m6 m7 m8 m9 mb ms md o'.2 mf mi mo mw mn mk mt mq mz me)) hF (fun o' hz => c_X8_notes l G cy st a m_1 m1 m2 m3 m4 m5 m6 m7 m8 m9 mb ms md mp mf mi mo mw mn mk mt mq mz me o' hz) (fun o' => zCut_all) ⟨hx, hb, hml, hown, hts⟩ (cwV 0 hts gX8_stick_X8_notes rfl rfl rfl (by decide +kernel) ⟨by decide, by decide⟩) (ci := 8) (q0 := 0) rfl (wMo_at0 cy a m_1 m1 m2 m3 m4 m5 m6 m7 m8 m9 mb ms md mp mf mi mo mw mn mk mt mq mz me) hK hSE hA hP hD hS rfl hl.1 rfl (Nat.le_of_ble_eq_true rfl) dX8_stick_39 ⟨Nat.le_refl _, Nat.le_refl _⟩ (fun o5 hF H locs hP hD hS => ?_)
        refine lv_aload_n hx hb dX8_stick_42 rfl (lv_at hl 0 rfl) ?_
        refine lv_iload_n hx hb dX8_stick_43 rfl (lv_at hl 1 rfl) ?_
        refine lv_bipush (v := 8) hx hb dX8_stick_44 (by decide) ?_
        refine lv_iload_n hx hb dX8_stick_46 rfl (lv_at hl 2 rfl) ?_
        refine z_cVv (b := a 0) (As := [.int x01, .int 8, .int x02]) (rest := []) (wc := (wMo cy a m_1 m1 o5.1 m3 m4 m5 m6 m7 m8 m9 mb ms md o5.2 mf mi mo mw mn mk mt mq mz me)) (wcf := fun o' => (wMo cy a m_1 m1 o5.1 m3 m4 m5 m6 m7 m8 m9 mb o' md o5.2 mf mi mo mw mn mk mt mq mz me)) (wf := fun o' => (wMo cy a m_1 m1 o5.1 m3 m4 m5 m6 m7 m8 m9 mb o' md o5.2 mf mi mo mw mn mk mt mq mz me)) hF (fun o' hz => c_X8_puts l G cy st a m_1 m1 o5.1 m3 m4 m5 m6 m7 m8 m9 mb ms md o5.2 mf mi mo mw mn mk mt mq mz me x01 8 x02 o' hz) (fun o' => zCut_all) ⟨hx, hb, hml, hown, hts⟩ (cwV 3 hts gX8_stick_X8_puts rfl rfl rfl (by decide +kernel) ⟨by decide, by decide⟩) (ci := 8) (q0 := 0) rfl (wMo_at0 cy a m_1 m1 o5.1 m3 m4 m5 m6 m7 m8 m9 mb ms md o5.2 mf mi mo mw mn mk mt mq mz me) hK hSE hA hP hD hS rfl hl.1 rfl (Nat.le_of_ble_eq_true rfl) dX8_stick_47 ⟨Nat.le_refl _, Nat.le_refl _⟩ (fun o6 hF H locs hP hD hS => ?_)
        refine lv_aload_n hx hb dX8_stick_50 rfl (lv_at hl 0 rfl) ?_
        refine z_cVi (b := a 0) (As := []) (rest := []) (wc := (wMo cy a m_1 m1 o5.1 m3 m4 m5 m6 m7 m8 m9 mb o6 md o5.2 mf mi mo mw mn mk mt mq mz me)) (wcf := fun o' => (wMo cy a m_1 m1 o5.1 m3 m4 m5 m6 m7 m8 m9 mb o6 md o5.2 mf mi mo mw mn mk mt mq mz me)) (wf := fun o' => (wMo cy a m_1 m1 o5.1 m3 m4 m5 m6 m7 m8 m9 mb o6 md o5.2 mf mi mo mw mn mk mt mq mz me)) (rf := fun o' => o') hF (fun o' hz => c_X8_stuck l G cy st a m_1 m1 o5.1 m3 m4 m5 m6 m7 m8 m9 mb o6 md o5.2 mf mi mo mw mn mk mt mq mz me o' hz) (fun o' => zCut_all) ⟨hx, hb, hml, hown, hts⟩ (cwV 0 hts gX8_stick_X8_stuck rfl rfl rfl (by decide +kernel) ⟨by decide, by decide⟩) (ci := 8) (q0 := 0) rfl (wMo_at0 cy a m_1 m1 o5.1 m3 m4 m5 m6 m7 m8 m9 mb o6 md o5.2 mf mi mo mw mn mk mt mq mz me) hK hSE hA hP hD hS rfl hl.1 rfl (Nat.le_of_ble_eq_true rfl) dX8_stick_51 ⟨Nat.le_refl _, Nat.le_refl _⟩ (fun o7 hF H locs hP hD hS => ?_)
        refine z_iret (o := o) (o1 := (o7, m_1, o5.1, o6, o5.2)) (v := o7) (wf := (fun o => (wMo cy a o.2.1 m1 o.2.2.1 m3 m4 m5 m6 m7 m8 m9 mb o.2.2.2.1 md o.2.2.2.2 mf mi mo mw mn mk mt mq mz me))) (rf := fun o => o.1) hx hb hr hlocks hK ?_ ?_ hS ?_ rfl dX8_stick_54
        · exact hP
        · exact hD
        · exact hF
      · refine lv_bipush (v := (-2)) hx hb dX8_stick_35 (by decide) ?_
        refine z_iret (o := o) (o1 := ((-2), m_1, m2, ms, mp)) (v := (-2)) (wf := (fun o => (wMo cy a o.2.1 m1 o.2.2.1 m3 m4 m5 m6 m7 m8 m9 mb o.2.2.2.1 md o.2.2.2.2 mf mi mo mw mn mk mt mq mz me))) (rf := fun o => o.1) hx hb hr hlocks hK ?_ ?_ hS ?_ rfl dX8_stick_37
        · exact hP
        · exact hD
        · exact hF
    · refine lv_iconst (v := (-1)) hx hb dX8_stick_22 (by decide) ?_
      refine z_iret (o := o) (o1 := ((-1), m_1, m2, ms, mp)) (v := (-1)) (wf := (fun o => (wMo cy a o.2.1 m1 o.2.2.1 m3 m4 m5 m6 m7 m8 m9 mb o.2.2.2.1 md o.2.2.2.2 mf mi mo mw mn mk mt mq mz me))) (rf := fun o => o.1) hx hb hr hlocks hK ?_ ?_ hS ?_ rfl dX8_stick_23
      · exact hP
      · exact hD
      · exact hF
def j_X8_tick_62 (m_1 : Int32) (o3 : Int32 × (Nat → Int32)) (x4 : Int32) (ms_5 : Nat → Int32) (mf_6 : Nat → Int32) (mi_7 : Nat → Int32) (mo_8 : Nat → Int32) (mw_9 : Nat → Int32) (mn_10 : Nat → Int32) (mk_11 : Nat → Int32) : Option (Int32 × Int32 × Int32 × (Nat → Int32) × (Nat → Int32) × (Nat → Int32) × (Nat → Int32) × (Nat → Int32) × (Nat → Int32) × (Nat → Int32) × (Nat → Int32)) :=
zg (zin 3 114) (
some (((ms_5 (zn 3)) - x4), m_1, o3.1, ms_5, o3.2, mf_6, mi_7, mo_8, mw_9, mn_10, mk_11))
def b_X8_tick_47 (x01 : Int32) (m_1 : Int32) (o3 : Int32 × (Nat → Int32)) (x4 : Int32) (rc47 : (Int32 × (Nat → Int32) × (Nat → Int32) × (Nat → Int32) × (Nat → Int32) × (Nat → Int32) × (Nat → Int32) × (Nat → Int32)) → Option (Int32 × Int32 × Int32 × (Nat → Int32) × (Nat → Int32) × (Nat → Int32) × (Nat → Int32) × (Nat → Int32) × (Nat → Int32) × (Nat → Int32) × (Nat → Int32))) (s47 : Int32 × (Nat → Int32) × (Nat → Int32) × (Nat → Int32) × (Nat → Int32) × (Nat → Int32) × (Nat → Int32) × (Nat → Int32)) : Option (Int32 × Int32 × Int32 × (Nat → Int32) × (Nat → Int32) × (Nat → Int32) × (Nat → Int32) × (Nat → Int32) × (Nat → Int32) × (Nat → Int32) × (Nat → Int32)) :=
if x01 ≤ s47.1 then (
j_X8_tick_62 m_1 o3 x4 s47.2.1 s47.2.2.1 s47.2.2.2.1 s47.2.2.2.2.1 s47.2.2.2.2.2.1 s47.2.2.2.2.2.2.1 s47.2.2.2.2.2.2.2) else (
zbd (f_X8_ticks s47.2.1 s47.2.2.1 s47.2.2.2.1 s47.2.2.2.2.1 s47.2.2.2.2.2.1 s47.2.2.2.2.2.2.1 s47.2.2.2.2.2.2.2) fun o12 =>
zlet (o12.1) fun ms_13 =>
zlet (o12.2.1) fun mf_14 =>
zlet (o12.2.2.1) fun mi_15 =>
zlet (o12.2.2.2.1) fun mo_16 =>
zlet (o12.2.2.2.2.1) fun mw_17 =>
zlet (o12.2.2.2.2.2.1) fun mn_18 =>
zlet (o12.2.2.2.2.2.2) fun mk_19 =>
zlet (s47.1 + 1) fun x20 =>
rc47 (x20, ms_13, mf_14, mi_15, mo_16, mw_17, mn_18, mk_19))
def f_X8_tick (m2 : Int32) (ms : Nat → Int32) (mp : Nat → Int32) (mf : Nat → Int32) (mi : Nat → Int32) (mo : Nat → Int32) (mw : Nat → Int32) (mn : Nat → Int32) (mk : Nat → Int32) (x01 : Int32) : Option (Int32 × Int32 × Int32 × (Nat → Int32) × (Nat → Int32) × (Nat → Int32) × (Nat → Int32) × (Nat → Int32) × (Nat → Int32) × (Nat → Int32) × (Nat → Int32)) :=
zlet 0 fun m_1 =>
zbd (f_X8_in x01 1 50) fun o2 =>
if o2 = 0 then (
some ((-1), m_1, m2, ms, mp, mf, mi, mo, mw, mn, mk)) else (
zg (zin 2 114) (
if ((ms (zn 2)) + x01) ≤ (9999 : Int32) then (
zbd (f_X8_notes m2 ms mp) fun o3 =>
zg (zin 3 114) (
zlet (ms (zn 3)) fun x4 =>
zloop (b_X8_tick_47 x01 m_1 o3 x4) 1000 (0, ms, mf, mi, mo, mw, mn, mk))) else (
some ((-2), m_1, m2, ms, mp, mf, mi, mo, mw, mn, mk))))
set_option maxHeartbeats 4000000 in
set_option maxRecDepth 100000 in
theorem c_X8_tick (l : Launch) (G : va_G) (cy : Nat → ClassId) (st : Nat → Nat) (a : Nat → Nat) (m0 : Int32) (m1 : Int32) (m2 : Int32) (m3 : Int32) (m4 : Int32) (m5 : Int32) (m6 : Int32) (m7 : Int32) (m8 : Int32) (m9 : Int32) (mb : Nat → Int32) (ms : Nat → Int32) (md : Nat → Int32) (mp : Nat → Int32) (mf : Nat → Int32) (mi : Nat → Int32) (mo : Nat → Int32) (mw : Nat → Int32) (mn : Nat → Int32) (mk : Nat → Int32) (mt : Nat → Int64) (mq : Nat → Int32) (mz : Nat → Int32) (me : Nat → Int32) (x01 : Int32) (o : Int32 × Int32 × Int32 × (Nat → Int32) × (Nat → Int32) × (Nat → Int32) × (Nat → Int32) × (Nat → Int32) × (Nat → Int32) × (Nat → Int32) × (Nat → Int32)) (hF : f_X8_tick m2 ms mp mf mi mo mw mn mk x01 = some o) : zMi l yX8_tick wsX8_tick (zR 5) G cy st [.ref (a 0), .int x01] (wMo cy a m0 m1 m2 m3 m4 m5 m6 m7 m8 m9 mb ms md mp mf mi mo mw mn mk mt mq mz me) (wMo cy a o.2.1 m1 o.2.2.1 m3 m4 m5 m6 m7 m8 m9 mb o.2.2.2.1 md o.2.2.2.2.1 o.2.2.2.2.2.1 o.2.2.2.2.2.2.1 o.2.2.2.2.2.2.2.1 o.2.2.2.2.2.2.2.2.1 o.2.2.2.2.2.2.2.2.2.1 o.2.2.2.2.2.2.2.2.2.2 mt mq mz me) o.1 := by
  refine zM_of (cc := cX8_tick) (maxL := 4) (ret := (some .int)) (Qc := fun A => zQi G cy A (wMo cy a o.2.1 m1 o.2.2.1 m3 m4 m5 m6 m7 m8 m9 mb o.2.2.2.1 md o.2.2.2.2.1 o.2.2.2.2.2.1 o.2.2.2.2.2.2.1 o.2.2.2.2.2.2.2.1 o.2.2.2.2.2.2.2.2.1 o.2.2.2.2.2.2.2.2.2.1 o.2.2.2.2.2.2.2.2.2.2 mt mq mz me) o.1) (by decide) rfl (Nat.le_of_ble_eq_true rfl) ?_
  intro p e s m below meth c A ls hx hb hml hr hlocks hown hts hK hSE hA hP hD hS hl
  have hown : s.vm.findClass RX8 = some m.cls := hown
  have hl : lv_has ls 4 [(0, .ref (a 0)), (1, .int x01)] := hl
  have k59 := hts (.fieldLink RX8 59 "TapCascadeModel" "thrown" "I") (by decide +kernel)
  have iX8 : ∀ w ∈ wsX80, w ∈ wsX8_tick := fun w h => List.mem_cons_of_mem _ (List.mem_append_right _ h)
  have k13 := hts (.fieldLink RX8 13 "TapCascadeModel" "s" "[I") (by decide +kernel)
  unfold f_X8_tick at hF
  refine lv_aload_n hx hb dX8_tick_0 rfl (lv_at hl 0 rfl) ?_
  refine lv_iconst (v := 0) hx hb dX8_tick_1 (by decide) ?_
  refine z_puti (ci := 8) (C := RX8) (T := TX8) (N := 24) (fs := (zMo a m0 m1 m2 m3 m4 m5 m6 m7 m8 m9)) (x := 0) (wf := (fun y => (wMo cy a y m1 m2 m3 m4 m5 m6 m7 m8 m9 mb ms md mp mf mi mo mw mn mk mt mq mz me))) hx hb hts iX8 tyX8 tyX8_ok nmX8 hown hK hP hD hS _ 0 (wMo_foc0_0 cy a m0 m1 m2 m3 m4 m5 m6 m7 m8 m9 mb ms md mp mf mi mo mw mn mk mt mq mz me 0) rfl (by decide) k59 (fun _ h9 => h9) rfl (by decide +kernel) (Nat.le_of_ble_eq_true rfl) hF dX8_tick_2 (fun m_1 hF H locs hP hD hS => ?_)
  refine lv_iload_n hx hb dX8_tick_5 rfl (lv_at hl 1 rfl) ?_
  refine lv_iconst (v := 1) hx hb dX8_tick_6 (by decide) ?_
  refine lv_bipush (v := 50) hx hb dX8_tick_7 (by decide) ?_
  refine z_cSi (As := [.int x01, .int 1, .int 50]) (rest := []) (wc := ([] : va_W)) (wcf := fun o' => ([] : va_W)) (wf := fun o' => (wMo cy a m_1 m1 m2 m3 m4 m5 m6 m7 m8 m9 mb ms md mp mf mi mo mw mn mk mt mq mz me)) (rf := fun o' => o') hF (fun o' hz => c_X8_in l G cy st x01 1 50 o' hz) (fun o' => zCut_nil) ⟨hx, hb, hml, hown, hts⟩ (va_cwS 3 hts gX8_tick_X8_in rfl rfl rfl (by decide +kernel) ⟨by decide, by decide⟩) hK hSE hA hP hD hS rfl hl.1 rfl (Nat.le_of_ble_eq_true rfl) dX8_tick_9 ⟨Nat.le_refl _, Nat.le_refl _⟩ (fun o2 hF H locs hP hD hS => ?_)
  refine zf_ne (tgt := 17) hx hb hF dX8_tick_12 (by decide) (fun hF => ?_) (fun hF => ?_)
  · refine lv_aload_n hx hb dX8_tick_17 rfl (lv_at hl 0 rfl) ?_
    refine va_get (ci := 8) (C := RX8) (T := TX8) (N := 24) (fs := (zMo a m_1 m1 m2 m3 m4 m5 m6 m7 m8 m9)) (v := .ref (a 2)) hx hb hts iX8 hown hK hP _ (wMo_at0 cy a m_1 m1 m2 m3 m4 m5 m6 m7 m8 m9 mb ms md mp mf mi mo mw mn mk mt mq mz me) rfl 3 (by decide) k13 (fun _ h9 => h9) rfl dX8_tick_18 ?_
    refine lv_iconst (v := 2) hx hb dX8_tick_21 (by decide) ?_
    refine z_iald (n := 114) (f := ms) hx hb hK hP _ 1 (wMo_at2 cy a m_1 m1 m2 m3 m4 m5 m6 m7 m8 m9 mb ms md mp mf mi mo mw mn mk mt mq mz me) rfl hF dX8_tick_22 (fun hF => ?_)
    refine lv_iload_n hx hb dX8_tick_23 rfl (lv_at hl 1 rfl) ?_
    refine lv_iadd hx hb dX8_tick_24 ?_
    refine lv_sipush (v := 9999) hx hb dX8_tick_25 (by decide) ?_
    refine zi_le (tgt := 34) hx hb hF dX8_tick_28 (by decide) (fun hF => ?_) (fun hF => ?_)
    · refine lv_aload_n hx hb dX8_tick_34 rfl (lv_at hl 0 rfl) ?_
      refine z_cVv (b := a 0) (As := []) (rest := []) (wc := (wMo cy a m_1 m1 m2 m3 m4 m5 m6 m7 m8 m9 mb ms md mp mf mi mo mw mn mk mt mq mz me)) (wcf := fun o' => (wMo cy a m_1 m1 o'.1 m3 m4 m5 m6 m7 m8 m9 mb ms md o'.2 mf mi mo mw mn mk mt mq mz me)) (wf := fun o' => (wMo cy a m_1 m1 o'.1 m3 m4 m5 m6 m7 m8 m9 mb ms md o'.2 mf mi mo mw mn mk mt mq mz me)) hF (fun o' hz => c_X8_notes l G cy st a m_1 m1 m2 m3 m4 m5 m6 m7 m8 m9 mb ms md mp mf mi mo mw mn mk mt mq mz me o' hz) (fun o' => zCut_all) ⟨hx, hb, hml, hown, hts⟩ (cwV 0 hts gX8_tick_X8_notes rfl rfl rfl (by decide +kernel) ⟨by decide, by decide⟩) (ci := 8) (q0 := 0) rfl (wMo_at0 cy a m_1 m1 m2 m3 m4 m5 m6 m7 m8 m9 mb ms md mp mf mi mo mw mn mk mt mq mz me) hK hSE hA hP hD hS rfl hl.1 rfl (Nat.le_of_ble_eq_true rfl) dX8_tick_35 ⟨Nat.le_refl _, Nat.le_refl _⟩ (fun o3 hF H locs hP hD hS => ?_)
      refine lv_aload_n hx hb dX8_tick_38 rfl (lv_at hl 0 rfl) ?_
      refine va_get (ci := 8) (C := RX8) (T := TX8) (N := 24) (fs := (zMo a m_1 m1 o3.1 m3 m4 m5 m6 m7 m8 m9)) (v := .ref (a 2)) hx hb hts iX8 hown hK hP _ (wMo_at0 cy a m_1 m1 o3.1 m3 m4 m5 m6 m7 m8 m9 mb ms md o3.2 mf mi mo mw mn mk mt mq mz me) rfl 3 (by decide) k13 (fun _ h9 => h9) rfl dX8_tick_39 ?_
      refine lv_iconst (v := 3) hx hb dX8_tick_42 (by decide) ?_
      refine z_iald (n := 114) (f := ms) hx hb hK hP _ 1 (wMo_at2 cy a m_1 m1 o3.1 m3 m4 m5 m6 m7 m8 m9 mb ms md o3.2 mf mi mo mw mn mk mt mq mz me) rfl hF dX8_tick_43 (fun hF => ?_)
      refine z_leti hF (fun x4 hF => ?_)
      refine lv_istore_n (lv' := [(2, .int x4), (0, .ref (a 0)), (1, .int x01)]) hx hb dX8_tick_44 rfl hl (by decide) rfl (fun ls hl => ?_)
      refine lv_iconst (v := 0) hx hb dX8_tick_45 (by decide) ?_
      refine lv_istore_n (lv' := [(3, .int 0), (2, .int x4), (0, .ref (a 0)), (1, .int x01)]) hx hb dX8_tick_46 rfl hl (by decide) rfl (fun ls hl => ?_)
      have J62 : ∀ (ms_5 : Nat → Int32) (mf_6 : Nat → Int32) (mi_7 : Nat → Int32) (mo_8 : Nat → Int32) (mw_9 : Nat → Int32) (mn_10 : Nat → Int32) (mk_11 : Nat → Int32) (H : Heap) (locs : List Loc) (ls : Array Slot), va_P G vwCl (wMo cy a m_1 m1 o3.1 m3 m4 m5 m6 m7 m8 m9 mb ms_5 md o3.2 mf_6 mi_7 mo_8 mw_9 mn_10 mk_11 mt mq mz me) H → va_D A (wMo cy a m_1 m1 o3.1 m3 m4 m5 m6 m7 m8 m9 mb ms_5 md o3.2 mf_6 mi_7 mo_8 mw_9 mn_10 mk_11 mt mq mz me) → va_S A s.heap H locs → lv_has ls 4 [(0, .ref (a 0)), (2, .int x4)] → j_X8_tick_62 m_1 o3 x4 ms_5 mf_6 mi_7 mo_8 mw_9 mn_10 mk_11 = some o → W p l e (zR 5) s m ([.ref (a 0), .int x01] : List Value).toArray below meth c H locs 0 0 (MQ below (zQi G cy A (wMo cy a o.2.1 m1 o.2.2.1 m3 m4 m5 m6 m7 m8 m9 mb o.2.2.2.1 md o.2.2.2.2.1 o.2.2.2.2.2.1 o.2.2.2.2.2.2.1 o.2.2.2.2.2.2.2.1 o.2.2.2.2.2.2.2.2.1 o.2.2.2.2.2.2.2.2.2.1 o.2.2.2.2.2.2.2.2.2.2 mt mq mz me) o.1) ([.ref (a 0), .int x01] : List Value).toArray s 0 0 A) (F0 m 62 ls []) := by
        intro ms_5 mf_6 mi_7 mo_8 mw_9 mn_10 mk_11 H locs ls hP hD hS hl hF
        unfold j_X8_tick_62 at hF
        refine lv_aload_n hx hb dX8_tick_62 rfl (lv_at hl 0 rfl) ?_
        refine va_get (ci := 8) (C := RX8) (T := TX8) (N := 24) (fs := (zMo a m_1 m1 o3.1 m3 m4 m5 m6 m7 m8 m9)) (v := .ref (a 2)) hx hb hts iX8 hown hK hP _ (wMo_at0 cy a m_1 m1 o3.1 m3 m4 m5 m6 m7 m8 m9 mb ms_5 md o3.2 mf_6 mi_7 mo_8 mw_9 mn_10 mk_11 mt mq mz me) rfl 3 (by decide) k13 (fun _ h9 => h9) rfl dX8_tick_63 ?_
        refine lv_iconst (v := 3) hx hb dX8_tick_66 (by decide) ?_
        refine z_iald (n := 114) (f := ms_5) hx hb hK hP _ 1 (wMo_at2 cy a m_1 m1 o3.1 m3 m4 m5 m6 m7 m8 m9 mb ms_5 md o3.2 mf_6 mi_7 mo_8 mw_9 mn_10 mk_11 mt mq mz me) rfl hF dX8_tick_67 (fun hF => ?_)
        refine lv_iload_n hx hb dX8_tick_68 rfl (lv_at hl 1 rfl) ?_
        refine lv_isub hx hb dX8_tick_69 ?_
        refine z_iret (o := o) (o1 := (((ms_5 (zn 3)) - x4), m_1, o3.1, ms_5, o3.2, mf_6, mi_7, mo_8, mw_9, mn_10, mk_11)) (v := ((ms_5 (zn 3)) - x4)) (wf := (fun o => (wMo cy a o.2.1 m1 o.2.2.1 m3 m4 m5 m6 m7 m8 m9 mb o.2.2.2.1 md o.2.2.2.2.1 o.2.2.2.2.2.1 o.2.2.2.2.2.2.1 o.2.2.2.2.2.2.2.1 o.2.2.2.2.2.2.2.2.1 o.2.2.2.2.2.2.2.2.2.1 o.2.2.2.2.2.2.2.2.2.2 mt mq mz me))) (rf := fun o => o.1) hx hb hr hlocks hK ?_ ?_ hS ?_ rfl dX8_tick_70
        · exact hP
        · exact hD
        · exact hF
      have L47 : ∀ (n : Nat) (s47 : Int32 × (Nat → Int32) × (Nat → Int32) × (Nat → Int32) × (Nat → Int32) × (Nat → Int32) × (Nat → Int32) × (Nat → Int32)) (H : Heap) (locs : List Loc) (ls : Array Slot), va_P G vwCl (wMo cy a m_1 m1 o3.1 m3 m4 m5 m6 m7 m8 m9 mb s47.2.1 md o3.2 s47.2.2.1 s47.2.2.2.1 s47.2.2.2.2.1 s47.2.2.2.2.2.1 s47.2.2.2.2.2.2.1 s47.2.2.2.2.2.2.2 mt mq mz me) H → va_D A (wMo cy a m_1 m1 o3.1 m3 m4 m5 m6 m7 m8 m9 mb s47.2.1 md o3.2 s47.2.2.1 s47.2.2.2.1 s47.2.2.2.2.1 s47.2.2.2.2.2.1 s47.2.2.2.2.2.2.1 s47.2.2.2.2.2.2.2 mt mq mz me) → va_S A s.heap H locs → lv_has ls 4 [(0, .ref (a 0)), (1, .int x01), (2, .int x4), (3, .int s47.1)] → zloop (b_X8_tick_47 x01 m_1 o3 x4) n s47 = some o → W p l e (zR 5) s m ([.ref (a 0), .int x01] : List Value).toArray below meth c H locs 0 0 (MQ below (zQi G cy A (wMo cy a o.2.1 m1 o.2.2.1 m3 m4 m5 m6 m7 m8 m9 mb o.2.2.2.1 md o.2.2.2.2.1 o.2.2.2.2.2.1 o.2.2.2.2.2.2.1 o.2.2.2.2.2.2.2.1 o.2.2.2.2.2.2.2.2.1 o.2.2.2.2.2.2.2.2.2.1 o.2.2.2.2.2.2.2.2.2.2 mt mq mz me) o.1) ([.ref (a 0), .int x01] : List Value).toArray s 0 0 A) (F0 m 47 ls []) := by
        intro n
        induction n with
        | zero => exact fun s47 H locs ls _ _ _ _ hF => (zloop_0 hF).elim
        | succ n ih47 =>
          intro s47 H locs ls hP hD hS hl hF
          have hF : b_X8_tick_47 x01 m_1 o3 x4 (zloop (b_X8_tick_47 x01 m_1 o3 x4) n) s47 = some o := hF
          generalize zloop (b_X8_tick_47 x01 m_1 o3 x4) n = rc47 at ih47 hF
          unfold b_X8_tick_47 at hF
          refine lv_iload_n hx hb dX8_tick_47 rfl (lv_at hl 3 rfl) ?_
          refine lv_iload_n hx hb dX8_tick_48 rfl (lv_at hl 1 rfl) ?_
          refine zi_ge (tgt := 62) hx hb hF dX8_tick_49 (by decide) (fun hF => ?_) (fun hF => ?_)
          · exact J62 s47.2.1 s47.2.2.1 s47.2.2.2.1 s47.2.2.2.2.1 s47.2.2.2.2.2.1 s47.2.2.2.2.2.2.1 s47.2.2.2.2.2.2.2 _ _ ls hP hD hS (lv_sub hl [0, 2] rfl) hF
          · refine lv_aload_n hx hb dX8_tick_52 rfl (lv_at hl 0 rfl) ?_
            refine z_cVv (b := a 0) (As := []) (rest := []) (wc := (wMo cy a m_1 m1 o3.1 m3 m4 m5 m6 m7 m8 m9 mb s47.2.1 md o3.2 s47.2.2.1 s47.2.2.2.1 s47.2.2.2.2.1 s47.2.2.2.2.2.1 s47.2.2.2.2.2.2.1 s47.2.2.2.2.2.2.2 mt mq mz me)) (wcf := fun o' => (wMo cy a m_1 m1 o3.1 m3 m4 m5 m6 m7 m8 m9 mb o'.1 md o3.2 o'.2.1 o'.2.2.1 o'.2.2.2.1 o'.2.2.2.2.1 o'.2.2.2.2.2.1 o'.2.2.2.2.2.2 mt mq mz me)) (wf := fun o' => (wMo cy a m_1 m1 o3.1 m3 m4 m5 m6 m7 m8 m9 mb o'.1 md o3.2 o'.2.1 o'.2.2.1 o'.2.2.2.1 o'.2.2.2.2.1 o'.2.2.2.2.2.1 o'.2.2.2.2.2.2 mt mq mz me)) hF (fun o' hz => c_X8_ticks l G cy st a m_1 m1 o3.1 m3 m4 m5 m6 m7 m8 m9 mb s47.2.1 md o3.2 s47.2.2.1 s47.2.2.2.1 s47.2.2.2.2.1 s47.2.2.2.2.2.1 s47.2.2.2.2.2.2.1 s47.2.2.2.2.2.2.2 mt mq mz me o' hz) (fun o' => zCut_all) ⟨hx, hb, hml, hown, hts⟩ (cwV 0 hts gX8_tick_X8_ticks rfl rfl rfl (by decide +kernel) ⟨by decide, by decide⟩) (ci := 8) (q0 := 0) rfl (wMo_at0 cy a m_1 m1 o3.1 m3 m4 m5 m6 m7 m8 m9 mb s47.2.1 md o3.2 s47.2.2.1 s47.2.2.2.1 s47.2.2.2.2.1 s47.2.2.2.2.2.1 s47.2.2.2.2.2.2.1 s47.2.2.2.2.2.2.2 mt mq mz me) hK hSE hA hP hD hS rfl hl.1 rfl (Nat.le_of_ble_eq_true rfl) dX8_tick_53 ⟨Nat.le_refl _, Nat.le_refl _⟩ (fun o12 hF H locs hP hD hS => ?_)
            refine z_nameW (wf := (fun y => (wMo cy a m_1 m1 o3.1 m3 m4 m5 m6 m7 m8 m9 mb y md o3.2 o12.2.1 o12.2.2.1 o12.2.2.2.1 o12.2.2.2.2.1 o12.2.2.2.2.2.1 o12.2.2.2.2.2.2 mt mq mz me))) hF hP hD (fun ms_13 hF hP hD => ?_)
            refine z_nameW (wf := (fun y => (wMo cy a m_1 m1 o3.1 m3 m4 m5 m6 m7 m8 m9 mb ms_13 md o3.2 y o12.2.2.1 o12.2.2.2.1 o12.2.2.2.2.1 o12.2.2.2.2.2.1 o12.2.2.2.2.2.2 mt mq mz me))) hF hP hD (fun mf_14 hF hP hD => ?_)
            refine z_nameW (wf := (fun y => (wMo cy a m_1 m1 o3.1 m3 m4 m5 m6 m7 m8 m9 mb ms_13 md o3.2 mf_14 y o12.2.2.2.1 o12.2.2.2.2.1 o12.2.2.2.2.2.1 o12.2.2.2.2.2.2 mt mq mz me))) hF hP hD (fun mi_15 hF hP hD => ?_)
            refine z_nameW (wf := (fun y => (wMo cy a m_1 m1 o3.1 m3 m4 m5 m6 m7 m8 m9 mb ms_13 md o3.2 mf_14 mi_15 y o12.2.2.2.2.1 o12.2.2.2.2.2.1 o12.2.2.2.2.2.2 mt mq mz me))) hF hP hD (fun mo_16 hF hP hD => ?_)
            refine z_nameW (wf := (fun y => (wMo cy a m_1 m1 o3.1 m3 m4 m5 m6 m7 m8 m9 mb ms_13 md o3.2 mf_14 mi_15 mo_16 y o12.2.2.2.2.2.1 o12.2.2.2.2.2.2 mt mq mz me))) hF hP hD (fun mw_17 hF hP hD => ?_)
            refine z_nameW (wf := (fun y => (wMo cy a m_1 m1 o3.1 m3 m4 m5 m6 m7 m8 m9 mb ms_13 md o3.2 mf_14 mi_15 mo_16 mw_17 y o12.2.2.2.2.2.2 mt mq mz me))) hF hP hD (fun mn_18 hF hP hD => ?_)
            refine z_nameW (wf := (fun y => (wMo cy a m_1 m1 o3.1 m3 m4 m5 m6 m7 m8 m9 mb ms_13 md o3.2 mf_14 mi_15 mo_16 mw_17 mn_18 y mt mq mz me))) hF hP hD (fun mk_19 hF hP hD => ?_)
            refine z_name hF (fun x20 ex20 hF => ?_)
            refine lv_iinc (v := x20) (lv' := [(3, .int x20), (0, .ref (a 0)), (1, .int x01), (2, .int x4)]) hx hb dX8_tick_56 hl (k := 3) rfl (by rw [ex20]; rfl) (by decide) rfl (fun ls hl => ?_)
            refine lv_goto (tgt := 47) hx hb dX8_tick_59 (by decide) ?_
            exact ih47 (x20, ms_13, mf_14, mi_15, mo_16, mw_17, mn_18, mk_19) _ _ ls hP hD hS (lv_sub hl [1, 2, 3, 0] rfl) hF
      exact L47 1000 (0, ms, mf, mi, mo, mw, mn, mk) _ _ ls hP hD hS (lv_sub hl [2, 3, 1, 0] rfl) hF
    · refine lv_bipush (v := (-2)) hx hb dX8_tick_31 (by decide) ?_
      refine z_iret (o := o) (o1 := ((-2), m_1, m2, ms, mp, mf, mi, mo, mw, mn, mk)) (v := (-2)) (wf := (fun o => (wMo cy a o.2.1 m1 o.2.2.1 m3 m4 m5 m6 m7 m8 m9 mb o.2.2.2.1 md o.2.2.2.2.1 o.2.2.2.2.2.1 o.2.2.2.2.2.2.1 o.2.2.2.2.2.2.2.1 o.2.2.2.2.2.2.2.2.1 o.2.2.2.2.2.2.2.2.2.1 o.2.2.2.2.2.2.2.2.2.2 mt mq mz me))) (rf := fun o => o.1) hx hb hr hlocks hK ?_ ?_ hS ?_ rfl dX8_tick_33
      · exact hP
      · exact hD
      · exact hF
  · refine lv_iconst (v := (-1)) hx hb dX8_tick_15 (by decide) ?_
    refine z_iret (o := o) (o1 := ((-1), m_1, m2, ms, mp, mf, mi, mo, mw, mn, mk)) (v := (-1)) (wf := (fun o => (wMo cy a o.2.1 m1 o.2.2.1 m3 m4 m5 m6 m7 m8 m9 mb o.2.2.2.1 md o.2.2.2.2.1 o.2.2.2.2.2.1 o.2.2.2.2.2.2.1 o.2.2.2.2.2.2.2.1 o.2.2.2.2.2.2.2.2.1 o.2.2.2.2.2.2.2.2.2.1 o.2.2.2.2.2.2.2.2.2.2 mt mq mz me))) (rf := fun o => o.1) hx hb hr hlocks hK ?_ ?_ hS ?_ rfl dX8_tick_16
    · exact hP
    · exact hD
    · exact hF
def b_X8_undo_27 (mp : Nat → Int32) (m_1 : Int32) (m_2 : Int32) (rc27 : (Int32 × (Nat → Int32)) → Option (Int32 × Int32 × Int32 × (Nat → Int32))) (s27 : Int32 × (Nat → Int32)) : Option (Int32 × Int32 × Int32 × (Nat → Int32)) :=
if (114 : Int32) ≤ s27.1 then (
some (m_2, m_1, m_2, s27.2)) else (
zg (zin ((114 * m_2) + s27.1) 684) (
zg (zin s27.1 114) (
zlet (upd s27.2 (zn s27.1) (mp (zn ((114 * m_2) + s27.1)))) fun ms_3 =>
zlet (s27.1 + 1) fun x4 =>
rc27 (x4, ms_3))))
def f_X8_undo (m2 : Int32) (ms : Nat → Int32) (mp : Nat → Int32) : Option (Int32 × Int32 × Int32 × (Nat → Int32)) :=
zlet 0 fun m_1 =>
if m2 = 0 then (
some ((-2), m_1, m2, ms)) else (
zlet (m2 - 1) fun m_2 =>
zloop (b_X8_undo_27 mp m_1 m_2) 1000 (0, ms))
set_option maxHeartbeats 4000000 in
set_option maxRecDepth 100000 in
theorem c_X8_undo (l : Launch) (G : va_G) (cy : Nat → ClassId) (st : Nat → Nat) (a : Nat → Nat) (m0 : Int32) (m1 : Int32) (m2 : Int32) (m3 : Int32) (m4 : Int32) (m5 : Int32) (m6 : Int32) (m7 : Int32) (m8 : Int32) (m9 : Int32) (mb : Nat → Int32) (ms : Nat → Int32) (md : Nat → Int32) (mp : Nat → Int32) (mf : Nat → Int32) (mi : Nat → Int32) (mo : Nat → Int32) (mw : Nat → Int32) (mn : Nat → Int32) (mk : Nat → Int32) (mt : Nat → Int64) (mq : Nat → Int32) (mz : Nat → Int32) (me : Nat → Int32) (o : Int32 × Int32 × Int32 × (Nat → Int32)) (hF : f_X8_undo m2 ms mp = some o) : zMi l yX8_undo wsX8_undo (zR 1) G cy st [.ref (a 0)] (wMo cy a m0 m1 m2 m3 m4 m5 m6 m7 m8 m9 mb ms md mp mf mi mo mw mn mk mt mq mz me) (wMo cy a o.2.1 m1 o.2.2.1 m3 m4 m5 m6 m7 m8 m9 mb o.2.2.2 md mp mf mi mo mw mn mk mt mq mz me) o.1 := by
  refine zM_of (cc := cX8_undo) (maxL := 2) (ret := (some .int)) (Qc := fun A => zQi G cy A (wMo cy a o.2.1 m1 o.2.2.1 m3 m4 m5 m6 m7 m8 m9 mb o.2.2.2 md mp mf mi mo mw mn mk mt mq mz me) o.1) (by decide) rfl (Nat.le_of_ble_eq_true rfl) ?_
  intro p e s m below meth c A ls hx hb hml hr hlocks hown hts hK hSE hA hP hD hS hl
  have hown : s.vm.findClass RX8 = some m.cls := hown
  have hl : lv_has ls 2 [(0, .ref (a 0))] := hl
  have k59 := hts (.fieldLink RX8 59 "TapCascadeModel" "thrown" "I") (by decide +kernel)
  have iX8 : ∀ w ∈ wsX80, w ∈ wsX8_undo := fun w h => List.mem_cons_of_mem _ (List.mem_append_right _ h)
  have k103 := hts (.fieldLink RX8 103 "TapCascadeModel" "undos" "I") (by decide +kernel)
  have k13 := hts (.fieldLink RX8 13 "TapCascadeModel" "s" "[I") (by decide +kernel)
  have k20 := hts (.fieldLink RX8 20 "TapCascadeModel" "past" "[I") (by decide +kernel)
  unfold f_X8_undo at hF
  refine lv_aload_n hx hb dX8_undo_0 rfl (lv_at hl 0 rfl) ?_
  refine lv_iconst (v := 0) hx hb dX8_undo_1 (by decide) ?_
  refine z_puti (ci := 8) (C := RX8) (T := TX8) (N := 24) (fs := (zMo a m0 m1 m2 m3 m4 m5 m6 m7 m8 m9)) (x := 0) (wf := (fun y => (wMo cy a y m1 m2 m3 m4 m5 m6 m7 m8 m9 mb ms md mp mf mi mo mw mn mk mt mq mz me))) hx hb hts iX8 tyX8 tyX8_ok nmX8 hown hK hP hD hS _ 0 (wMo_foc0_0 cy a m0 m1 m2 m3 m4 m5 m6 m7 m8 m9 mb ms md mp mf mi mo mw mn mk mt mq mz me 0) rfl (by decide) k59 (fun _ h9 => h9) rfl (by decide +kernel) (Nat.le_of_ble_eq_true rfl) hF dX8_undo_2 (fun m_1 hF H locs hP hD hS => ?_)
  refine lv_aload_n hx hb dX8_undo_5 rfl (lv_at hl 0 rfl) ?_
  refine va_get (ci := 8) (C := RX8) (T := TX8) (N := 24) (fs := (zMo a m_1 m1 m2 m3 m4 m5 m6 m7 m8 m9)) (v := .int m2) hx hb hts iX8 hown hK hP _ (wMo_at0 cy a m_1 m1 m2 m3 m4 m5 m6 m7 m8 m9 mb ms md mp mf mi mo mw mn mk mt mq mz me) rfl 6 (by decide) k103 (fun _ h9 => h9) rfl dX8_undo_6 ?_
  refine zf_ne (tgt := 15) hx hb hF dX8_undo_9 (by decide) (fun hF => ?_) (fun hF => ?_)
  · refine lv_aload_n hx hb dX8_undo_15 rfl (lv_at hl 0 rfl) ?_
    refine lv_dup hx hb dX8_undo_16 rfl ?_
    refine va_get (ci := 8) (C := RX8) (T := TX8) (N := 24) (fs := (zMo a m_1 m1 m2 m3 m4 m5 m6 m7 m8 m9)) (v := .int m2) hx hb hts iX8 hown hK hP _ (wMo_at0 cy a m_1 m1 m2 m3 m4 m5 m6 m7 m8 m9 mb ms md mp mf mi mo mw mn mk mt mq mz me) rfl 6 (by decide) k103 (fun _ h9 => h9) rfl dX8_undo_17 ?_
    refine lv_iconst (v := 1) hx hb dX8_undo_20 (by decide) ?_
    refine lv_isub hx hb dX8_undo_21 ?_
    refine z_puti (ci := 8) (C := RX8) (T := TX8) (N := 24) (fs := (zMo a m_1 m1 m2 m3 m4 m5 m6 m7 m8 m9)) (x := (m2 - 1)) (wf := (fun y => (wMo cy a m_1 m1 y m3 m4 m5 m6 m7 m8 m9 mb ms md mp mf mi mo mw mn mk mt mq mz me))) hx hb hts iX8 tyX8 tyX8_ok nmX8 hown hK hP hD hS _ 6 (wMo_foc0_6 cy a m_1 m1 m2 m3 m4 m5 m6 m7 m8 m9 mb ms md mp mf mi mo mw mn mk mt mq mz me (m2 - 1)) rfl (by decide) k103 (fun _ h9 => h9) rfl (by decide +kernel) (Nat.le_of_ble_eq_true rfl) hF dX8_undo_22 (fun m_2 hF H locs hP hD hS => ?_)
    refine lv_iconst (v := 0) hx hb dX8_undo_25 (by decide) ?_
    refine lv_istore_n (lv' := [(1, .int 0), (0, .ref (a 0))]) hx hb dX8_undo_26 rfl hl (by decide) rfl (fun ls hl => ?_)
    have L27 : ∀ (n : Nat) (s27 : Int32 × (Nat → Int32)) (H : Heap) (locs : List Loc) (ls : Array Slot), va_P G vwCl (wMo cy a m_1 m1 m_2 m3 m4 m5 m6 m7 m8 m9 mb s27.2 md mp mf mi mo mw mn mk mt mq mz me) H → va_D A (wMo cy a m_1 m1 m_2 m3 m4 m5 m6 m7 m8 m9 mb s27.2 md mp mf mi mo mw mn mk mt mq mz me) → va_S A s.heap H locs → lv_has ls 2 [(0, .ref (a 0)), (1, .int s27.1)] → zloop (b_X8_undo_27 mp m_1 m_2) n s27 = some o → W p l e (zR 1) s m ([.ref (a 0)] : List Value).toArray below meth c H locs 0 0 (MQ below (zQi G cy A (wMo cy a o.2.1 m1 o.2.2.1 m3 m4 m5 m6 m7 m8 m9 mb o.2.2.2 md mp mf mi mo mw mn mk mt mq mz me) o.1) ([.ref (a 0)] : List Value).toArray s 0 0 A) (F0 m 27 ls []) := by
      intro n
      induction n with
      | zero => exact fun s27 H locs ls _ _ _ _ hF => (zloop_0 hF).elim
      | succ n ih27 =>
        intro s27 H locs ls hP hD hS hl hF
        have hF : b_X8_undo_27 mp m_1 m_2 (zloop (b_X8_undo_27 mp m_1 m_2) n) s27 = some o := hF
        generalize zloop (b_X8_undo_27 mp m_1 m_2) n = rc27 at ih27 hF
        unfold b_X8_undo_27 at hF
        refine lv_iload_n hx hb dX8_undo_27 rfl (lv_at hl 1 rfl) ?_
        refine lv_bipush (v := 114) hx hb dX8_undo_28 (by decide) ?_
        refine zi_ge (tgt := 59) hx hb hF dX8_undo_30 (by decide) (fun hF => ?_) (fun hF => ?_)
        · refine lv_aload_n hx hb dX8_undo_59 rfl (lv_at hl 0 rfl) ?_
          refine va_get (ci := 8) (C := RX8) (T := TX8) (N := 24) (fs := (zMo a m_1 m1 m_2 m3 m4 m5 m6 m7 m8 m9)) (v := .int m_2) hx hb hts iX8 hown hK hP _ (wMo_at0 cy a m_1 m1 m_2 m3 m4 m5 m6 m7 m8 m9 mb s27.2 md mp mf mi mo mw mn mk mt mq mz me) rfl 6 (by decide) k103 (fun _ h9 => h9) rfl dX8_undo_60 ?_
          refine z_iret (o := o) (o1 := (m_2, m_1, m_2, s27.2)) (v := m_2) (wf := (fun o => (wMo cy a o.2.1 m1 o.2.2.1 m3 m4 m5 m6 m7 m8 m9 mb o.2.2.2 md mp mf mi mo mw mn mk mt mq mz me))) (rf := fun o => o.1) hx hb hr hlocks hK ?_ ?_ hS ?_ rfl dX8_undo_63
          · exact hP
          · exact hD
          · exact hF
        · refine lv_aload_n hx hb dX8_undo_33 rfl (lv_at hl 0 rfl) ?_
          refine va_get (ci := 8) (C := RX8) (T := TX8) (N := 24) (fs := (zMo a m_1 m1 m_2 m3 m4 m5 m6 m7 m8 m9)) (v := .ref (a 2)) hx hb hts iX8 hown hK hP _ (wMo_at0 cy a m_1 m1 m_2 m3 m4 m5 m6 m7 m8 m9 mb s27.2 md mp mf mi mo mw mn mk mt mq mz me) rfl 3 (by decide) k13 (fun _ h9 => h9) rfl dX8_undo_34 ?_
          refine lv_iload_n hx hb dX8_undo_37 rfl (lv_at hl 1 rfl) ?_
          refine lv_aload_n hx hb dX8_undo_38 rfl (lv_at hl 0 rfl) ?_
          refine va_get (ci := 8) (C := RX8) (T := TX8) (N := 24) (fs := (zMo a m_1 m1 m_2 m3 m4 m5 m6 m7 m8 m9)) (v := .ref (a 4)) hx hb hts iX8 hown hK hP _ (wMo_at0 cy a m_1 m1 m_2 m3 m4 m5 m6 m7 m8 m9 mb s27.2 md mp mf mi mo mw mn mk mt mq mz me) rfl 5 (by decide) k20 (fun _ h9 => h9) rfl dX8_undo_39 ?_
          refine lv_bipush (v := 114) hx hb dX8_undo_42 (by decide) ?_
          refine lv_aload_n hx hb dX8_undo_44 rfl (lv_at hl 0 rfl) ?_
          refine va_get (ci := 8) (C := RX8) (T := TX8) (N := 24) (fs := (zMo a m_1 m1 m_2 m3 m4 m5 m6 m7 m8 m9)) (v := .int m_2) hx hb hts iX8 hown hK hP _ (wMo_at0 cy a m_1 m1 m_2 m3 m4 m5 m6 m7 m8 m9 mb s27.2 md mp mf mi mo mw mn mk mt mq mz me) rfl 6 (by decide) k103 (fun _ h9 => h9) rfl dX8_undo_45 ?_
          refine lv_imul hx hb dX8_undo_48 ?_
          refine lv_iload_n hx hb dX8_undo_49 rfl (lv_at hl 1 rfl) ?_
          refine lv_iadd hx hb dX8_undo_50 ?_
          refine z_iald (n := 684) (f := mp) hx hb hK hP _ 1 (wMo_at4 cy a m_1 m1 m_2 m3 m4 m5 m6 m7 m8 m9 mb s27.2 md mp mf mi mo mw mn mk mt mq mz me) rfl hF dX8_undo_51 (fun hF => ?_)
          refine z_iast (n := 114) (f := s27.2) (i := s27.1) (x := (mp (zn ((114 * m_2) + s27.1)))) (wf := (fun y => (wMo cy a m_1 m1 m_2 m3 m4 m5 m6 m7 m8 m9 mb y md mp mf mi mo mw mn mk mt mq mz me))) hx hb hK hP hD hS _ 1 (wMo_foc2 cy a m_1 m1 m_2 m3 m4 m5 m6 m7 m8 m9 mb s27.2 md mp mf mi mo mw mn mk mt mq mz me _) rfl hF dX8_undo_52 (fun ms_3 hF H locs hP hD hS => ?_)
          refine z_name hF (fun x4 ex4 hF => ?_)
          refine lv_iinc (v := x4) (lv' := [(1, .int x4), (0, .ref (a 0))]) hx hb dX8_undo_53 hl (k := 1) rfl (by rw [ex4]; rfl) (by decide) rfl (fun ls hl => ?_)
          refine lv_goto (tgt := 27) hx hb dX8_undo_56 (by decide) ?_
          exact ih27 (x4, ms_3) _ _ ls hP hD hS (lv_sub hl [1, 0] rfl) hF
    exact L27 1000 (0, ms) _ _ ls hP hD hS (lv_sub hl [1, 0] rfl) hF
  · refine lv_bipush (v := (-2)) hx hb dX8_undo_12 (by decide) ?_
    refine z_iret (o := o) (o1 := ((-2), m_1, m2, ms)) (v := (-2)) (wf := (fun o => (wMo cy a o.2.1 m1 o.2.2.1 m3 m4 m5 m6 m7 m8 m9 mb o.2.2.2 md mp mf mi mo mw mn mk mt mq mz me))) (rf := fun o => o.1) hx hb hr hlocks hK ?_ ?_ hS ?_ rfl dX8_undo_14
    · exact hP
    · exact hD
    · exact hF
def f_X8_stage (ms : Nat → Int32) (mf : Nat → Int32) (mi : Nat → Int32) (mo : Nat → Int32) (mw : Nat → Int32) (mn : Nat → Int32) (x01 : Int32) (x02 : Int32) : Option (Int32 × Int32 × (Nat → Int32) × (Nat → Int32) × (Nat → Int32) × (Nat → Int32) × (Nat → Int32)) :=
zlet 0 fun m_1 =>
zbd (f_X8_isStage ms x01) fun o2 =>
if o2 = 0 then (
some ((-1), m_1, mf, mi, mo, mw, mn)) else (
zbd (f_X8_in x02 0 15) fun o3 =>
if o3 = 0 then (
some ((-1), m_1, mf, mi, mo, mw, mn)) else (
zbd (f_X8_lays ms mf mi mo mw mn) fun o4 =>
zlet (o4.1) fun mf_5 =>
zlet (o4.2.1) fun mi_6 =>
zlet (o4.2.2.1) fun mo_7 =>
zlet (o4.2.2.2.1) fun mw_8 =>
zlet (o4.2.2.2.2) fun mn_9 =>
if x02 = 5 then (
zbd (f_X8_of ms x01 x02) fun o11 =>
some ((o11 + 1000), m_1, mf_5, mi_6, mo_7, mw_8, mn_9)) else (
if x02 = 6 then (
zbd (f_X8_of ms x01 x02) fun o13 =>
some (o13, m_1, mf_5, mi_6, mo_7, mw_8, mn_9)) else (
if x02 = 7 then (
zbd (f_X8_of ms x01 x02) fun o15 =>
some ((o15 + 1000), m_1, mf_5, mi_6, mo_7, mw_8, mn_9)) else (
if x02 = 8 then (
zbd (f_X8_of ms x01 x02) fun o17 =>
some (o17, m_1, mf_5, mi_6, mo_7, mw_8, mn_9)) else (
if x02 = 9 then (
zg (zin x01 4) (
some (((mf_5 (zn x01)) + 1000), m_1, mf_5, mi_6, mo_7, mw_8, mn_9))) else (
if x02 = 10 then (
zg (zin x01 4) (
some (((mi_6 (zn x01)) + 1000), m_1, mf_5, mi_6, mo_7, mw_8, mn_9))) else (
if x02 = 11 then (
zg (zin x01 4) (
some (((mo_7 (zn x01)) + 1000), m_1, mf_5, mi_6, mo_7, mw_8, mn_9))) else (
if x02 = 12 then (
zbd (f_X8_goodOf ms mo_7 x01) fun o22 =>
some (o22, m_1, mf_5, mi_6, mo_7, mw_8, mn_9)) else (
if x02 = 13 then (
zg (zin x01 4) (
some ((mw_8 (zn x01)), m_1, mf_5, mi_6, mo_7, mw_8, mn_9))) else (
if x02 = 14 then (
zbd (f_X8_of ms x01 9) fun o25 =>
some (o25, m_1, mf_5, mi_6, mo_7, mw_8, mn_9)) else (
if x02 = 15 then (
zg (zin x01 4) (
if (mn_9 (zn x01)) = 0 then (
some (0, m_1, mf_5, mi_6, mo_7, mw_8, mn_9)) else (
some (1, m_1, mf_5, mi_6, mo_7, mw_8, mn_9)))) else (
zbd (f_X8_of ms x01 x02) fun o27 =>
some (o27, m_1, mf_5, mi_6, mo_7, mw_8, mn_9))))))))))))))
set_option maxHeartbeats 4000000 in
set_option maxRecDepth 100000 in
theorem c_X8_stage (l : Launch) (G : va_G) (cy : Nat → ClassId) (st : Nat → Nat) (a : Nat → Nat) (m0 : Int32) (m1 : Int32) (m2 : Int32) (m3 : Int32) (m4 : Int32) (m5 : Int32) (m6 : Int32) (m7 : Int32) (m8 : Int32) (m9 : Int32) (mb : Nat → Int32) (ms : Nat → Int32) (md : Nat → Int32) (mp : Nat → Int32) (mf : Nat → Int32) (mi : Nat → Int32) (mo : Nat → Int32) (mw : Nat → Int32) (mn : Nat → Int32) (mk : Nat → Int32) (mt : Nat → Int64) (mq : Nat → Int32) (mz : Nat → Int32) (me : Nat → Int32) (x01 : Int32) (x02 : Int32) (o : Int32 × Int32 × (Nat → Int32) × (Nat → Int32) × (Nat → Int32) × (Nat → Int32) × (Nat → Int32)) (hF : f_X8_stage ms mf mi mo mw mn x01 x02 = some o) : zMi l yX8_stage wsX8_stage (zR 4) G cy st [.ref (a 0), .int x01, .int x02] (wMo cy a m0 m1 m2 m3 m4 m5 m6 m7 m8 m9 mb ms md mp mf mi mo mw mn mk mt mq mz me) (wMo cy a o.2.1 m1 m2 m3 m4 m5 m6 m7 m8 m9 mb ms md mp o.2.2.1 o.2.2.2.1 o.2.2.2.2.1 o.2.2.2.2.2.1 o.2.2.2.2.2.2 mk mt mq mz me) o.1 := by
  refine zM_of (cc := cX8_stage) (maxL := 3) (ret := (some .int)) (Qc := fun A => zQi G cy A (wMo cy a o.2.1 m1 m2 m3 m4 m5 m6 m7 m8 m9 mb ms md mp o.2.2.1 o.2.2.2.1 o.2.2.2.2.1 o.2.2.2.2.2.1 o.2.2.2.2.2.2 mk mt mq mz me) o.1) (by decide) rfl (Nat.le_of_ble_eq_true rfl) ?_
  intro p e s m below meth c A ls hx hb hml hr hlocks hown hts hK hSE hA hP hD hS hl
  have hown : s.vm.findClass RX8 = some m.cls := hown
  have hl : lv_has ls 3 [(0, .ref (a 0)), (1, .int x01), (2, .int x02)] := hl
  have k59 := hts (.fieldLink RX8 59 "TapCascadeModel" "thrown" "I") (by decide +kernel)
  have iX8 : ∀ w ∈ wsX80, w ∈ wsX8_stage := fun w h => List.mem_cons_of_mem _ (List.mem_append_right _ h)
  have k23 := hts (.fieldLink RX8 23 "TapCascadeModel" "flow" "[I") (by decide +kernel)
  have k26 := hts (.fieldLink RX8 26 "TapCascadeModel" "comesIn" "[I") (by decide +kernel)
  have k29 := hts (.fieldLink RX8 29 "TapCascadeModel" "goesOut" "[I") (by decide +kernel)
  have k32 := hts (.fieldLink RX8 32 "TapCascadeModel" "want" "[I") (by decide +kernel)
  have k35 := hts (.fieldLink RX8 35 "TapCascadeModel" "can" "[Z") (by decide +kernel)
  unfold f_X8_stage at hF
  refine lv_aload_n hx hb dX8_stage_0 rfl (lv_at hl 0 rfl) ?_
  refine lv_iconst (v := 0) hx hb dX8_stage_1 (by decide) ?_
  refine z_puti (ci := 8) (C := RX8) (T := TX8) (N := 24) (fs := (zMo a m0 m1 m2 m3 m4 m5 m6 m7 m8 m9)) (x := 0) (wf := (fun y => (wMo cy a y m1 m2 m3 m4 m5 m6 m7 m8 m9 mb ms md mp mf mi mo mw mn mk mt mq mz me))) hx hb hts iX8 tyX8 tyX8_ok nmX8 hown hK hP hD hS _ 0 (wMo_foc0_0 cy a m0 m1 m2 m3 m4 m5 m6 m7 m8 m9 mb ms md mp mf mi mo mw mn mk mt mq mz me 0) rfl (by decide) k59 (fun _ h9 => h9) rfl (by decide +kernel) (Nat.le_of_ble_eq_true rfl) hF dX8_stage_2 (fun m_1 hF H locs hP hD hS => ?_)
  refine lv_aload_n hx hb dX8_stage_5 rfl (lv_at hl 0 rfl) ?_
  refine lv_iload_n hx hb dX8_stage_6 rfl (lv_at hl 1 rfl) ?_
  refine z_cVi (b := a 0) (As := [.int x01]) (rest := []) (wc := (wMo cy a m_1 m1 m2 m3 m4 m5 m6 m7 m8 m9 mb ms md mp mf mi mo mw mn mk mt mq mz me)) (wcf := fun o' => (wMo cy a m_1 m1 m2 m3 m4 m5 m6 m7 m8 m9 mb ms md mp mf mi mo mw mn mk mt mq mz me)) (wf := fun o' => (wMo cy a m_1 m1 m2 m3 m4 m5 m6 m7 m8 m9 mb ms md mp mf mi mo mw mn mk mt mq mz me)) (rf := fun o' => o') hF (fun o' hz => c_X8_isStage l G cy st a m_1 m1 m2 m3 m4 m5 m6 m7 m8 m9 mb ms md mp mf mi mo mw mn mk mt mq mz me x01 o' hz) (fun o' => zCut_all) ⟨hx, hb, hml, hown, hts⟩ (cwV 1 hts gX8_stage_X8_isStage rfl rfl rfl (by decide +kernel) ⟨by decide, by decide⟩) (ci := 8) (q0 := 0) rfl (wMo_at0 cy a m_1 m1 m2 m3 m4 m5 m6 m7 m8 m9 mb ms md mp mf mi mo mw mn mk mt mq mz me) hK hSE hA hP hD hS rfl hl.1 rfl (Nat.le_of_ble_eq_true rfl) dX8_stage_7 ⟨Nat.le_refl _, Nat.le_refl _⟩ (fun o2 hF H locs hP hD hS => ?_)
  refine zf_eq (tgt := 23) hx hb hF dX8_stage_10 (by decide) (fun hF => ?_) (fun hF => ?_)
  · refine lv_iconst (v := (-1)) hx hb dX8_stage_23 (by decide) ?_
    refine z_iret (o := o) (o1 := ((-1), m_1, mf, mi, mo, mw, mn)) (v := (-1)) (wf := (fun o => (wMo cy a o.2.1 m1 m2 m3 m4 m5 m6 m7 m8 m9 mb ms md mp o.2.2.1 o.2.2.2.1 o.2.2.2.2.1 o.2.2.2.2.2.1 o.2.2.2.2.2.2 mk mt mq mz me))) (rf := fun o => o.1) hx hb hr hlocks hK ?_ ?_ hS ?_ rfl dX8_stage_24
    · exact hP
    · exact hD
    · exact hF
  · refine lv_iload_n hx hb dX8_stage_13 rfl (lv_at hl 2 rfl) ?_
    refine lv_iconst (v := 0) hx hb dX8_stage_14 (by decide) ?_
    refine lv_bipush (v := 15) hx hb dX8_stage_15 (by decide) ?_
    refine z_cSi (As := [.int x02, .int 0, .int 15]) (rest := []) (wc := ([] : va_W)) (wcf := fun o' => ([] : va_W)) (wf := fun o' => (wMo cy a m_1 m1 m2 m3 m4 m5 m6 m7 m8 m9 mb ms md mp mf mi mo mw mn mk mt mq mz me)) (rf := fun o' => o') hF (fun o' hz => c_X8_in l G cy st x02 0 15 o' hz) (fun o' => zCut_nil) ⟨hx, hb, hml, hown, hts⟩ (va_cwS 3 hts gX8_stage_X8_in rfl rfl rfl (by decide +kernel) ⟨by decide, by decide⟩) hK hSE hA hP hD hS rfl hl.1 rfl (Nat.le_of_ble_eq_true rfl) dX8_stage_17 ⟨Nat.le_refl _, Nat.le_refl _⟩ (fun o3 hF H locs hP hD hS => ?_)
    refine zf_ne (tgt := 25) hx hb hF dX8_stage_20 (by decide) (fun hF => ?_) (fun hF => ?_)
    · refine lv_aload_n hx hb dX8_stage_25 rfl (lv_at hl 0 rfl) ?_
      refine z_cVv (b := a 0) (As := []) (rest := []) (wc := (wMo cy a m_1 m1 m2 m3 m4 m5 m6 m7 m8 m9 mb ms md mp mf mi mo mw mn mk mt mq mz me)) (wcf := fun o' => (wMo cy a m_1 m1 m2 m3 m4 m5 m6 m7 m8 m9 mb ms md mp o'.1 o'.2.1 o'.2.2.1 o'.2.2.2.1 o'.2.2.2.2 mk mt mq mz me)) (wf := fun o' => (wMo cy a m_1 m1 m2 m3 m4 m5 m6 m7 m8 m9 mb ms md mp o'.1 o'.2.1 o'.2.2.1 o'.2.2.2.1 o'.2.2.2.2 mk mt mq mz me)) hF (fun o' hz => c_X8_lays l G cy st a m_1 m1 m2 m3 m4 m5 m6 m7 m8 m9 mb ms md mp mf mi mo mw mn mk mt mq mz me o' hz) (fun o' => zCut_all) ⟨hx, hb, hml, hown, hts⟩ (cwV 0 hts gX8_stage_X8_lays rfl rfl rfl (by decide +kernel) ⟨by decide, by decide⟩) (ci := 8) (q0 := 0) rfl (wMo_at0 cy a m_1 m1 m2 m3 m4 m5 m6 m7 m8 m9 mb ms md mp mf mi mo mw mn mk mt mq mz me) hK hSE hA hP hD hS rfl hl.1 rfl (Nat.le_of_ble_eq_true rfl) dX8_stage_26 ⟨Nat.le_refl _, Nat.le_refl _⟩ (fun o4 hF H locs hP hD hS => ?_)
      refine z_nameW (wf := (fun y => (wMo cy a m_1 m1 m2 m3 m4 m5 m6 m7 m8 m9 mb ms md mp y o4.2.1 o4.2.2.1 o4.2.2.2.1 o4.2.2.2.2 mk mt mq mz me))) hF hP hD (fun mf_5 hF hP hD => ?_)
      refine z_nameW (wf := (fun y => (wMo cy a m_1 m1 m2 m3 m4 m5 m6 m7 m8 m9 mb ms md mp mf_5 y o4.2.2.1 o4.2.2.2.1 o4.2.2.2.2 mk mt mq mz me))) hF hP hD (fun mi_6 hF hP hD => ?_)
      refine z_nameW (wf := (fun y => (wMo cy a m_1 m1 m2 m3 m4 m5 m6 m7 m8 m9 mb ms md mp mf_5 mi_6 y o4.2.2.2.1 o4.2.2.2.2 mk mt mq mz me))) hF hP hD (fun mo_7 hF hP hD => ?_)
      refine z_nameW (wf := (fun y => (wMo cy a m_1 m1 m2 m3 m4 m5 m6 m7 m8 m9 mb ms md mp mf_5 mi_6 mo_7 y o4.2.2.2.2 mk mt mq mz me))) hF hP hD (fun mw_8 hF hP hD => ?_)
      refine z_nameW (wf := (fun y => (wMo cy a m_1 m1 m2 m3 m4 m5 m6 m7 m8 m9 mb ms md mp mf_5 mi_6 mo_7 mw_8 y mk mt mq mz me))) hF hP hD (fun mn_9 hF hP hD => ?_)
      refine lv_iload_n hx hb dX8_stage_29 rfl (lv_at hl 2 rfl) ?_
      by_cases h10 : x02 = 5
      · have hF := (if_pos h10).symm.trans hF
        refine lv_tableIn (off := 58) (tgt := 88) hx hb dX8_stage_30 (by rw [h10]; decide) (by rw [h10]; decide) (by rw [h10]; decide) (by decide) ?_
        refine lv_aload_n hx hb dX8_stage_88 rfl (lv_at hl 0 rfl) ?_
        refine lv_iload_n hx hb dX8_stage_89 rfl (lv_at hl 1 rfl) ?_
        refine lv_iload_n hx hb dX8_stage_90 rfl (lv_at hl 2 rfl) ?_
        refine z_cVi (b := a 0) (As := [.int x01, .int x02]) (rest := []) (wc := (wMo cy a m_1 m1 m2 m3 m4 m5 m6 m7 m8 m9 mb ms md mp mf_5 mi_6 mo_7 mw_8 mn_9 mk mt mq mz me)) (wcf := fun o' => (wMo cy a m_1 m1 m2 m3 m4 m5 m6 m7 m8 m9 mb ms md mp mf_5 mi_6 mo_7 mw_8 mn_9 mk mt mq mz me)) (wf := fun o' => (wMo cy a m_1 m1 m2 m3 m4 m5 m6 m7 m8 m9 mb ms md mp mf_5 mi_6 mo_7 mw_8 mn_9 mk mt mq mz me)) (rf := fun o' => o') hF (fun o' hz => c_X8_of l G cy st a m_1 m1 m2 m3 m4 m5 m6 m7 m8 m9 mb ms md mp mf_5 mi_6 mo_7 mw_8 mn_9 mk mt mq mz me x01 x02 o' hz) (fun o' => zCut_all) ⟨hx, hb, hml, hown, hts⟩ (cwV 2 hts gX8_stage_X8_of rfl rfl rfl (by decide +kernel) ⟨by decide, by decide⟩) (ci := 8) (q0 := 0) rfl (wMo_at0 cy a m_1 m1 m2 m3 m4 m5 m6 m7 m8 m9 mb ms md mp mf_5 mi_6 mo_7 mw_8 mn_9 mk mt mq mz me) hK hSE hA hP hD hS rfl hl.1 rfl (Nat.le_of_ble_eq_true rfl) dX8_stage_91 ⟨Nat.le_refl _, Nat.le_refl _⟩ (fun o11 hF H locs hP hD hS => ?_)
        refine lv_sipush (v := 1000) hx hb dX8_stage_94 (by decide) ?_
        refine lv_iadd hx hb dX8_stage_97 ?_
        refine z_iret (o := o) (o1 := ((o11 + 1000), m_1, mf_5, mi_6, mo_7, mw_8, mn_9)) (v := (o11 + 1000)) (wf := (fun o => (wMo cy a o.2.1 m1 m2 m3 m4 m5 m6 m7 m8 m9 mb ms md mp o.2.2.1 o.2.2.2.1 o.2.2.2.2.1 o.2.2.2.2.2.1 o.2.2.2.2.2.2 mk mt mq mz me))) (rf := fun o => o.1) hx hb hr hlocks hK ?_ ?_ hS ?_ rfl dX8_stage_98
        · exact hP
        · exact hD
        · exact hF
      have hF := (if_neg h10).symm.trans hF
      by_cases h12 : x02 = 6
      · have hF := (if_pos h12).symm.trans hF
        refine lv_tableIn (off := 138) (tgt := 168) hx hb dX8_stage_30 (by rw [h12]; decide) (by rw [h12]; decide) (by rw [h12]; decide) (by decide) ?_
        refine lv_aload_n hx hb dX8_stage_168 rfl (lv_at hl 0 rfl) ?_
        refine lv_iload_n hx hb dX8_stage_169 rfl (lv_at hl 1 rfl) ?_
        refine lv_iload_n hx hb dX8_stage_170 rfl (lv_at hl 2 rfl) ?_
        refine z_cVi (b := a 0) (As := [.int x01, .int x02]) (rest := []) (wc := (wMo cy a m_1 m1 m2 m3 m4 m5 m6 m7 m8 m9 mb ms md mp mf_5 mi_6 mo_7 mw_8 mn_9 mk mt mq mz me)) (wcf := fun o' => (wMo cy a m_1 m1 m2 m3 m4 m5 m6 m7 m8 m9 mb ms md mp mf_5 mi_6 mo_7 mw_8 mn_9 mk mt mq mz me)) (wf := fun o' => (wMo cy a m_1 m1 m2 m3 m4 m5 m6 m7 m8 m9 mb ms md mp mf_5 mi_6 mo_7 mw_8 mn_9 mk mt mq mz me)) (rf := fun o' => o') hF (fun o' hz => c_X8_of l G cy st a m_1 m1 m2 m3 m4 m5 m6 m7 m8 m9 mb ms md mp mf_5 mi_6 mo_7 mw_8 mn_9 mk mt mq mz me x01 x02 o' hz) (fun o' => zCut_all) ⟨hx, hb, hml, hown, hts⟩ (cwV 2 hts gX8_stage_X8_of rfl rfl rfl (by decide +kernel) ⟨by decide, by decide⟩) (ci := 8) (q0 := 0) rfl (wMo_at0 cy a m_1 m1 m2 m3 m4 m5 m6 m7 m8 m9 mb ms md mp mf_5 mi_6 mo_7 mw_8 mn_9 mk mt mq mz me) hK hSE hA hP hD hS rfl hl.1 rfl (Nat.le_of_ble_eq_true rfl) dX8_stage_171 ⟨Nat.le_refl _, Nat.le_refl _⟩ (fun o13 hF H locs hP hD hS => ?_)
        refine z_iret (o := o) (o1 := (o13, m_1, mf_5, mi_6, mo_7, mw_8, mn_9)) (v := o13) (wf := (fun o => (wMo cy a o.2.1 m1 m2 m3 m4 m5 m6 m7 m8 m9 mb ms md mp o.2.2.1 o.2.2.2.1 o.2.2.2.2.1 o.2.2.2.2.2.1 o.2.2.2.2.2.2 mk mt mq mz me))) (rf := fun o => o.1) hx hb hr hlocks hK ?_ ?_ hS ?_ rfl dX8_stage_174
        · exact hP
        · exact hD
        · exact hF
      have hF := (if_neg h12).symm.trans hF
      by_cases h14 : x02 = 7
      · have hF := (if_pos h14).symm.trans hF
        refine lv_tableIn (off := 58) (tgt := 88) hx hb dX8_stage_30 (by rw [h14]; decide) (by rw [h14]; decide) (by rw [h14]; decide) (by decide) ?_
        refine lv_aload_n hx hb dX8_stage_88 rfl (lv_at hl 0 rfl) ?_
        refine lv_iload_n hx hb dX8_stage_89 rfl (lv_at hl 1 rfl) ?_
        refine lv_iload_n hx hb dX8_stage_90 rfl (lv_at hl 2 rfl) ?_
        refine z_cVi (b := a 0) (As := [.int x01, .int x02]) (rest := []) (wc := (wMo cy a m_1 m1 m2 m3 m4 m5 m6 m7 m8 m9 mb ms md mp mf_5 mi_6 mo_7 mw_8 mn_9 mk mt mq mz me)) (wcf := fun o' => (wMo cy a m_1 m1 m2 m3 m4 m5 m6 m7 m8 m9 mb ms md mp mf_5 mi_6 mo_7 mw_8 mn_9 mk mt mq mz me)) (wf := fun o' => (wMo cy a m_1 m1 m2 m3 m4 m5 m6 m7 m8 m9 mb ms md mp mf_5 mi_6 mo_7 mw_8 mn_9 mk mt mq mz me)) (rf := fun o' => o') hF (fun o' hz => c_X8_of l G cy st a m_1 m1 m2 m3 m4 m5 m6 m7 m8 m9 mb ms md mp mf_5 mi_6 mo_7 mw_8 mn_9 mk mt mq mz me x01 x02 o' hz) (fun o' => zCut_all) ⟨hx, hb, hml, hown, hts⟩ (cwV 2 hts gX8_stage_X8_of rfl rfl rfl (by decide +kernel) ⟨by decide, by decide⟩) (ci := 8) (q0 := 0) rfl (wMo_at0 cy a m_1 m1 m2 m3 m4 m5 m6 m7 m8 m9 mb ms md mp mf_5 mi_6 mo_7 mw_8 mn_9 mk mt mq mz me) hK hSE hA hP hD hS rfl hl.1 rfl (Nat.le_of_ble_eq_true rfl) dX8_stage_91 ⟨Nat.le_refl _, Nat.le_refl _⟩ (fun o15 hF H locs hP hD hS => ?_)
        refine lv_sipush (v := 1000) hx hb dX8_stage_94 (by decide) ?_
        refine lv_iadd hx hb dX8_stage_97 ?_
        refine z_iret (o := o) (o1 := ((o15 + 1000), m_1, mf_5, mi_6, mo_7, mw_8, mn_9)) (v := (o15 + 1000)) (wf := (fun o => (wMo cy a o.2.1 m1 m2 m3 m4 m5 m6 m7 m8 m9 mb ms md mp o.2.2.1 o.2.2.2.1 o.2.2.2.2.1 o.2.2.2.2.2.1 o.2.2.2.2.2.2 mk mt mq mz me))) (rf := fun o => o.1) hx hb hr hlocks hK ?_ ?_ hS ?_ rfl dX8_stage_98
        · exact hP
        · exact hD
        · exact hF
      have hF := (if_neg h14).symm.trans hF
      by_cases h16 : x02 = 8
      · have hF := (if_pos h16).symm.trans hF
        refine lv_tableIn (off := 138) (tgt := 168) hx hb dX8_stage_30 (by rw [h16]; decide) (by rw [h16]; decide) (by rw [h16]; decide) (by decide) ?_
        refine lv_aload_n hx hb dX8_stage_168 rfl (lv_at hl 0 rfl) ?_
        refine lv_iload_n hx hb dX8_stage_169 rfl (lv_at hl 1 rfl) ?_
        refine lv_iload_n hx hb dX8_stage_170 rfl (lv_at hl 2 rfl) ?_
        refine z_cVi (b := a 0) (As := [.int x01, .int x02]) (rest := []) (wc := (wMo cy a m_1 m1 m2 m3 m4 m5 m6 m7 m8 m9 mb ms md mp mf_5 mi_6 mo_7 mw_8 mn_9 mk mt mq mz me)) (wcf := fun o' => (wMo cy a m_1 m1 m2 m3 m4 m5 m6 m7 m8 m9 mb ms md mp mf_5 mi_6 mo_7 mw_8 mn_9 mk mt mq mz me)) (wf := fun o' => (wMo cy a m_1 m1 m2 m3 m4 m5 m6 m7 m8 m9 mb ms md mp mf_5 mi_6 mo_7 mw_8 mn_9 mk mt mq mz me)) (rf := fun o' => o') hF (fun o' hz => c_X8_of l G cy st a m_1 m1 m2 m3 m4 m5 m6 m7 m8 m9 mb ms md mp mf_5 mi_6 mo_7 mw_8 mn_9 mk mt mq mz me x01 x02 o' hz) (fun o' => zCut_all) ⟨hx, hb, hml, hown, hts⟩ (cwV 2 hts gX8_stage_X8_of rfl rfl rfl (by decide +kernel) ⟨by decide, by decide⟩) (ci := 8) (q0 := 0) rfl (wMo_at0 cy a m_1 m1 m2 m3 m4 m5 m6 m7 m8 m9 mb ms md mp mf_5 mi_6 mo_7 mw_8 mn_9 mk mt mq mz me) hK hSE hA hP hD hS rfl hl.1 rfl (Nat.le_of_ble_eq_true rfl) dX8_stage_171 ⟨Nat.le_refl _, Nat.le_refl _⟩ (fun o17 hF H locs hP hD hS => ?_)
        refine z_iret (o := o) (o1 := (o17, m_1, mf_5, mi_6, mo_7, mw_8, mn_9)) (v := o17) (wf := (fun o => (wMo cy a o.2.1 m1 m2 m3 m4 m5 m6 m7 m8 m9 mb ms md mp o.2.2.1 o.2.2.2.1 o.2.2.2.2.1 o.2.2.2.2.2.1 o.2.2.2.2.2.2 mk mt mq mz me))) (rf := fun o => o.1) hx hb hr hlocks hK ?_ ?_ hS ?_ rfl dX8_stage_174
        · exact hP
        · exact hD
        · exact hF
      have hF := (if_neg h16).symm.trans hF
      by_cases h18 : x02 = 9
      · have hF := (if_pos h18).symm.trans hF
        refine lv_tableIn (off := 69) (tgt := 99) hx hb dX8_stage_30 (by rw [h18]; decide) (by rw [h18]; decide) (by rw [h18]; decide) (by decide) ?_
        refine lv_aload_n hx hb dX8_stage_99 rfl (lv_at hl 0 rfl) ?_
        refine va_get (ci := 8) (C := RX8) (T := TX8) (N := 24) (fs := (zMo a m_1 m1 m2 m3 m4 m5 m6 m7 m8 m9)) (v := .ref (a 5)) hx hb hts iX8 hown hK hP _ (wMo_at0 cy a m_1 m1 m2 m3 m4 m5 m6 m7 m8 m9 mb ms md mp mf_5 mi_6 mo_7 mw_8 mn_9 mk mt mq mz me) rfl 9 (by decide) k23 (fun _ h9 => h9) rfl dX8_stage_100 ?_
        refine lv_iload_n hx hb dX8_stage_103 rfl (lv_at hl 1 rfl) ?_
        refine z_iald (n := 4) (f := mf_5) hx hb hK hP _ 1 (wMo_at5 cy a m_1 m1 m2 m3 m4 m5 m6 m7 m8 m9 mb ms md mp mf_5 mi_6 mo_7 mw_8 mn_9 mk mt mq mz me) rfl hF dX8_stage_104 (fun hF => ?_)
        refine lv_sipush (v := 1000) hx hb dX8_stage_105 (by decide) ?_
        refine lv_iadd hx hb dX8_stage_108 ?_
        refine z_iret (o := o) (o1 := (((mf_5 (zn x01)) + 1000), m_1, mf_5, mi_6, mo_7, mw_8, mn_9)) (v := ((mf_5 (zn x01)) + 1000)) (wf := (fun o => (wMo cy a o.2.1 m1 m2 m3 m4 m5 m6 m7 m8 m9 mb ms md mp o.2.2.1 o.2.2.2.1 o.2.2.2.2.1 o.2.2.2.2.2.1 o.2.2.2.2.2.2 mk mt mq mz me))) (rf := fun o => o.1) hx hb hr hlocks hK ?_ ?_ hS ?_ rfl dX8_stage_109
        · exact hP
        · exact hD
        · exact hF
      have hF := (if_neg h18).symm.trans hF
      by_cases h19 : x02 = 10
      · have hF := (if_pos h19).symm.trans hF
        refine lv_tableIn (off := 80) (tgt := 110) hx hb dX8_stage_30 (by rw [h19]; decide) (by rw [h19]; decide) (by rw [h19]; decide) (by decide) ?_
        refine lv_aload_n hx hb dX8_stage_110 rfl (lv_at hl 0 rfl) ?_
        refine va_get (ci := 8) (C := RX8) (T := TX8) (N := 24) (fs := (zMo a m_1 m1 m2 m3 m4 m5 m6 m7 m8 m9)) (v := .ref (a 6)) hx hb hts iX8 hown hK hP _ (wMo_at0 cy a m_1 m1 m2 m3 m4 m5 m6 m7 m8 m9 mb ms md mp mf_5 mi_6 mo_7 mw_8 mn_9 mk mt mq mz me) rfl 10 (by decide) k26 (fun _ h9 => h9) rfl dX8_stage_111 ?_
        refine lv_iload_n hx hb dX8_stage_114 rfl (lv_at hl 1 rfl) ?_
        refine z_iald (n := 4) (f := mi_6) hx hb hK hP _ 1 (wMo_at6 cy a m_1 m1 m2 m3 m4 m5 m6 m7 m8 m9 mb ms md mp mf_5 mi_6 mo_7 mw_8 mn_9 mk mt mq mz me) rfl hF dX8_stage_115 (fun hF => ?_)
        refine lv_sipush (v := 1000) hx hb dX8_stage_116 (by decide) ?_
        refine lv_iadd hx hb dX8_stage_119 ?_
        refine z_iret (o := o) (o1 := (((mi_6 (zn x01)) + 1000), m_1, mf_5, mi_6, mo_7, mw_8, mn_9)) (v := ((mi_6 (zn x01)) + 1000)) (wf := (fun o => (wMo cy a o.2.1 m1 m2 m3 m4 m5 m6 m7 m8 m9 mb ms md mp o.2.2.1 o.2.2.2.1 o.2.2.2.2.1 o.2.2.2.2.2.1 o.2.2.2.2.2.2 mk mt mq mz me))) (rf := fun o => o.1) hx hb hr hlocks hK ?_ ?_ hS ?_ rfl dX8_stage_120
        · exact hP
        · exact hD
        · exact hF
      have hF := (if_neg h19).symm.trans hF
      by_cases h20 : x02 = 11
      · have hF := (if_pos h20).symm.trans hF
        refine lv_tableIn (off := 91) (tgt := 121) hx hb dX8_stage_30 (by rw [h20]; decide) (by rw [h20]; decide) (by rw [h20]; decide) (by decide) ?_
        refine lv_aload_n hx hb dX8_stage_121 rfl (lv_at hl 0 rfl) ?_
        refine va_get (ci := 8) (C := RX8) (T := TX8) (N := 24) (fs := (zMo a m_1 m1 m2 m3 m4 m5 m6 m7 m8 m9)) (v := .ref (a 7)) hx hb hts iX8 hown hK hP _ (wMo_at0 cy a m_1 m1 m2 m3 m4 m5 m6 m7 m8 m9 mb ms md mp mf_5 mi_6 mo_7 mw_8 mn_9 mk mt mq mz me) rfl 11 (by decide) k29 (fun _ h9 => h9) rfl dX8_stage_122 ?_
        refine lv_iload_n hx hb dX8_stage_125 rfl (lv_at hl 1 rfl) ?_
        refine z_iald (n := 4) (f := mo_7) hx hb hK hP _ 1 (wMo_at7 cy a m_1 m1 m2 m3 m4 m5 m6 m7 m8 m9 mb ms md mp mf_5 mi_6 mo_7 mw_8 mn_9 mk mt mq mz me) rfl hF dX8_stage_126 (fun hF => ?_)
        refine lv_sipush (v := 1000) hx hb dX8_stage_127 (by decide) ?_
        refine lv_iadd hx hb dX8_stage_130 ?_
        refine z_iret (o := o) (o1 := (((mo_7 (zn x01)) + 1000), m_1, mf_5, mi_6, mo_7, mw_8, mn_9)) (v := ((mo_7 (zn x01)) + 1000)) (wf := (fun o => (wMo cy a o.2.1 m1 m2 m3 m4 m5 m6 m7 m8 m9 mb ms md mp o.2.2.1 o.2.2.2.1 o.2.2.2.2.1 o.2.2.2.2.2.1 o.2.2.2.2.2.2 mk mt mq mz me))) (rf := fun o => o.1) hx hb hr hlocks hK ?_ ?_ hS ?_ rfl dX8_stage_131
        · exact hP
        · exact hD
        · exact hF
      have hF := (if_neg h20).symm.trans hF
      by_cases h21 : x02 = 12
      · have hF := (if_pos h21).symm.trans hF
        refine lv_tableIn (off := 102) (tgt := 132) hx hb dX8_stage_30 (by rw [h21]; decide) (by rw [h21]; decide) (by rw [h21]; decide) (by decide) ?_
        refine lv_aload_n hx hb dX8_stage_132 rfl (lv_at hl 0 rfl) ?_
        refine lv_iload_n hx hb dX8_stage_133 rfl (lv_at hl 1 rfl) ?_
        refine z_cVi (b := a 0) (As := [.int x01]) (rest := []) (wc := (wMo cy a m_1 m1 m2 m3 m4 m5 m6 m7 m8 m9 mb ms md mp mf_5 mi_6 mo_7 mw_8 mn_9 mk mt mq mz me)) (wcf := fun o' => (wMo cy a m_1 m1 m2 m3 m4 m5 m6 m7 m8 m9 mb ms md mp mf_5 mi_6 mo_7 mw_8 mn_9 mk mt mq mz me)) (wf := fun o' => (wMo cy a m_1 m1 m2 m3 m4 m5 m6 m7 m8 m9 mb ms md mp mf_5 mi_6 mo_7 mw_8 mn_9 mk mt mq mz me)) (rf := fun o' => o') hF (fun o' hz => c_X8_goodOf l G cy st a m_1 m1 m2 m3 m4 m5 m6 m7 m8 m9 mb ms md mp mf_5 mi_6 mo_7 mw_8 mn_9 mk mt mq mz me x01 o' hz) (fun o' => zCut_all) ⟨hx, hb, hml, hown, hts⟩ (cwV 1 hts gX8_stage_X8_goodOf rfl rfl rfl (by decide +kernel) ⟨by decide, by decide⟩) (ci := 8) (q0 := 0) rfl (wMo_at0 cy a m_1 m1 m2 m3 m4 m5 m6 m7 m8 m9 mb ms md mp mf_5 mi_6 mo_7 mw_8 mn_9 mk mt mq mz me) hK hSE hA hP hD hS rfl hl.1 rfl (Nat.le_of_ble_eq_true rfl) dX8_stage_134 ⟨Nat.le_refl _, Nat.le_refl _⟩ (fun o22 hF H locs hP hD hS => ?_)
        refine z_iret (o := o) (o1 := (o22, m_1, mf_5, mi_6, mo_7, mw_8, mn_9)) (v := o22) (wf := (fun o => (wMo cy a o.2.1 m1 m2 m3 m4 m5 m6 m7 m8 m9 mb ms md mp o.2.2.1 o.2.2.2.1 o.2.2.2.2.1 o.2.2.2.2.2.1 o.2.2.2.2.2.2 mk mt mq mz me))) (rf := fun o => o.1) hx hb hr hlocks hK ?_ ?_ hS ?_ rfl dX8_stage_137
        · exact hP
        · exact hD
        · exact hF
      have hF := (if_neg h21).symm.trans hF
      by_cases h23 : x02 = 13
      · have hF := (if_pos h23).symm.trans hF
        refine lv_tableIn (off := 108) (tgt := 138) hx hb dX8_stage_30 (by rw [h23]; decide) (by rw [h23]; decide) (by rw [h23]; decide) (by decide) ?_
        refine lv_aload_n hx hb dX8_stage_138 rfl (lv_at hl 0 rfl) ?_
        refine va_get (ci := 8) (C := RX8) (T := TX8) (N := 24) (fs := (zMo a m_1 m1 m2 m3 m4 m5 m6 m7 m8 m9)) (v := .ref (a 8)) hx hb hts iX8 hown hK hP _ (wMo_at0 cy a m_1 m1 m2 m3 m4 m5 m6 m7 m8 m9 mb ms md mp mf_5 mi_6 mo_7 mw_8 mn_9 mk mt mq mz me) rfl 12 (by decide) k32 (fun _ h9 => h9) rfl dX8_stage_139 ?_
        refine lv_iload_n hx hb dX8_stage_142 rfl (lv_at hl 1 rfl) ?_
        refine z_iald (n := 4) (f := mw_8) hx hb hK hP _ 1 (wMo_at8 cy a m_1 m1 m2 m3 m4 m5 m6 m7 m8 m9 mb ms md mp mf_5 mi_6 mo_7 mw_8 mn_9 mk mt mq mz me) rfl hF dX8_stage_143 (fun hF => ?_)
        refine z_iret (o := o) (o1 := ((mw_8 (zn x01)), m_1, mf_5, mi_6, mo_7, mw_8, mn_9)) (v := (mw_8 (zn x01))) (wf := (fun o => (wMo cy a o.2.1 m1 m2 m3 m4 m5 m6 m7 m8 m9 mb ms md mp o.2.2.1 o.2.2.2.1 o.2.2.2.2.1 o.2.2.2.2.2.1 o.2.2.2.2.2.2 mk mt mq mz me))) (rf := fun o => o.1) hx hb hr hlocks hK ?_ ?_ hS ?_ rfl dX8_stage_144
        · exact hP
        · exact hD
        · exact hF
      have hF := (if_neg h23).symm.trans hF
      by_cases h24 : x02 = 14
      · have hF := (if_pos h24).symm.trans hF
        refine lv_tableIn (off := 115) (tgt := 145) hx hb dX8_stage_30 (by rw [h24]; decide) (by rw [h24]; decide) (by rw [h24]; decide) (by decide) ?_
        refine lv_aload_n hx hb dX8_stage_145 rfl (lv_at hl 0 rfl) ?_
        refine lv_iload_n hx hb dX8_stage_146 rfl (lv_at hl 1 rfl) ?_
        refine lv_bipush (v := 9) hx hb dX8_stage_147 (by decide) ?_
        refine z_cVi (b := a 0) (As := [.int x01, .int 9]) (rest := []) (wc := (wMo cy a m_1 m1 m2 m3 m4 m5 m6 m7 m8 m9 mb ms md mp mf_5 mi_6 mo_7 mw_8 mn_9 mk mt mq mz me)) (wcf := fun o' => (wMo cy a m_1 m1 m2 m3 m4 m5 m6 m7 m8 m9 mb ms md mp mf_5 mi_6 mo_7 mw_8 mn_9 mk mt mq mz me)) (wf := fun o' => (wMo cy a m_1 m1 m2 m3 m4 m5 m6 m7 m8 m9 mb ms md mp mf_5 mi_6 mo_7 mw_8 mn_9 mk mt mq mz me)) (rf := fun o' => o') hF (fun o' hz => c_X8_of l G cy st a m_1 m1 m2 m3 m4 m5 m6 m7 m8 m9 mb ms md mp mf_5 mi_6 mo_7 mw_8 mn_9 mk mt mq mz me x01 9 o' hz) (fun o' => zCut_all) ⟨hx, hb, hml, hown, hts⟩ (cwV 2 hts gX8_stage_X8_of rfl rfl rfl (by decide +kernel) ⟨by decide, by decide⟩) (ci := 8) (q0 := 0) rfl (wMo_at0 cy a m_1 m1 m2 m3 m4 m5 m6 m7 m8 m9 mb ms md mp mf_5 mi_6 mo_7 mw_8 mn_9 mk mt mq mz me) hK hSE hA hP hD hS rfl hl.1 rfl (Nat.le_of_ble_eq_true rfl) dX8_stage_149 ⟨Nat.le_refl _, Nat.le_refl _⟩ (fun o25 hF H locs hP hD hS => ?_)
        refine z_iret (o := o) (o1 := (o25, m_1, mf_5, mi_6, mo_7, mw_8, mn_9)) (v := o25) (wf := (fun o => (wMo cy a o.2.1 m1 m2 m3 m4 m5 m6 m7 m8 m9 mb ms md mp o.2.2.1 o.2.2.2.1 o.2.2.2.2.1 o.2.2.2.2.2.1 o.2.2.2.2.2.2 mk mt mq mz me))) (rf := fun o => o.1) hx hb hr hlocks hK ?_ ?_ hS ?_ rfl dX8_stage_152
        · exact hP
        · exact hD
        · exact hF
      have hF := (if_neg h24).symm.trans hF
      by_cases h26 : x02 = 15
      · have hF := (if_pos h26).symm.trans hF
        refine lv_tableIn (off := 123) (tgt := 153) hx hb dX8_stage_30 (by rw [h26]; decide) (by rw [h26]; decide) (by rw [h26]; decide) (by decide) ?_
        refine lv_aload_n hx hb dX8_stage_153 rfl (lv_at hl 0 rfl) ?_
        refine va_get (ci := 8) (C := RX8) (T := TX8) (N := 24) (fs := (zMo a m_1 m1 m2 m3 m4 m5 m6 m7 m8 m9)) (v := .ref (a 9)) hx hb hts iX8 hown hK hP _ (wMo_at0 cy a m_1 m1 m2 m3 m4 m5 m6 m7 m8 m9 mb ms md mp mf_5 mi_6 mo_7 mw_8 mn_9 mk mt mq mz me) rfl 13 (by decide) k35 (fun _ h9 => h9) rfl dX8_stage_154 ?_
        refine lv_iload_n hx hb dX8_stage_157 rfl (lv_at hl 1 rfl) ?_
        refine z_zald (n := 4) (f := mn_9) hx hb hK hP _ 3 (wMo_at9 cy a m_1 m1 m2 m3 m4 m5 m6 m7 m8 m9 mb ms md mp mf_5 mi_6 mo_7 mw_8 mn_9 mk mt mq mz me) rfl hF dX8_stage_158 (fun hF => ?_)
        refine zf_eq (tgt := 166) hx hb hF dX8_stage_159 (by decide) (fun hF => ?_) (fun hF => ?_)
        · refine lv_iconst (v := 0) hx hb dX8_stage_166 (by decide) ?_
          refine z_iret (o := o) (o1 := (0, m_1, mf_5, mi_6, mo_7, mw_8, mn_9)) (v := 0) (wf := (fun o => (wMo cy a o.2.1 m1 m2 m3 m4 m5 m6 m7 m8 m9 mb ms md mp o.2.2.1 o.2.2.2.1 o.2.2.2.2.1 o.2.2.2.2.2.1 o.2.2.2.2.2.2 mk mt mq mz me))) (rf := fun o => o.1) hx hb hr hlocks hK ?_ ?_ hS ?_ rfl dX8_stage_167
          · exact hP
          · exact hD
          · exact hF
        · refine lv_iconst (v := 1) hx hb dX8_stage_162 (by decide) ?_
          refine lv_goto (tgt := 167) hx hb dX8_stage_163 (by decide) ?_
          refine z_iret (o := o) (o1 := (1, m_1, mf_5, mi_6, mo_7, mw_8, mn_9)) (v := 1) (wf := (fun o => (wMo cy a o.2.1 m1 m2 m3 m4 m5 m6 m7 m8 m9 mb ms md mp o.2.2.1 o.2.2.2.1 o.2.2.2.2.1 o.2.2.2.2.2.1 o.2.2.2.2.2.2 mk mt mq mz me))) (rf := fun o => o.1) hx hb hr hlocks hK ?_ ?_ hS ?_ rfl dX8_stage_167
          · exact hP
          · exact hD
          · exact hF
      have hF := (if_neg h26).symm.trans hF
      refine lv_tableOut (x := x02) (tgt := 168) hx hb dX8_stage_30 (by have q0 := lv_neT (a := 5) h10 (by decide); have q1 := lv_neT (a := 6) h12 (by decide); have q2 := lv_neT (a := 7) h14 (by decide); have q3 := lv_neT (a := 8) h16 (by decide); have q4 := lv_neT (a := 9) h18 (by decide); have q5 := lv_neT (a := 10) h19 (by decide); have q6 := lv_neT (a := 11) h20 (by decide); have q7 := lv_neT (a := 12) h21 (by decide); have q8 := lv_neT (a := 13) h23 (by decide); have q9 := lv_neT (a := 14) h24 (by decide); have q10 := lv_neT (a := 15) h26 (by decide); omega) (by decide) ?_
      refine lv_aload_n hx hb dX8_stage_168 rfl (lv_at hl 0 rfl) ?_
      refine lv_iload_n hx hb dX8_stage_169 rfl (lv_at hl 1 rfl) ?_
      refine lv_iload_n hx hb dX8_stage_170 rfl (lv_at hl 2 rfl) ?_
      refine z_cVi (b := a 0) (As := [.int x01, .int x02]) (rest := []) (wc := (wMo cy a m_1 m1 m2 m3 m4 m5 m6 m7 m8 m9 mb ms md mp mf_5 mi_6 mo_7 mw_8 mn_9 mk mt mq mz me)) (wcf := fun o' => (wMo cy a m_1 m1 m2 m3 m4 m5 m6 m7 m8 m9 mb ms md mp mf_5 mi_6 mo_7 mw_8 mn_9 mk mt mq mz me)) (wf := fun o' => (wMo cy a m_1 m1 m2 m3 m4 m5 m6 m7 m8 m9 mb ms md mp mf_5 mi_6 mo_7 mw_8 mn_9 mk mt mq mz me)) (rf := fun o' => o') hF (fun o' hz => c_X8_of l G cy st a m_1 m1 m2 m3 m4 m5 m6 m7 m8 m9 mb ms md mp mf_5 mi_6 mo_7 mw_8 mn_9 mk mt mq mz me x01 x02 o' hz) (fun o' => zCut_all) ⟨hx, hb, hml, hown, hts⟩ (cwV 2 hts gX8_stage_X8_of rfl rfl rfl (by decide +kernel) ⟨by decide, by decide⟩) (ci := 8) (q0 := 0) rfl (wMo_at0 cy a m_1 m1 m2 m3 m4 m5 m6 m7 m8 m9 mb ms md mp mf_5 mi_6 mo_7 mw_8 mn_9 mk mt mq mz me) hK hSE hA hP hD hS rfl hl.1 rfl (Nat.le_of_ble_eq_true rfl) dX8_stage_171 ⟨Nat.le_refl _, Nat.le_refl _⟩ (fun o27 hF H locs hP hD hS => ?_)
      refine z_iret (o := o) (o1 := (o27, m_1, mf_5, mi_6, mo_7, mw_8, mn_9)) (v := o27) (wf := (fun o => (wMo cy a o.2.1 m1 m2 m3 m4 m5 m6 m7 m8 m9 mb ms md mp o.2.2.1 o.2.2.2.1 o.2.2.2.2.1 o.2.2.2.2.2.1 o.2.2.2.2.2.2 mk mt mq mz me))) (rf := fun o => o.1) hx hb hr hlocks hK ?_ ?_ hS ?_ rfl dX8_stage_174
      · exact hP
      · exact hD
      · exact hF
    · refine lv_iconst (v := (-1)) hx hb dX8_stage_23 (by decide) ?_
      refine z_iret (o := o) (o1 := ((-1), m_1, mf, mi, mo, mw, mn)) (v := (-1)) (wf := (fun o => (wMo cy a o.2.1 m1 m2 m3 m4 m5 m6 m7 m8 m9 mb ms md mp o.2.2.1 o.2.2.2.1 o.2.2.2.2.1 o.2.2.2.2.2.1 o.2.2.2.2.2.2 mk mt mq mz me))) (rf := fun o => o.1) hx hb hr hlocks hK ?_ ?_ hS ?_ rfl dX8_stage_24
      · exact hP
      · exact hD
      · exact hF
def f_X8_done (ms : Nat → Int32) (x01 : Int32) (x02 : Int32) : Option (Int32 × Int32) :=
zlet 0 fun m_1 =>
if x01 < 0 then (
some ((-1), m_1)) else (
zbd (f_X8_in x02 0 2) fun o2 =>
if o2 = 0 then (
some ((-1), m_1)) else (
zg (zin 5 114) (
if (ms (zn 5)) ≤ x01 then (
some ((-4), m_1)) else (
zg (zin 5 114) (
zg (zin ((54 + (3 * (((ms (zn 5)) - 1) - x01))) + x02) 114) (
some ((ms (zn ((54 + (3 * (((ms (zn 5)) - 1) - x01))) + x02))), m_1)))))))
set_option maxHeartbeats 4000000 in
set_option maxRecDepth 100000 in
theorem c_X8_done (l : Launch) (G : va_G) (cy : Nat → ClassId) (st : Nat → Nat) (a : Nat → Nat) (m0 : Int32) (m1 : Int32) (m2 : Int32) (m3 : Int32) (m4 : Int32) (m5 : Int32) (m6 : Int32) (m7 : Int32) (m8 : Int32) (m9 : Int32) (mb : Nat → Int32) (ms : Nat → Int32) (md : Nat → Int32) (mp : Nat → Int32) (mf : Nat → Int32) (mi : Nat → Int32) (mo : Nat → Int32) (mw : Nat → Int32) (mn : Nat → Int32) (mk : Nat → Int32) (mt : Nat → Int64) (mq : Nat → Int32) (mz : Nat → Int32) (me : Nat → Int32) (x01 : Int32) (x02 : Int32) (o : Int32 × Int32) (hF : f_X8_done ms x01 x02 = some o) : zMi l yX8_done wsX8_done (zR 2) G cy st [.ref (a 0), .int x01, .int x02] (wMo cy a m0 m1 m2 m3 m4 m5 m6 m7 m8 m9 mb ms md mp mf mi mo mw mn mk mt mq mz me) (wMo cy a o.2 m1 m2 m3 m4 m5 m6 m7 m8 m9 mb ms md mp mf mi mo mw mn mk mt mq mz me) o.1 := by
  refine zM_of (cc := cX8_done) (maxL := 3) (ret := (some .int)) (Qc := fun A => zQi G cy A (wMo cy a o.2 m1 m2 m3 m4 m5 m6 m7 m8 m9 mb ms md mp mf mi mo mw mn mk mt mq mz me) o.1) (by decide) rfl (Nat.le_of_ble_eq_true rfl) ?_
  intro p e s m below meth c A ls hx hb hml hr hlocks hown hts hK hSE hA hP hD hS hl
  have hown : s.vm.findClass RX8 = some m.cls := hown
  have hl : lv_has ls 3 [(0, .ref (a 0)), (1, .int x01), (2, .int x02)] := hl
  have k59 := hts (.fieldLink RX8 59 "TapCascadeModel" "thrown" "I") (by decide +kernel)
  have iX8 : ∀ w ∈ wsX80, w ∈ wsX8_done := fun w h => List.mem_cons_of_mem _ (List.mem_append_right _ h)
  have k13 := hts (.fieldLink RX8 13 "TapCascadeModel" "s" "[I") (by decide +kernel)
  unfold f_X8_done at hF
  refine lv_aload_n hx hb dX8_done_0 rfl (lv_at hl 0 rfl) ?_
  refine lv_iconst (v := 0) hx hb dX8_done_1 (by decide) ?_
  refine z_puti (ci := 8) (C := RX8) (T := TX8) (N := 24) (fs := (zMo a m0 m1 m2 m3 m4 m5 m6 m7 m8 m9)) (x := 0) (wf := (fun y => (wMo cy a y m1 m2 m3 m4 m5 m6 m7 m8 m9 mb ms md mp mf mi mo mw mn mk mt mq mz me))) hx hb hts iX8 tyX8 tyX8_ok nmX8 hown hK hP hD hS _ 0 (wMo_foc0_0 cy a m0 m1 m2 m3 m4 m5 m6 m7 m8 m9 mb ms md mp mf mi mo mw mn mk mt mq mz me 0) rfl (by decide) k59 (fun _ h9 => h9) rfl (by decide +kernel) (Nat.le_of_ble_eq_true rfl) hF dX8_done_2 (fun m_1 hF H locs hP hD hS => ?_)
  refine lv_iload_n hx hb dX8_done_5 rfl (lv_at hl 1 rfl) ?_
  refine zf_lt (tgt := 18) hx hb hF dX8_done_6 (by decide) (fun hF => ?_) (fun hF => ?_)
  · refine lv_iconst (v := (-1)) hx hb dX8_done_18 (by decide) ?_
    refine z_iret (o := o) (o1 := ((-1), m_1)) (v := (-1)) (wf := (fun o => (wMo cy a o.2 m1 m2 m3 m4 m5 m6 m7 m8 m9 mb ms md mp mf mi mo mw mn mk mt mq mz me))) (rf := fun o => o.1) hx hb hr hlocks hK ?_ ?_ hS ?_ rfl dX8_done_19
    · exact hP
    · exact hD
    · exact hF
  · refine lv_iload_n hx hb dX8_done_9 rfl (lv_at hl 2 rfl) ?_
    refine lv_iconst (v := 0) hx hb dX8_done_10 (by decide) ?_
    refine lv_iconst (v := 2) hx hb dX8_done_11 (by decide) ?_
    refine z_cSi (As := [.int x02, .int 0, .int 2]) (rest := []) (wc := ([] : va_W)) (wcf := fun o' => ([] : va_W)) (wf := fun o' => (wMo cy a m_1 m1 m2 m3 m4 m5 m6 m7 m8 m9 mb ms md mp mf mi mo mw mn mk mt mq mz me)) (rf := fun o' => o') hF (fun o' hz => c_X8_in l G cy st x02 0 2 o' hz) (fun o' => zCut_nil) ⟨hx, hb, hml, hown, hts⟩ (va_cwS 3 hts gX8_done_X8_in rfl rfl rfl (by decide +kernel) ⟨by decide, by decide⟩) hK hSE hA hP hD hS rfl hl.1 rfl (Nat.le_of_ble_eq_true rfl) dX8_done_12 ⟨Nat.le_refl _, Nat.le_refl _⟩ (fun o2 hF H locs hP hD hS => ?_)
    refine zf_ne (tgt := 20) hx hb hF dX8_done_15 (by decide) (fun hF => ?_) (fun hF => ?_)
    · refine lv_iload_n hx hb dX8_done_20 rfl (lv_at hl 1 rfl) ?_
      refine lv_aload_n hx hb dX8_done_21 rfl (lv_at hl 0 rfl) ?_
      refine va_get (ci := 8) (C := RX8) (T := TX8) (N := 24) (fs := (zMo a m_1 m1 m2 m3 m4 m5 m6 m7 m8 m9)) (v := .ref (a 2)) hx hb hts iX8 hown hK hP _ (wMo_at0 cy a m_1 m1 m2 m3 m4 m5 m6 m7 m8 m9 mb ms md mp mf mi mo mw mn mk mt mq mz me) rfl 3 (by decide) k13 (fun _ h9 => h9) rfl dX8_done_22 ?_
      refine lv_iconst (v := 5) hx hb dX8_done_25 (by decide) ?_
      refine z_iald (n := 114) (f := ms) hx hb hK hP _ 1 (wMo_at2 cy a m_1 m1 m2 m3 m4 m5 m6 m7 m8 m9 mb ms md mp mf mi mo mw mn mk mt mq mz me) rfl hF dX8_done_26 (fun hF => ?_)
      refine zi_ge (tgt := 55) hx hb hF dX8_done_27 (by decide) (fun hF => ?_) (fun hF => ?_)
      · refine lv_bipush (v := (-4)) hx hb dX8_done_55 (by decide) ?_
        refine z_iret (o := o) (o1 := ((-4), m_1)) (v := (-4)) (wf := (fun o => (wMo cy a o.2 m1 m2 m3 m4 m5 m6 m7 m8 m9 mb ms md mp mf mi mo mw mn mk mt mq mz me))) (rf := fun o => o.1) hx hb hr hlocks hK ?_ ?_ hS ?_ rfl dX8_done_57
        · exact hP
        · exact hD
        · exact hF
      · refine lv_aload_n hx hb dX8_done_30 rfl (lv_at hl 0 rfl) ?_
        refine va_get (ci := 8) (C := RX8) (T := TX8) (N := 24) (fs := (zMo a m_1 m1 m2 m3 m4 m5 m6 m7 m8 m9)) (v := .ref (a 2)) hx hb hts iX8 hown hK hP _ (wMo_at0 cy a m_1 m1 m2 m3 m4 m5 m6 m7 m8 m9 mb ms md mp mf mi mo mw mn mk mt mq mz me) rfl 3 (by decide) k13 (fun _ h9 => h9) rfl dX8_done_31 ?_
        refine lv_bipush (v := 54) hx hb dX8_done_34 (by decide) ?_
        refine lv_iconst (v := 3) hx hb dX8_done_36 (by decide) ?_
        refine lv_aload_n hx hb dX8_done_37 rfl (lv_at hl 0 rfl) ?_
        refine va_get (ci := 8) (C := RX8) (T := TX8) (N := 24) (fs := (zMo a m_1 m1 m2 m3 m4 m5 m6 m7 m8 m9)) (v := .ref (a 2)) hx hb hts iX8 hown hK hP _ (wMo_at0 cy a m_1 m1 m2 m3 m4 m5 m6 m7 m8 m9 mb ms md mp mf mi mo mw mn mk mt mq mz me) rfl 3 (by decide) k13 (fun _ h9 => h9) rfl dX8_done_38 ?_
        refine lv_iconst (v := 5) hx hb dX8_done_41 (by decide) ?_
        refine z_iald (n := 114) (f := ms) hx hb hK hP _ 1 (wMo_at2 cy a m_1 m1 m2 m3 m4 m5 m6 m7 m8 m9 mb ms md mp mf mi mo mw mn mk mt mq mz me) rfl hF dX8_done_42 (fun hF => ?_)
        refine lv_iconst (v := 1) hx hb dX8_done_43 (by decide) ?_
        refine lv_isub hx hb dX8_done_44 ?_
        refine lv_iload_n hx hb dX8_done_45 rfl (lv_at hl 1 rfl) ?_
        refine lv_isub hx hb dX8_done_46 ?_
        refine lv_imul hx hb dX8_done_47 ?_
        refine lv_iadd hx hb dX8_done_48 ?_
        refine lv_iload_n hx hb dX8_done_49 rfl (lv_at hl 2 rfl) ?_
        refine lv_iadd hx hb dX8_done_50 ?_
        refine z_iald (n := 114) (f := ms) hx hb hK hP _ 1 (wMo_at2 cy a m_1 m1 m2 m3 m4 m5 m6 m7 m8 m9 mb ms md mp mf mi mo mw mn mk mt mq mz me) rfl hF dX8_done_51 (fun hF => ?_)
        refine lv_goto (tgt := 57) hx hb dX8_done_52 (by decide) ?_
        refine z_iret (o := o) (o1 := ((ms (zn ((54 + (3 * (((ms (zn 5)) - 1) - x01))) + x02))), m_1)) (v := (ms (zn ((54 + (3 * (((ms (zn 5)) - 1) - x01))) + x02)))) (wf := (fun o => (wMo cy a o.2 m1 m2 m3 m4 m5 m6 m7 m8 m9 mb ms md mp mf mi mo mw mn mk mt mq mz me))) (rf := fun o => o.1) hx hb hr hlocks hK ?_ ?_ hS ?_ rfl dX8_done_57
        · exact hP
        · exact hD
        · exact hF
    · refine lv_iconst (v := (-1)) hx hb dX8_done_18 (by decide) ?_
      refine z_iret (o := o) (o1 := ((-1), m_1)) (v := (-1)) (wf := (fun o => (wMo cy a o.2 m1 m2 m3 m4 m5 m6 m7 m8 m9 mb ms md mp mf mi mo mw mn mk mt mq mz me))) (rf := fun o => o.1) hx hb hr hlocks hK ?_ ?_ hS ?_ rfl dX8_done_19
      · exact hP
      · exact hD
      · exact hF
def b_X8_codeOf_4 (ms : Nat → Int32) (rc4 : (Int64 × Int32) → Option (Int64)) (s4 : Int64 × Int32) : Option (Int64) :=
zg (zin 0 114) (
if (ms (zn 0)) ≤ s4.2 then (
some s4.1) else (
zbd (f_X8_of ms s4.2 7) fun o1 =>
zbd (f_X8_of ms s4.2 9) fun o2 =>
zbd (f_X8_of ms s4.2 10) fun o3 =>
zlet ((((s4.1 * 1024) + (Int32.toInt64 ((o1 + 5) * 64))) + (Int32.toInt64 (o2 * 4))) + (Int32.toInt64 o3)) fun x4 =>
zlet (s4.2 + 1) fun x5 =>
rc4 (x4, x5)))
def f_X8_codeOf (ms : Nat → Int32) : Option (Int64) :=
zloop (b_X8_codeOf_4 ms) 1000 (0, 0)
set_option maxHeartbeats 4000000 in
set_option maxRecDepth 100000 in
theorem c_X8_codeOf (l : Launch) (G : va_G) (cy : Nat → ClassId) (st : Nat → Nat) (a : Nat → Nat) (m0 : Int32) (m1 : Int32) (m2 : Int32) (m3 : Int32) (m4 : Int32) (m5 : Int32) (m6 : Int32) (m7 : Int32) (m8 : Int32) (m9 : Int32) (mb : Nat → Int32) (ms : Nat → Int32) (md : Nat → Int32) (mp : Nat → Int32) (mf : Nat → Int32) (mi : Nat → Int32) (mo : Nat → Int32) (mw : Nat → Int32) (mn : Nat → Int32) (mk : Nat → Int32) (mt : Nat → Int64) (mq : Nat → Int32) (mz : Nat → Int32) (me : Nat → Int32) (o : Int64) (hF : f_X8_codeOf ms = some o) : zMl l yX8_codeOf wsX8_codeOf (zR 2) G cy st [.ref (a 0)] (wMo cy a m0 m1 m2 m3 m4 m5 m6 m7 m8 m9 mb ms md mp mf mi mo mw mn mk mt mq mz me) (wMo cy a m0 m1 m2 m3 m4 m5 m6 m7 m8 m9 mb ms md mp mf mi mo mw mn mk mt mq mz me) o := by
  refine zM_of (cc := cX8_codeOf) (maxL := 4) (ret := (some .long)) (Qc := fun A => zQl G cy A (wMo cy a m0 m1 m2 m3 m4 m5 m6 m7 m8 m9 mb ms md mp mf mi mo mw mn mk mt mq mz me) o) (by decide) rfl (Nat.le_of_ble_eq_true rfl) ?_
  intro p e s m below meth c A ls hx hb hml hr hlocks hown hts hK hSE hA hP hD hS hl
  have hown : s.vm.findClass RX8 = some m.cls := hown
  have hl : lv_has ls 4 [(0, .ref (a 0))] := hl
  have k13 := hts (.fieldLink RX8 13 "TapCascadeModel" "s" "[I") (by decide +kernel)
  have iX8 : ∀ w ∈ wsX80, w ∈ wsX8_codeOf := fun w h => List.mem_cons_of_mem _ (List.mem_append_right _ h)
  have k143 := hts (.constantLong RX8 143 (1024)) (by decide +kernel)
  unfold f_X8_codeOf at hF
  refine lv_lconst (v := 0) hx hb dX8_codeOf_0 (by decide) ?_
  refine lv_lstore_n (lv' := [(1, .long 0), (0, .ref (a 0))]) hx hb dX8_codeOf_1 rfl hl (by decide) rfl (fun ls hl => ?_)
  refine lv_iconst (v := 0) hx hb dX8_codeOf_2 (by decide) ?_
  refine lv_istore_n (lv' := [(3, .int 0), (1, .long 0), (0, .ref (a 0))]) hx hb dX8_codeOf_3 rfl hl (by decide) rfl (fun ls hl => ?_)
  have L4 : ∀ (n : Nat) (s4 : Int64 × Int32) (H : Heap) (locs : List Loc) (ls : Array Slot), va_P G vwCl (wMo cy a m0 m1 m2 m3 m4 m5 m6 m7 m8 m9 mb ms md mp mf mi mo mw mn mk mt mq mz me) H → va_D A (wMo cy a m0 m1 m2 m3 m4 m5 m6 m7 m8 m9 mb ms md mp mf mi mo mw mn mk mt mq mz me) → va_S A s.heap H locs → lv_has ls 4 [(0, .ref (a 0)), (1, .long s4.1), (3, .int s4.2)] → zloop (b_X8_codeOf_4 ms) n s4 = some o → W p l e (zR 2) s m ([.ref (a 0)] : List Value).toArray below meth c H locs 0 0 (MQ below (zQl G cy A (wMo cy a m0 m1 m2 m3 m4 m5 m6 m7 m8 m9 mb ms md mp mf mi mo mw mn mk mt mq mz me) o) ([.ref (a 0)] : List Value).toArray s 0 0 A) (F0 m 4 ls []) := by
    intro n
    induction n with
    | zero => exact fun s4 H locs ls _ _ _ _ hF => (zloop_0 hF).elim
    | succ n ih4 =>
      intro s4 H locs ls hP hD hS hl hF
      have hF : b_X8_codeOf_4 ms (zloop (b_X8_codeOf_4 ms) n) s4 = some o := hF
      generalize zloop (b_X8_codeOf_4 ms) n = rc4 at ih4 hF
      unfold b_X8_codeOf_4 at hF
      refine lv_iload_n hx hb dX8_codeOf_4 rfl (lv_at hl 2 rfl) ?_
      refine lv_aload_n hx hb dX8_codeOf_5 rfl (lv_at hl 0 rfl) ?_
      refine va_get (ci := 8) (C := RX8) (T := TX8) (N := 24) (fs := (zMo a m0 m1 m2 m3 m4 m5 m6 m7 m8 m9)) (v := .ref (a 2)) hx hb hts iX8 hown hK hP _ (wMo_at0 cy a m0 m1 m2 m3 m4 m5 m6 m7 m8 m9 mb ms md mp mf mi mo mw mn mk mt mq mz me) rfl 3 (by decide) k13 (fun _ h9 => h9) rfl dX8_codeOf_6 ?_
      refine lv_iconst (v := 0) hx hb dX8_codeOf_9 (by decide) ?_
      refine z_iald (n := 114) (f := ms) hx hb hK hP _ 1 (wMo_at2 cy a m0 m1 m2 m3 m4 m5 m6 m7 m8 m9 mb ms md mp mf mi mo mw mn mk mt mq mz me) rfl hF dX8_codeOf_10 (fun hF => ?_)
      refine zi_ge (tgt := 60) hx hb hF dX8_codeOf_11 (by decide) (fun hF => ?_) (fun hF => ?_)
      · refine lv_lload_n hx hb dX8_codeOf_60 rfl (lv_at hl 1 rfl) ?_
        refine z_lret (o := o) (o1 := s4.1) (v := s4.1) (wf := (fun o => (wMo cy a m0 m1 m2 m3 m4 m5 m6 m7 m8 m9 mb ms md mp mf mi mo mw mn mk mt mq mz me))) (rf := fun o => o) hx hb hr hlocks hK ?_ ?_ hS ?_ rfl dX8_codeOf_61
        · exact hP
        · exact hD
        · exact hF
      · refine lv_lload_n hx hb dX8_codeOf_14 rfl (lv_at hl 1 rfl) ?_
        refine lv_ldc2 (v := 1024) hx hb hown k143 dX8_codeOf_15 ?_
        refine lv_lmul hx hb dX8_codeOf_18 ?_
        refine lv_aload_n hx hb dX8_codeOf_19 rfl (lv_at hl 0 rfl) ?_
        refine lv_iload_n hx hb dX8_codeOf_20 rfl (lv_at hl 2 rfl) ?_
        refine lv_bipush (v := 7) hx hb dX8_codeOf_21 (by decide) ?_
        refine z_cVi (b := a 0) (As := [.int s4.2, .int 7]) (rest := [.long (s4.1 * 1024)]) (wc := (wMo cy a m0 m1 m2 m3 m4 m5 m6 m7 m8 m9 mb ms md mp mf mi mo mw mn mk mt mq mz me)) (wcf := fun o' => (wMo cy a m0 m1 m2 m3 m4 m5 m6 m7 m8 m9 mb ms md mp mf mi mo mw mn mk mt mq mz me)) (wf := fun o' => (wMo cy a m0 m1 m2 m3 m4 m5 m6 m7 m8 m9 mb ms md mp mf mi mo mw mn mk mt mq mz me)) (rf := fun o' => o') hF (fun o' hz => c_X8_of l G cy st a m0 m1 m2 m3 m4 m5 m6 m7 m8 m9 mb ms md mp mf mi mo mw mn mk mt mq mz me s4.2 7 o' hz) (fun o' => zCut_all) ⟨hx, hb, hml, hown, hts⟩ (cwV 2 hts gX8_codeOf_X8_of rfl rfl rfl (by decide +kernel) ⟨by decide, by decide⟩) (ci := 8) (q0 := 0) rfl (wMo_at0 cy a m0 m1 m2 m3 m4 m5 m6 m7 m8 m9 mb ms md mp mf mi mo mw mn mk mt mq mz me) hK hSE hA hP hD hS rfl hl.1 rfl (Nat.le_of_ble_eq_true rfl) dX8_codeOf_23 ⟨Nat.le_refl _, Nat.le_refl _⟩ (fun o1 hF H locs hP hD hS => ?_)
        refine lv_iconst (v := 5) hx hb dX8_codeOf_26 (by decide) ?_
        refine lv_iadd hx hb dX8_codeOf_27 ?_
        refine lv_bipush (v := 64) hx hb dX8_codeOf_28 (by decide) ?_
        refine lv_imul hx hb dX8_codeOf_30 ?_
        refine lv_i2l (v := (Int32.toInt64 ((o1 + 5) * 64))) hx hb dX8_codeOf_31 rfl ?_
        refine lv_ladd hx hb dX8_codeOf_32 ?_
        refine lv_aload_n hx hb dX8_codeOf_33 rfl (lv_at hl 0 rfl) ?_
        refine lv_iload_n hx hb dX8_codeOf_34 rfl (lv_at hl 2 rfl) ?_
        refine lv_bipush (v := 9) hx hb dX8_codeOf_35 (by decide) ?_
        refine z_cVi (b := a 0) (As := [.int s4.2, .int 9]) (rest := [.long ((s4.1 * 1024) + (Int32.toInt64 ((o1 + 5) * 64)))]) (wc := (wMo cy a m0 m1 m2 m3 m4 m5 m6 m7 m8 m9 mb ms md mp mf mi mo mw mn mk mt mq mz me)) (wcf := fun o' => (wMo cy a m0 m1 m2 m3 m4 m5 m6 m7 m8 m9 mb ms md mp mf mi mo mw mn mk mt mq mz me)) (wf := fun o' => (wMo cy a m0 m1 m2 m3 m4 m5 m6 m7 m8 m9 mb ms md mp mf mi mo mw mn mk mt mq mz me)) (rf := fun o' => o') hF (fun o' hz => c_X8_of l G cy st a m0 m1 m2 m3 m4 m5 m6 m7 m8 m9 mb ms md mp mf mi mo mw mn mk mt mq mz me s4.2 9 o' hz) (fun o' => zCut_all) ⟨hx, hb, hml, hown, hts⟩ (cwV 2 hts gX8_codeOf_X8_of rfl rfl rfl (by decide +kernel) ⟨by decide, by decide⟩) (ci := 8) (q0 := 0) rfl (wMo_at0 cy a m0 m1 m2 m3 m4 m5 m6 m7 m8 m9 mb ms md mp mf mi mo mw mn mk mt mq mz me) hK hSE hA hP hD hS rfl hl.1 rfl (Nat.le_of_ble_eq_true rfl) dX8_codeOf_37 ⟨Nat.le_refl _, Nat.le_refl _⟩ (fun o2 hF H locs hP hD hS => ?_)
        refine lv_iconst (v := 4) hx hb dX8_codeOf_40 (by decide) ?_
        refine lv_imul hx hb dX8_codeOf_41 ?_
        refine lv_i2l (v := (Int32.toInt64 (o2 * 4))) hx hb dX8_codeOf_42 rfl ?_
        refine lv_ladd hx hb dX8_codeOf_43 ?_
        refine lv_aload_n hx hb dX8_codeOf_44 rfl (lv_at hl 0 rfl) ?_
        refine lv_iload_n hx hb dX8_codeOf_45 rfl (lv_at hl 2 rfl) ?_
        refine lv_bipush (v := 10) hx hb dX8_codeOf_46 (by decide) ?_
        refine z_cVi (b := a 0) (As := [.int s4.2, .int 10]) (rest := [.long (((s4.1 * 1024) + (Int32.toInt64 ((o1 + 5) * 64))) + (Int32.toInt64 (o2 * 4)))]) (wc := (wMo cy a m0 m1 m2 m3 m4 m5 m6 m7 m8 m9 mb ms md mp mf mi mo mw mn mk mt mq mz me)) (wcf := fun o' => (wMo cy a m0 m1 m2 m3 m4 m5 m6 m7 m8 m9 mb ms md mp mf mi mo mw mn mk mt mq mz me)) (wf := fun o' => (wMo cy a m0 m1 m2 m3 m4 m5 m6 m7 m8 m9 mb ms md mp mf mi mo mw mn mk mt mq mz me)) (rf := fun o' => o') hF (fun o' hz => c_X8_of l G cy st a m0 m1 m2 m3 m4 m5 m6 m7 m8 m9 mb ms md mp mf mi mo mw mn mk mt mq mz me s4.2 10 o' hz) (fun o' => zCut_all) ⟨hx, hb, hml, hown, hts⟩ (cwV 2 hts gX8_codeOf_X8_of rfl rfl rfl (by decide +kernel) ⟨by decide, by decide⟩) (ci := 8) (q0 := 0) rfl (wMo_at0 cy a m0 m1 m2 m3 m4 m5 m6 m7 m8 m9 mb ms md mp mf mi mo mw mn mk mt mq mz me) hK hSE hA hP hD hS rfl hl.1 rfl (Nat.le_of_ble_eq_true rfl) dX8_codeOf_48 ⟨Nat.le_refl _, Nat.le_refl _⟩ (fun o3 hF H locs hP hD hS => ?_)
        refine lv_i2l (v := (Int32.toInt64 o3)) hx hb dX8_codeOf_51 rfl ?_
        refine lv_ladd hx hb dX8_codeOf_52 ?_
        refine z_letl hF (fun x4 hF => ?_)
        refine lv_lstore_n (lv' := [(1, .long x4), (0, .ref (a 0)), (3, .int s4.2)]) hx hb dX8_codeOf_53 rfl hl (by decide) rfl (fun ls hl => ?_)
        refine z_name hF (fun x5 ex5 hF => ?_)
        refine lv_iinc (v := x5) (lv' := [(3, .int x5), (1, .long x4), (0, .ref (a 0))]) hx hb dX8_codeOf_54 hl (k := 2) rfl (by rw [ex5]; rfl) (by decide) rfl (fun ls hl => ?_)
        refine lv_goto (tgt := 4) hx hb dX8_codeOf_57 (by decide) ?_
        exact ih4 (x4, x5) _ _ ls hP hD hS (lv_sub hl [2, 1, 0] rfl) hF
  exact L4 1000 (0, 0) _ _ ls hP hD hS (lv_sub hl [2, 1, 0] rfl) hF
def b_X8_settles_203 (mz_5 : Nat → Int32) (m_6 : Int32) (m_7 : Int32) (m_8 : Int32) (m_9 : Int32) (mf_11 : Nat → Int32) (mi_12 : Nat → Int32) (mo_13 : Nat → Int32) (mw_14 : Nat → Int32) (mn_15 : Nat → Int32) (mk_16 : Nat → Int32) (mt_17 : Nat → Int64) (mq_18 : Nat → Int32) (rc203 : (Int32 × (Nat → Int32)) → Option (Int32 × Int32 × Int32 × Int32 × (Nat → Int32) × (Nat → Int32) × (Nat → Int32) × (Nat → Int32) × (Nat → Int32) × (Nat → Int32) × (Nat → Int32) × (Nat → Int64) × (Nat → Int32) × (Nat → Int32))) (s203 : Int32 × (Nat → Int32)) : Option (Int32 × Int32 × Int32 × Int32 × (Nat → Int32) × (Nat → Int32) × (Nat → Int32) × (Nat → Int32) × (Nat → Int32) × (Nat → Int32) × (Nat → Int32) × (Nat → Int64) × (Nat → Int32) × (Nat → Int32)) :=
if (114 : Int32) ≤ s203.1 then (
some (m_6, m_7, m_8, m_9, s203.2, mf_11, mi_12, mo_13, mw_14, mn_15, mk_16, mt_17, mq_18, mz_5)) else (
zg (zin s203.1 114) (
zg (zin s203.1 114) (
zlet (upd s203.2 (zn s203.1) (mz_5 (zn s203.1))) fun ms_19 =>
zlet (s203.1 + 1) fun x20 =>
rc203 (x20, ms_19))))
def j_X8_settles_201 (mz_5 : Nat → Int32) (m_6 : Int32) (m_7 : Int32) (m_8 : Int32) (m_9 : Int32) (ms_10 : Nat → Int32) (mf_11 : Nat → Int32) (mi_12 : Nat → Int32) (mo_13 : Nat → Int32) (mw_14 : Nat → Int32) (mn_15 : Nat → Int32) (mk_16 : Nat → Int32) (mt_17 : Nat → Int64) (mq_18 : Nat → Int32) : Option (Int32 × Int32 × Int32 × Int32 × (Nat → Int32) × (Nat → Int32) × (Nat → Int32) × (Nat → Int32) × (Nat → Int32) × (Nat → Int32) × (Nat → Int32) × (Nat → Int64) × (Nat → Int32) × (Nat → Int32)) :=
zloop (b_X8_settles_203 mz_5 m_6 m_7 m_8 m_9 mf_11 mi_12 mo_13 mw_14 mn_15 mk_16 mt_17 mq_18) 1000 (0, ms_10)
def j_X8_settles_191 (rc52 : (Int32 × Int32 × Int32 × Int32 × Int32 × (Nat → Int32) × (Nat → Int32) × (Nat → Int32) × (Nat → Int32) × (Nat → Int32) × (Nat → Int32) × (Nat → Int32) × (Nat → Int64) × (Nat → Int32)) → Option (Int32 × Int32 × Int32 × Int32 × (Nat → Int32) × (Nat → Int32) × (Nat → Int32) × (Nat → Int32) × (Nat → Int32) × (Nat → Int32) × (Nat → Int32) × (Nat → Int64) × (Nat → Int32) × (Nat → Int32))) (s52 : Int32 × Int32 × Int32 × Int32 × Int32 × (Nat → Int32) × (Nat → Int32) × (Nat → Int32) × (Nat → Int32) × (Nat → Int32) × (Nat → Int32) × (Nat → Int32) × (Nat → Int64) × (Nat → Int32)) (ms_25 : Nat → Int32) (mk_31 : Nat → Int32) (mf_35 : Nat → Int32) (mi_36 : Nat → Int32) (mo_37 : Nat → Int32) (mw_38 : Nat → Int32) (mn_39 : Nat → Int32) (m_41 : Int32) (mt_43 : Nat → Int64) (mq_44 : Nat → Int32) (m_45 : Int32) (m_46 : Int32) (m_47 : Int32) : Option (Int32 × Int32 × Int32 × Int32 × (Nat → Int32) × (Nat → Int32) × (Nat → Int32) × (Nat → Int32) × (Nat → Int32) × (Nat → Int32) × (Nat → Int32) × (Nat → Int64) × (Nat → Int32) × (Nat → Int32)) :=
zbd (f_X8_ticks ms_25 mf_35 mi_36 mo_37 mw_38 mn_39 mk_31) fun o48 =>
zlet (o48.1) fun ms_49 =>
zlet (o48.2.1) fun mf_50 =>
zlet (o48.2.2.1) fun mi_51 =>
zlet (o48.2.2.2.1) fun mo_52 =>
zlet (o48.2.2.2.2.1) fun mw_53 =>
zlet (o48.2.2.2.2.2.1) fun mn_54 =>
zlet (o48.2.2.2.2.2.2) fun mk_55 =>
zlet (s52.1 + 1) fun x56 =>
rc52 (x56, m_41, m_45, m_46, m_47, ms_49, mf_50, mi_51, mo_52, mw_53, mn_54, mk_55, mt_43, mq_44)
def j_X8_settles_185 (rc117 : (Int32 × Int32 × Int32 × Int32) → Option (Int32 × Int32 × Int32 × Int32 × (Nat → Int32) × (Nat → Int32) × (Nat → Int32) × (Nat → Int32) × (Nat → Int32) × (Nat → Int32) × (Nat → Int32) × (Nat → Int64) × (Nat → Int32) × (Nat → Int32))) (s117 : Int32 × Int32 × Int32 × Int32) (m_57 : Int32) (m_58 : Int32) (m_59 : Int32) : Option (Int32 × Int32 × Int32 × Int32 × (Nat → Int32) × (Nat → Int32) × (Nat → Int32) × (Nat → Int32) × (Nat → Int32) × (Nat → Int32) × (Nat → Int32) × (Nat → Int64) × (Nat → Int32) × (Nat → Int32)) :=
zlet (s117.1 + 1) fun x60 =>
rc117 (x60, m_57, m_58, m_59)
def b_X8_settles_117 (rc52 : (Int32 × Int32 × Int32 × Int32 × Int32 × (Nat → Int32) × (Nat → Int32) × (Nat → Int32) × (Nat → Int32) × (Nat → Int32) × (Nat → Int32) × (Nat → Int32) × (Nat → Int64) × (Nat → Int32)) → Option (Int32 × Int32 × Int32 × Int32 × (Nat → Int32) × (Nat → Int32) × (Nat → Int32) × (Nat → Int32) × (Nat → Int32) × (Nat → Int32) × (Nat → Int32) × (Nat → Int64) × (Nat → Int32) × (Nat → Int32))) (s52 : Int32 × Int32 × Int32 × Int32 × Int32 × (Nat → Int32) × (Nat → Int32) × (Nat → Int32) × (Nat → Int32) × (Nat → Int32) × (Nat → Int32) × (Nat → Int32) × (Nat → Int64) × (Nat → Int32)) (ms_25 : Nat → Int32) (mk_31 : Nat → Int32) (mf_35 : Nat → Int32) (mi_36 : Nat → Int32) (mo_37 : Nat → Int32) (mw_38 : Nat → Int32) (mn_39 : Nat → Int32) (m_41 : Int32) (mt_43 : Nat → Int64) (mq_44 : Nat → Int32) (rc117 : (Int32 × Int32 × Int32 × Int32) → Option (Int32 × Int32 × Int32 × Int32 × (Nat → Int32) × (Nat → Int32) × (Nat → Int32) × (Nat → Int32) × (Nat → Int32) × (Nat → Int32) × (Nat → Int32) × (Nat → Int64) × (Nat → Int32) × (Nat → Int32))) (s117 : Int32 × Int32 × Int32 × Int32) : Option (Int32 × Int32 × Int32 × Int32 × (Nat → Int32) × (Nat → Int32) × (Nat → Int32) × (Nat → Int32) × (Nat → Int32) × (Nat → Int32) × (Nat → Int32) × (Nat → Int64) × (Nat → Int32) × (Nat → Int32)) :=
if s52.1 ≤ s117.1 then (
j_X8_settles_191 rc52 s52 ms_25 mk_31 mf_35 mi_36 mo_37 mw_38 mn_39 m_41 mt_43 mq_44 s117.2.1 s117.2.2.1 s117.2.2.2) else (
if m_41 = (-4 : Int32) then (
if s117.2.1 = (-4 : Int32) then (
zg (zin s117.1 301) (
zg (zin s52.1 301) (
if (lg_cmp (mt_43 (zn s117.1)) (mt_43 (zn s52.1))) = 0 then (
zlet s117.1 fun m_61 =>
zlet (s52.1 - s117.1) fun m_62 =>
zg (zin s52.1 301) (
zg (zin s117.1 301) (
zlet ((mq_44 (zn s52.1)) - (mq_44 (zn s117.1))) fun m_63 =>
j_X8_settles_185 rc117 s117 m_61 m_62 m_63))) else (
j_X8_settles_185 rc117 s117 s117.2.1 s117.2.2.1 s117.2.2.2)))) else (
j_X8_settles_191 rc52 s52 ms_25 mk_31 mf_35 mi_36 mo_37 mw_38 mn_39 m_41 mt_43 mq_44 s117.2.1 s117.2.2.1 s117.2.2.2)) else (
j_X8_settles_191 rc52 s52 ms_25 mk_31 mf_35 mi_36 mo_37 mw_38 mn_39 m_41 mt_43 mq_44 s117.2.1 s117.2.2.1 s117.2.2.2))
def j_X8_settles_93 (rc52 : (Int32 × Int32 × Int32 × Int32 × Int32 × (Nat → Int32) × (Nat → Int32) × (Nat → Int32) × (Nat → Int32) × (Nat → Int32) × (Nat → Int32) × (Nat → Int32) × (Nat → Int64) × (Nat → Int32)) → Option (Int32 × Int32 × Int32 × Int32 × (Nat → Int32) × (Nat → Int32) × (Nat → Int32) × (Nat → Int32) × (Nat → Int32) × (Nat → Int32) × (Nat → Int32) × (Nat → Int64) × (Nat → Int32) × (Nat → Int32))) (s52 : Int32 × Int32 × Int32 × Int32 × Int32 × (Nat → Int32) × (Nat → Int32) × (Nat → Int32) × (Nat → Int32) × (Nat → Int32) × (Nat → Int32) × (Nat → Int32) × (Nat → Int64) × (Nat → Int32)) (m_22 : Int32) (m_23 : Int32) (m_24 : Int32) (ms_25 : Nat → Int32) (mk_31 : Nat → Int32) (mt_32 : Nat → Int64) (mq_33 : Nat → Int32) (mf_35 : Nat → Int32) (mi_36 : Nat → Int32) (mo_37 : Nat → Int32) (mw_38 : Nat → Int32) (mn_39 : Nat → Int32) (m_41 : Int32) : Option (Int32 × Int32 × Int32 × Int32 × (Nat → Int32) × (Nat → Int32) × (Nat → Int32) × (Nat → Int32) × (Nat → Int32) × (Nat → Int32) × (Nat → Int32) × (Nat → Int64) × (Nat → Int32) × (Nat → Int32)) :=
zbd (f_X8_codeOf ms_25) fun o42 =>
zg (zin s52.1 301) (
zlet (vp_updL mt_32 (zn s52.1) o42) fun mt_43 =>
zg (zin 3 114) (
zg (zin s52.1 301) (
zlet (upd mq_33 (zn s52.1) (ms_25 (zn 3))) fun mq_44 =>
zloop (b_X8_settles_117 rc52 s52 ms_25 mk_31 mf_35 mi_36 mo_37 mw_38 mn_39 m_41 mt_43 mq_44) 1000 (0, m_22, m_23, m_24))))
def b_X8_settles_52 (mz_5 : Nat → Int32) (rc52 : (Int32 × Int32 × Int32 × Int32 × Int32 × (Nat → Int32) × (Nat → Int32) × (Nat → Int32) × (Nat → Int32) × (Nat → Int32) × (Nat → Int32) × (Nat → Int32) × (Nat → Int64) × (Nat → Int32)) → Option (Int32 × Int32 × Int32 × Int32 × (Nat → Int32) × (Nat → Int32) × (Nat → Int32) × (Nat → Int32) × (Nat → Int32) × (Nat → Int32) × (Nat → Int32) × (Nat → Int64) × (Nat → Int32) × (Nat → Int32))) (s52 : Int32 × Int32 × Int32 × Int32 × Int32 × (Nat → Int32) × (Nat → Int32) × (Nat → Int32) × (Nat → Int32) × (Nat → Int32) × (Nat → Int32) × (Nat → Int32) × (Nat → Int64) × (Nat → Int32)) : Option (Int32 × Int32 × Int32 × Int32 × (Nat → Int32) × (Nat → Int32) × (Nat → Int32) × (Nat → Int32) × (Nat → Int32) × (Nat → Int32) × (Nat → Int32) × (Nat → Int64) × (Nat → Int32) × (Nat → Int32)) :=
zlet s52.2.1 fun m_21 =>
zlet s52.2.2.1 fun m_22 =>
zlet s52.2.2.2.1 fun m_23 =>
zlet s52.2.2.2.2.1 fun m_24 =>
zlet s52.2.2.2.2.2.1 fun ms_25 =>
zlet s52.2.2.2.2.2.2.1 fun mf_26 =>
zlet s52.2.2.2.2.2.2.2.1 fun mi_27 =>
zlet s52.2.2.2.2.2.2.2.2.1 fun mo_28 =>
zlet s52.2.2.2.2.2.2.2.2.2.1 fun mw_29 =>
zlet s52.2.2.2.2.2.2.2.2.2.2.1 fun mn_30 =>
zlet s52.2.2.2.2.2.2.2.2.2.2.2.1 fun mk_31 =>
zlet s52.2.2.2.2.2.2.2.2.2.2.2.2.1 fun mt_32 =>
zlet s52.2.2.2.2.2.2.2.2.2.2.2.2.2 fun mq_33 =>
if (300 : Int32) < s52.1 then (
j_X8_settles_201 mz_5 m_21 m_22 m_23 m_24 ms_25 mf_26 mi_27 mo_28 mw_29 mn_30 mk_31 mt_32 mq_33) else (
if m_21 = (-4 : Int32) then (
if m_22 = (-4 : Int32) then (
zbd (f_X8_lays ms_25 mf_26 mi_27 mo_28 mw_29 mn_30) fun o34 =>
zlet (o34.1) fun mf_35 =>
zlet (o34.2.1) fun mi_36 =>
zlet (o34.2.2.1) fun mo_37 =>
zlet (o34.2.2.2.1) fun mw_38 =>
zlet (o34.2.2.2.2) fun mn_39 =>
zbd (f_X8_isQuiet ms_25 mn_39) fun o40 =>
if o40 = 0 then (
j_X8_settles_93 rc52 s52 m_22 m_23 m_24 ms_25 mk_31 mt_32 mq_33 mf_35 mi_36 mo_37 mw_38 mn_39 m_21) else (
zlet s52.1 fun m_64 =>
j_X8_settles_93 rc52 s52 m_22 m_23 m_24 ms_25 mk_31 mt_32 mq_33 mf_35 mi_36 mo_37 mw_38 mn_39 m_64)) else (
j_X8_settles_201 mz_5 m_21 m_22 m_23 m_24 ms_25 mf_26 mi_27 mo_28 mw_29 mn_30 mk_31 mt_32 mq_33)) else (
j_X8_settles_201 mz_5 m_21 m_22 m_23 m_24 ms_25 mf_26 mi_27 mo_28 mw_29 mn_30 mk_31 mt_32 mq_33))
def j_X8_settles_50 (ms : Nat → Int32) (mf : Nat → Int32) (mi : Nat → Int32) (mo : Nat → Int32) (mw : Nat → Int32) (mn : Nat → Int32) (mk : Nat → Int32) (mt : Nat → Int64) (mq : Nat → Int32) (m_1 : Int32) (m_2 : Int32) (m_3 : Int32) (m_4 : Int32) (mz_5 : Nat → Int32) : Option (Int32 × Int32 × Int32 × Int32 × (Nat → Int32) × (Nat → Int32) × (Nat → Int32) × (Nat → Int32) × (Nat → Int32) × (Nat → Int32) × (Nat → Int32) × (Nat → Int64) × (Nat → Int32) × (Nat → Int32)) :=
zloop (b_X8_settles_52 mz_5) 1000 (0, m_1, m_2, m_3, m_4, ms, mf, mi, mo, mw, mn, mk, mt, mq)
def b_X8_settles_26 (ms : Nat → Int32) (mf : Nat → Int32) (mi : Nat → Int32) (mo : Nat → Int32) (mw : Nat → Int32) (mn : Nat → Int32) (mk : Nat → Int32) (mt : Nat → Int64) (mq : Nat → Int32) (m_1 : Int32) (m_2 : Int32) (m_3 : Int32) (m_4 : Int32) (rc26 : (Int32 × (Nat → Int32)) → Option (Int32 × Int32 × Int32 × Int32 × (Nat → Int32) × (Nat → Int32) × (Nat → Int32) × (Nat → Int32) × (Nat → Int32) × (Nat → Int32) × (Nat → Int32) × (Nat → Int64) × (Nat → Int32) × (Nat → Int32))) (s26 : Int32 × (Nat → Int32)) : Option (Int32 × Int32 × Int32 × Int32 × (Nat → Int32) × (Nat → Int32) × (Nat → Int32) × (Nat → Int32) × (Nat → Int32) × (Nat → Int32) × (Nat → Int32) × (Nat → Int64) × (Nat → Int32) × (Nat → Int32)) :=
if (114 : Int32) ≤ s26.1 then (
j_X8_settles_50 ms mf mi mo mw mn mk mt mq m_1 m_2 m_3 m_4 s26.2) else (
zg (zin s26.1 114) (
zg (zin s26.1 114) (
zlet (upd s26.2 (zn s26.1) (ms (zn s26.1))) fun mz_65 =>
zlet (s26.1 + 1) fun x66 =>
rc26 (x66, mz_65))))
def f_X8_settles (ms : Nat → Int32) (mf : Nat → Int32) (mi : Nat → Int32) (mo : Nat → Int32) (mw : Nat → Int32) (mn : Nat → Int32) (mk : Nat → Int32) (mt : Nat → Int64) (mq : Nat → Int32) (mz : Nat → Int32) : Option (Int32 × Int32 × Int32 × Int32 × (Nat → Int32) × (Nat → Int32) × (Nat → Int32) × (Nat → Int32) × (Nat → Int32) × (Nat → Int32) × (Nat → Int32) × (Nat → Int64) × (Nat → Int32) × (Nat → Int32)) :=
zlet (-4) fun m_1 =>
zlet (-4) fun m_2 =>
zlet (-4) fun m_3 =>
zlet (-4) fun m_4 =>
zloop (b_X8_settles_26 ms mf mi mo mw mn mk mt mq m_1 m_2 m_3 m_4) 1000 (0, mz)
set_option maxHeartbeats 4000000 in
set_option maxRecDepth 100000 in
theorem c_X8_settles (l : Launch) (G : va_G) (cy : Nat → ClassId) (st : Nat → Nat) (a : Nat → Nat) (m0 : Int32) (m1 : Int32) (m2 : Int32) (m3 : Int32) (m4 : Int32) (m5 : Int32) (m6 : Int32) (m7 : Int32) (m8 : Int32) (m9 : Int32) (mb : Nat → Int32) (ms : Nat → Int32) (md : Nat → Int32) (mp : Nat → Int32) (mf : Nat → Int32) (mi : Nat → Int32) (mo : Nat → Int32) (mw : Nat → Int32) (mn : Nat → Int32) (mk : Nat → Int32) (mt : Nat → Int64) (mq : Nat → Int32) (mz : Nat → Int32) (me : Nat → Int32) (o : Int32 × Int32 × Int32 × Int32 × (Nat → Int32) × (Nat → Int32) × (Nat → Int32) × (Nat → Int32) × (Nat → Int32) × (Nat → Int32) × (Nat → Int32) × (Nat → Int64) × (Nat → Int32) × (Nat → Int32)) (hF : f_X8_settles ms mf mi mo mw mn mk mt mq mz = some o) : zMv l yX8_settles wsX8_settles (zR 5) G cy st [.ref (a 0)] (wMo cy a m0 m1 m2 m3 m4 m5 m6 m7 m8 m9 mb ms md mp mf mi mo mw mn mk mt mq mz me) (wMo cy a m0 m1 m2 m3 m4 o.1 o.2.1 o.2.2.1 o.2.2.2.1 m9 mb o.2.2.2.2.1 md mp o.2.2.2.2.2.1 o.2.2.2.2.2.2.1 o.2.2.2.2.2.2.2.1 o.2.2.2.2.2.2.2.2.1 o.2.2.2.2.2.2.2.2.2.1 o.2.2.2.2.2.2.2.2.2.2.1 o.2.2.2.2.2.2.2.2.2.2.2.1 o.2.2.2.2.2.2.2.2.2.2.2.2.1 o.2.2.2.2.2.2.2.2.2.2.2.2.2 me) := by
  refine zM_of (cc := cX8_settles) (maxL := 3) (ret := none) (Qc := fun A => zQv G cy A (wMo cy a m0 m1 m2 m3 m4 o.1 o.2.1 o.2.2.1 o.2.2.2.1 m9 mb o.2.2.2.2.1 md mp o.2.2.2.2.2.1 o.2.2.2.2.2.2.1 o.2.2.2.2.2.2.2.1 o.2.2.2.2.2.2.2.2.1 o.2.2.2.2.2.2.2.2.2.1 o.2.2.2.2.2.2.2.2.2.2.1 o.2.2.2.2.2.2.2.2.2.2.2.1 o.2.2.2.2.2.2.2.2.2.2.2.2.1 o.2.2.2.2.2.2.2.2.2.2.2.2.2 me)) (by decide) rfl (Nat.le_of_ble_eq_true rfl) ?_
  intro p e s m below meth c A ls hx hb hml hr hlocks hown hts hK hSE hA hP hD hS hl
  have hown : s.vm.findClass RX8 = some m.cls := hown
  have hl : lv_has ls 3 [(0, .ref (a 0))] := hl
  have k145 := hts (.fieldLink RX8 145 "TapCascadeModel" "quietBehind" "I") (by decide +kernel)
  have iX8 : ∀ w ∈ wsX80, w ∈ wsX8_settles := fun w h => List.mem_cons_of_mem _ (List.mem_append_right _ h)
  have k148 := hts (.fieldLink RX8 148 "TapCascadeModel" "roundFrom" "I") (by decide +kernel)
  have k151 := hts (.fieldLink RX8 151 "TapCascadeModel" "roundLong" "I") (by decide +kernel)
  have k154 := hts (.fieldLink RX8 154 "TapCascadeModel" "roundSteps" "I") (by decide +kernel)
  have k13 := hts (.fieldLink RX8 13 "TapCascadeModel" "s" "[I") (by decide +kernel)
  have k49 := hts (.fieldLink RX8 49 "TapCascadeModel" "spare" "[I") (by decide +kernel)
  have k42 := hts (.fieldLink RX8 42 "TapCascadeModel" "met" "[J") (by decide +kernel)
  have k46 := hts (.fieldLink RX8 46 "TapCascadeModel" "stepsThen" "[I") (by decide +kernel)
  unfold f_X8_settles at hF
  refine lv_aload_n hx hb dX8_settles_0 rfl (lv_at hl 0 rfl) ?_
  refine lv_bipush (v := (-4)) hx hb dX8_settles_1 (by decide) ?_
  refine z_puti (ci := 8) (C := RX8) (T := TX8) (N := 24) (fs := (zMo a m0 m1 m2 m3 m4 m5 m6 m7 m8 m9)) (x := (-4)) (wf := (fun y => (wMo cy a m0 m1 m2 m3 m4 y m6 m7 m8 m9 mb ms md mp mf mi mo mw mn mk mt mq mz me))) hx hb hts iX8 tyX8 tyX8_ok nmX8 hown hK hP hD hS _ 18 (wMo_foc0_18 cy a m0 m1 m2 m3 m4 m5 m6 m7 m8 m9 mb ms md mp mf mi mo mw mn mk mt mq mz me (-4)) rfl (by decide) k145 (fun _ h9 => h9) rfl (by decide +kernel) (Nat.le_of_ble_eq_true rfl) hF dX8_settles_3 (fun m_1 hF H locs hP hD hS => ?_)
  refine lv_aload_n hx hb dX8_settles_6 rfl (lv_at hl 0 rfl) ?_
  refine lv_bipush (v := (-4)) hx hb dX8_settles_7 (by decide) ?_
  refine z_puti (ci := 8) (C := RX8) (T := TX8) (N := 24) (fs := (zMo a m0 m1 m2 m3 m4 m_1 m6 m7 m8 m9)) (x := (-4)) (wf := (fun y => (wMo cy a m0 m1 m2 m3 m4 m_1 y m7 m8 m9 mb ms md mp mf mi mo mw mn mk mt mq mz me))) hx hb hts iX8 tyX8 tyX8_ok nmX8 hown hK hP hD hS _ 19 (wMo_foc0_19 cy a m0 m1 m2 m3 m4 m_1 m6 m7 m8 m9 mb ms md mp mf mi mo mw mn mk mt mq mz me (-4)) rfl (by decide) k148 (fun _ h9 => h9) rfl (by decide +kernel) (Nat.le_of_ble_eq_true rfl) hF dX8_settles_9 (fun m_2 hF H locs hP hD hS => ?_)
  refine lv_aload_n hx hb dX8_settles_12 rfl (lv_at hl 0 rfl) ?_
  refine lv_bipush (v := (-4)) hx hb dX8_settles_13 (by decide) ?_
  refine z_puti (ci := 8) (C := RX8) (T := TX8) (N := 24) (fs := (zMo a m0 m1 m2 m3 m4 m_1 m_2 m7 m8 m9)) (x := (-4)) (wf := (fun y => (wMo cy a m0 m1 m2 m3 m4 m_1 m_2 y m8 m9 mb ms md mp mf mi mo mw mn mk mt mq mz me))) hx hb hts iX8 tyX8 tyX8_ok nmX8 hown hK hP hD hS _ 20 (wMo_foc0_20 cy a m0 m1 m2 m3 m4 m_1 m_2 m7 m8 m9 mb ms md mp mf mi mo mw mn mk mt mq mz me (-4)) rfl (by decide) k151 (fun _ h9 => h9) rfl (by decide +kernel) (Nat.le_of_ble_eq_true rfl) hF dX8_settles_15 (fun m_3 hF H locs hP hD hS => ?_)
  refine lv_aload_n hx hb dX8_settles_18 rfl (lv_at hl 0 rfl) ?_
  refine lv_bipush (v := (-4)) hx hb dX8_settles_19 (by decide) ?_
  refine z_puti (ci := 8) (C := RX8) (T := TX8) (N := 24) (fs := (zMo a m0 m1 m2 m3 m4 m_1 m_2 m_3 m8 m9)) (x := (-4)) (wf := (fun y => (wMo cy a m0 m1 m2 m3 m4 m_1 m_2 m_3 y m9 mb ms md mp mf mi mo mw mn mk mt mq mz me))) hx hb hts iX8 tyX8 tyX8_ok nmX8 hown hK hP hD hS _ 21 (wMo_foc0_21 cy a m0 m1 m2 m3 m4 m_1 m_2 m_3 m8 m9 mb ms md mp mf mi mo mw mn mk mt mq mz me (-4)) rfl (by decide) k154 (fun _ h9 => h9) rfl (by decide +kernel) (Nat.le_of_ble_eq_true rfl) hF dX8_settles_21 (fun m_4 hF H locs hP hD hS => ?_)
  refine lv_iconst (v := 0) hx hb dX8_settles_24 (by decide) ?_
  refine lv_istore_n (lv' := [(1, .int 0), (0, .ref (a 0))]) hx hb dX8_settles_25 rfl hl (by decide) rfl (fun ls hl => ?_)
  have J50 : ∀ (mz_5 : Nat → Int32) (H : Heap) (locs : List Loc) (ls : Array Slot), va_P G vwCl (wMo cy a m0 m1 m2 m3 m4 m_1 m_2 m_3 m_4 m9 mb ms md mp mf mi mo mw mn mk mt mq mz_5 me) H → va_D A (wMo cy a m0 m1 m2 m3 m4 m_1 m_2 m_3 m_4 m9 mb ms md mp mf mi mo mw mn mk mt mq mz_5 me) → va_S A s.heap H locs → lv_has ls 3 [(0, .ref (a 0))] → j_X8_settles_50 ms mf mi mo mw mn mk mt mq m_1 m_2 m_3 m_4 mz_5 = some o → W p l e (zR 5) s m ([.ref (a 0)] : List Value).toArray below meth c H locs 0 0 (MQ below (zQv G cy A (wMo cy a m0 m1 m2 m3 m4 o.1 o.2.1 o.2.2.1 o.2.2.2.1 m9 mb o.2.2.2.2.1 md mp o.2.2.2.2.2.1 o.2.2.2.2.2.2.1 o.2.2.2.2.2.2.2.1 o.2.2.2.2.2.2.2.2.1 o.2.2.2.2.2.2.2.2.2.1 o.2.2.2.2.2.2.2.2.2.2.1 o.2.2.2.2.2.2.2.2.2.2.2.1 o.2.2.2.2.2.2.2.2.2.2.2.2.1 o.2.2.2.2.2.2.2.2.2.2.2.2.2 me)) ([.ref (a 0)] : List Value).toArray s 0 0 A) (F0 m 50 ls []) := by
    intro mz_5 H locs ls hP hD hS hl hF
    unfold j_X8_settles_50 at hF
    refine lv_iconst (v := 0) hx hb dX8_settles_50 (by decide) ?_
    refine lv_istore_n (lv' := [(1, .int 0), (0, .ref (a 0))]) hx hb dX8_settles_51 rfl hl (by decide) rfl (fun ls hl => ?_)
    have J201 : ∀ (m_6 : Int32) (m_7 : Int32) (m_8 : Int32) (m_9 : Int32) (ms_10 : Nat → Int32) (mf_11 : Nat → Int32) (mi_12 : Nat → Int32) (mo_13 : Nat → Int32) (mw_14 : Nat → Int32) (mn_15 : Nat → Int32) (mk_16 : Nat → Int32) (mt_17 : Nat → Int64) (mq_18 : Nat → Int32) (H : Heap) (locs : List Loc) (ls : Array Slot), va_P G vwCl (wMo cy a m0 m1 m2 m3 m4 m_6 m_7 m_8 m_9 m9 mb ms_10 md mp mf_11 mi_12 mo_13 mw_14 mn_15 mk_16 mt_17 mq_18 mz_5 me) H → va_D A (wMo cy a m0 m1 m2 m3 m4 m_6 m_7 m_8 m_9 m9 mb ms_10 md mp mf_11 mi_12 mo_13 mw_14 mn_15 mk_16 mt_17 mq_18 mz_5 me) → va_S A s.heap H locs → lv_has ls 3 [(0, .ref (a 0))] → j_X8_settles_201 mz_5 m_6 m_7 m_8 m_9 ms_10 mf_11 mi_12 mo_13 mw_14 mn_15 mk_16 mt_17 mq_18 = some o → W p l e (zR 5) s m ([.ref (a 0)] : List Value).toArray below meth c H locs 0 0 (MQ below (zQv G cy A (wMo cy a m0 m1 m2 m3 m4 o.1 o.2.1 o.2.2.1 o.2.2.2.1 m9 mb o.2.2.2.2.1 md mp o.2.2.2.2.2.1 o.2.2.2.2.2.2.1 o.2.2.2.2.2.2.2.1 o.2.2.2.2.2.2.2.2.1 o.2.2.2.2.2.2.2.2.2.1 o.2.2.2.2.2.2.2.2.2.2.1 o.2.2.2.2.2.2.2.2.2.2.2.1 o.2.2.2.2.2.2.2.2.2.2.2.2.1 o.2.2.2.2.2.2.2.2.2.2.2.2.2 me)) ([.ref (a 0)] : List Value).toArray s 0 0 A) (F0 m 201 ls []) := by
      intro m_6 m_7 m_8 m_9 ms_10 mf_11 mi_12 mo_13 mw_14 mn_15 mk_16 mt_17 mq_18 H locs ls hP hD hS hl hF
      unfold j_X8_settles_201 at hF
      refine lv_iconst (v := 0) hx hb dX8_settles_201 (by decide) ?_
      refine lv_istore_n (lv' := [(1, .int 0), (0, .ref (a 0))]) hx hb dX8_settles_202 rfl hl (by decide) rfl (fun ls hl => ?_)
      have L203 : ∀ (n : Nat) (s203 : Int32 × (Nat → Int32)) (H : Heap) (locs : List Loc) (ls : Array Slot), va_P G vwCl (wMo cy a m0 m1 m2 m3 m4 m_6 m_7 m_8 m_9 m9 mb s203.2 md mp mf_11 mi_12 mo_13 mw_14 mn_15 mk_16 mt_17 mq_18 mz_5 me) H → va_D A (wMo cy a m0 m1 m2 m3 m4 m_6 m_7 m_8 m_9 m9 mb s203.2 md mp mf_11 mi_12 mo_13 mw_14 mn_15 mk_16 mt_17 mq_18 mz_5 me) → va_S A s.heap H locs → lv_has ls 3 [(0, .ref (a 0)), (1, .int s203.1)] → zloop (b_X8_settles_203 mz_5 m_6 m_7 m_8 m_9 mf_11 mi_12 mo_13 mw_14 mn_15 mk_16 mt_17 mq_18) n s203 = some o → W p l e (zR 5) s m ([.ref (a 0)] : List Value).toArray below meth c H locs 0 0 (MQ below (zQv G cy A (wMo cy a m0 m1 m2 m3 m4 o.1 o.2.1 o.2.2.1 o.2.2.2.1 m9 mb o.2.2.2.2.1 md mp o.2.2.2.2.2.1 o.2.2.2.2.2.2.1 o.2.2.2.2.2.2.2.1 o.2.2.2.2.2.2.2.2.1 o.2.2.2.2.2.2.2.2.2.1 o.2.2.2.2.2.2.2.2.2.2.1 o.2.2.2.2.2.2.2.2.2.2.2.1 o.2.2.2.2.2.2.2.2.2.2.2.2.1 o.2.2.2.2.2.2.2.2.2.2.2.2.2 me)) ([.ref (a 0)] : List Value).toArray s 0 0 A) (F0 m 203 ls []) := by
        intro n
        induction n with
        | zero => exact fun s203 H locs ls _ _ _ _ hF => (zloop_0 hF).elim
        | succ n ih203 =>
          intro s203 H locs ls hP hD hS hl hF
          have hF : b_X8_settles_203 mz_5 m_6 m_7 m_8 m_9 mf_11 mi_12 mo_13 mw_14 mn_15 mk_16 mt_17 mq_18 (zloop (b_X8_settles_203 mz_5 m_6 m_7 m_8 m_9 mf_11 mi_12 mo_13 mw_14 mn_15 mk_16 mt_17 mq_18) n) s203 = some o := hF
          generalize zloop (b_X8_settles_203 mz_5 m_6 m_7 m_8 m_9 mf_11 mi_12 mo_13 mw_14 mn_15 mk_16 mt_17 mq_18) n = rc203 at ih203 hF
          unfold b_X8_settles_203 at hF
          refine lv_iload_n hx hb dX8_settles_203 rfl (lv_at hl 1 rfl) ?_
          refine lv_bipush (v := 114) hx hb dX8_settles_204 (by decide) ?_
          refine zi_ge (tgt := 227) hx hb hF dX8_settles_206 (by decide) (fun hF => ?_) (fun hF => ?_)
          · refine z_vret (o := o) (o1 := (m_6, m_7, m_8, m_9, s203.2, mf_11, mi_12, mo_13, mw_14, mn_15, mk_16, mt_17, mq_18, mz_5)) (wf := (fun o => (wMo cy a m0 m1 m2 m3 m4 o.1 o.2.1 o.2.2.1 o.2.2.2.1 m9 mb o.2.2.2.2.1 md mp o.2.2.2.2.2.1 o.2.2.2.2.2.2.1 o.2.2.2.2.2.2.2.1 o.2.2.2.2.2.2.2.2.1 o.2.2.2.2.2.2.2.2.2.1 o.2.2.2.2.2.2.2.2.2.2.1 o.2.2.2.2.2.2.2.2.2.2.2.1 o.2.2.2.2.2.2.2.2.2.2.2.2.1 o.2.2.2.2.2.2.2.2.2.2.2.2.2 me))) hx hb hr hlocks hK ?_ ?_ hS ?_ dX8_settles_227
            · exact hP
            · exact hD
            · exact hF
          · refine lv_aload_n hx hb dX8_settles_209 rfl (lv_at hl 0 rfl) ?_
            refine va_get (ci := 8) (C := RX8) (T := TX8) (N := 24) (fs := (zMo a m0 m1 m2 m3 m4 m_6 m_7 m_8 m_9 m9)) (v := .ref (a 2)) hx hb hts iX8 hown hK hP _ (wMo_at0 cy a m0 m1 m2 m3 m4 m_6 m_7 m_8 m_9 m9 mb s203.2 md mp mf_11 mi_12 mo_13 mw_14 mn_15 mk_16 mt_17 mq_18 mz_5 me) rfl 3 (by decide) k13 (fun _ h9 => h9) rfl dX8_settles_210 ?_
            refine lv_iload_n hx hb dX8_settles_213 rfl (lv_at hl 1 rfl) ?_
            refine lv_aload_n hx hb dX8_settles_214 rfl (lv_at hl 0 rfl) ?_
            refine va_get (ci := 8) (C := RX8) (T := TX8) (N := 24) (fs := (zMo a m0 m1 m2 m3 m4 m_6 m_7 m_8 m_9 m9)) (v := .ref (a 13)) hx hb hts iX8 hown hK hP _ (wMo_at0 cy a m0 m1 m2 m3 m4 m_6 m_7 m_8 m_9 m9 mb s203.2 md mp mf_11 mi_12 mo_13 mw_14 mn_15 mk_16 mt_17 mq_18 mz_5 me) rfl 17 (by decide) k49 (fun _ h9 => h9) rfl dX8_settles_215 ?_
            refine lv_iload_n hx hb dX8_settles_218 rfl (lv_at hl 1 rfl) ?_
            refine z_iald (n := 114) (f := mz_5) hx hb hK hP _ 1 (wMo_at13 cy a m0 m1 m2 m3 m4 m_6 m_7 m_8 m_9 m9 mb s203.2 md mp mf_11 mi_12 mo_13 mw_14 mn_15 mk_16 mt_17 mq_18 mz_5 me) rfl hF dX8_settles_219 (fun hF => ?_)
            refine z_iast (n := 114) (f := s203.2) (i := s203.1) (x := (mz_5 (zn s203.1))) (wf := (fun y => (wMo cy a m0 m1 m2 m3 m4 m_6 m_7 m_8 m_9 m9 mb y md mp mf_11 mi_12 mo_13 mw_14 mn_15 mk_16 mt_17 mq_18 mz_5 me))) hx hb hK hP hD hS _ 1 (wMo_foc2 cy a m0 m1 m2 m3 m4 m_6 m_7 m_8 m_9 m9 mb s203.2 md mp mf_11 mi_12 mo_13 mw_14 mn_15 mk_16 mt_17 mq_18 mz_5 me _) rfl hF dX8_settles_220 (fun ms_19 hF H locs hP hD hS => ?_)
            refine z_name hF (fun x20 ex20 hF => ?_)
            refine lv_iinc (v := x20) (lv' := [(1, .int x20), (0, .ref (a 0))]) hx hb dX8_settles_221 hl (k := 1) rfl (by rw [ex20]; rfl) (by decide) rfl (fun ls hl => ?_)
            refine lv_goto (tgt := 203) hx hb dX8_settles_224 (by decide) ?_
            exact ih203 (x20, ms_19) _ _ ls hP hD hS (lv_sub hl [1, 0] rfl) hF
      exact L203 1000 (0, ms_10) _ _ ls hP hD hS (lv_sub hl [1, 0] rfl) hF
    have L52 : ∀ (n : Nat) (s52 : Int32 × Int32 × Int32 × Int32 × Int32 × (Nat → Int32) × (Nat → Int32) × (Nat → Int32) × (Nat → Int32) × (Nat → Int32) × (Nat → Int32) × (Nat → Int32) × (Nat → Int64) × (Nat → Int32)) (H : Heap) (locs : List Loc) (ls : Array Slot), va_P G vwCl (wMo cy a m0 m1 m2 m3 m4 s52.2.1 s52.2.2.1 s52.2.2.2.1 s52.2.2.2.2.1 m9 mb s52.2.2.2.2.2.1 md mp s52.2.2.2.2.2.2.1 s52.2.2.2.2.2.2.2.1 s52.2.2.2.2.2.2.2.2.1 s52.2.2.2.2.2.2.2.2.2.1 s52.2.2.2.2.2.2.2.2.2.2.1 s52.2.2.2.2.2.2.2.2.2.2.2.1 s52.2.2.2.2.2.2.2.2.2.2.2.2.1 s52.2.2.2.2.2.2.2.2.2.2.2.2.2 mz_5 me) H → va_D A (wMo cy a m0 m1 m2 m3 m4 s52.2.1 s52.2.2.1 s52.2.2.2.1 s52.2.2.2.2.1 m9 mb s52.2.2.2.2.2.1 md mp s52.2.2.2.2.2.2.1 s52.2.2.2.2.2.2.2.1 s52.2.2.2.2.2.2.2.2.1 s52.2.2.2.2.2.2.2.2.2.1 s52.2.2.2.2.2.2.2.2.2.2.1 s52.2.2.2.2.2.2.2.2.2.2.2.1 s52.2.2.2.2.2.2.2.2.2.2.2.2.1 s52.2.2.2.2.2.2.2.2.2.2.2.2.2 mz_5 me) → va_S A s.heap H locs → lv_has ls 3 [(0, .ref (a 0)), (1, .int s52.1)] → zloop (b_X8_settles_52 mz_5) n s52 = some o → W p l e (zR 5) s m ([.ref (a 0)] : List Value).toArray below meth c H locs 0 0 (MQ below (zQv G cy A (wMo cy a m0 m1 m2 m3 m4 o.1 o.2.1 o.2.2.1 o.2.2.2.1 m9 mb o.2.2.2.2.1 md mp o.2.2.2.2.2.1 o.2.2.2.2.2.2.1 o.2.2.2.2.2.2.2.1 o.2.2.2.2.2.2.2.2.1 o.2.2.2.2.2.2.2.2.2.1 o.2.2.2.2.2.2.2.2.2.2.1 o.2.2.2.2.2.2.2.2.2.2.2.1 o.2.2.2.2.2.2.2.2.2.2.2.2.1 o.2.2.2.2.2.2.2.2.2.2.2.2.2 me)) ([.ref (a 0)] : List Value).toArray s 0 0 A) (F0 m 52 ls []) := by
      intro n
      induction n with
      | zero => exact fun s52 H locs ls _ _ _ _ hF => (zloop_0 hF).elim
      | succ n ih52 =>
        intro s52 H locs ls hP hD hS hl hF
        have hF : b_X8_settles_52 mz_5 (zloop (b_X8_settles_52 mz_5) n) s52 = some o := hF
        generalize zloop (b_X8_settles_52 mz_5) n = rc52 at ih52 hF
        unfold b_X8_settles_52 at hF
        refine z_nameW (wf := (fun y => (wMo cy a m0 m1 m2 m3 m4 y s52.2.2.1 s52.2.2.2.1 s52.2.2.2.2.1 m9 mb s52.2.2.2.2.2.1 md mp s52.2.2.2.2.2.2.1 s52.2.2.2.2.2.2.2.1 s52.2.2.2.2.2.2.2.2.1 s52.2.2.2.2.2.2.2.2.2.1 s52.2.2.2.2.2.2.2.2.2.2.1 s52.2.2.2.2.2.2.2.2.2.2.2.1 s52.2.2.2.2.2.2.2.2.2.2.2.2.1 s52.2.2.2.2.2.2.2.2.2.2.2.2.2 mz_5 me))) hF hP hD (fun m_21 hF hP hD => ?_)
        refine z_nameW (wf := (fun y => (wMo cy a m0 m1 m2 m3 m4 m_21 y s52.2.2.2.1 s52.2.2.2.2.1 m9 mb s52.2.2.2.2.2.1 md mp s52.2.2.2.2.2.2.1 s52.2.2.2.2.2.2.2.1 s52.2.2.2.2.2.2.2.2.1 s52.2.2.2.2.2.2.2.2.2.1 s52.2.2.2.2.2.2.2.2.2.2.1 s52.2.2.2.2.2.2.2.2.2.2.2.1 s52.2.2.2.2.2.2.2.2.2.2.2.2.1 s52.2.2.2.2.2.2.2.2.2.2.2.2.2 mz_5 me))) hF hP hD (fun m_22 hF hP hD => ?_)
        refine z_nameW (wf := (fun y => (wMo cy a m0 m1 m2 m3 m4 m_21 m_22 y s52.2.2.2.2.1 m9 mb s52.2.2.2.2.2.1 md mp s52.2.2.2.2.2.2.1 s52.2.2.2.2.2.2.2.1 s52.2.2.2.2.2.2.2.2.1 s52.2.2.2.2.2.2.2.2.2.1 s52.2.2.2.2.2.2.2.2.2.2.1 s52.2.2.2.2.2.2.2.2.2.2.2.1 s52.2.2.2.2.2.2.2.2.2.2.2.2.1 s52.2.2.2.2.2.2.2.2.2.2.2.2.2 mz_5 me))) hF hP hD (fun m_23 hF hP hD => ?_)
        refine z_nameW (wf := (fun y => (wMo cy a m0 m1 m2 m3 m4 m_21 m_22 m_23 y m9 mb s52.2.2.2.2.2.1 md mp s52.2.2.2.2.2.2.1 s52.2.2.2.2.2.2.2.1 s52.2.2.2.2.2.2.2.2.1 s52.2.2.2.2.2.2.2.2.2.1 s52.2.2.2.2.2.2.2.2.2.2.1 s52.2.2.2.2.2.2.2.2.2.2.2.1 s52.2.2.2.2.2.2.2.2.2.2.2.2.1 s52.2.2.2.2.2.2.2.2.2.2.2.2.2 mz_5 me))) hF hP hD (fun m_24 hF hP hD => ?_)
        refine z_nameW (wf := (fun y => (wMo cy a m0 m1 m2 m3 m4 m_21 m_22 m_23 m_24 m9 mb y md mp s52.2.2.2.2.2.2.1 s52.2.2.2.2.2.2.2.1 s52.2.2.2.2.2.2.2.2.1 s52.2.2.2.2.2.2.2.2.2.1 s52.2.2.2.2.2.2.2.2.2.2.1 s52.2.2.2.2.2.2.2.2.2.2.2.1 s52.2.2.2.2.2.2.2.2.2.2.2.2.1 s52.2.2.2.2.2.2.2.2.2.2.2.2.2 mz_5 me))) hF hP hD (fun ms_25 hF hP hD => ?_)
        refine z_nameW (wf := (fun y => (wMo cy a m0 m1 m2 m3 m4 m_21 m_22 m_23 m_24 m9 mb ms_25 md mp y s52.2.2.2.2.2.2.2.1 s52.2.2.2.2.2.2.2.2.1 s52.2.2.2.2.2.2.2.2.2.1 s52.2.2.2.2.2.2.2.2.2.2.1 s52.2.2.2.2.2.2.2.2.2.2.2.1 s52.2.2.2.2.2.2.2.2.2.2.2.2.1 s52.2.2.2.2.2.2.2.2.2.2.2.2.2 mz_5 me))) hF hP hD (fun mf_26 hF hP hD => ?_)
        refine z_nameW (wf := (fun y => (wMo cy a m0 m1 m2 m3 m4 m_21 m_22 m_23 m_24 m9 mb ms_25 md mp mf_26 y s52.2.2.2.2.2.2.2.2.1 s52.2.2.2.2.2.2.2.2.2.1 s52.2.2.2.2.2.2.2.2.2.2.1 s52.2.2.2.2.2.2.2.2.2.2.2.1 s52.2.2.2.2.2.2.2.2.2.2.2.2.1 s52.2.2.2.2.2.2.2.2.2.2.2.2.2 mz_5 me))) hF hP hD (fun mi_27 hF hP hD => ?_)
        refine z_nameW (wf := (fun y => (wMo cy a m0 m1 m2 m3 m4 m_21 m_22 m_23 m_24 m9 mb ms_25 md mp mf_26 mi_27 y s52.2.2.2.2.2.2.2.2.2.1 s52.2.2.2.2.2.2.2.2.2.2.1 s52.2.2.2.2.2.2.2.2.2.2.2.1 s52.2.2.2.2.2.2.2.2.2.2.2.2.1 s52.2.2.2.2.2.2.2.2.2.2.2.2.2 mz_5 me))) hF hP hD (fun mo_28 hF hP hD => ?_)
        refine z_nameW (wf := (fun y => (wMo cy a m0 m1 m2 m3 m4 m_21 m_22 m_23 m_24 m9 mb ms_25 md mp mf_26 mi_27 mo_28 y s52.2.2.2.2.2.2.2.2.2.2.1 s52.2.2.2.2.2.2.2.2.2.2.2.1 s52.2.2.2.2.2.2.2.2.2.2.2.2.1 s52.2.2.2.2.2.2.2.2.2.2.2.2.2 mz_5 me))) hF hP hD (fun mw_29 hF hP hD => ?_)
        refine z_nameW (wf := (fun y => (wMo cy a m0 m1 m2 m3 m4 m_21 m_22 m_23 m_24 m9 mb ms_25 md mp mf_26 mi_27 mo_28 mw_29 y s52.2.2.2.2.2.2.2.2.2.2.2.1 s52.2.2.2.2.2.2.2.2.2.2.2.2.1 s52.2.2.2.2.2.2.2.2.2.2.2.2.2 mz_5 me))) hF hP hD (fun mn_30 hF hP hD => ?_)
        refine z_nameW (wf := (fun y => (wMo cy a m0 m1 m2 m3 m4 m_21 m_22 m_23 m_24 m9 mb ms_25 md mp mf_26 mi_27 mo_28 mw_29 mn_30 y s52.2.2.2.2.2.2.2.2.2.2.2.2.1 s52.2.2.2.2.2.2.2.2.2.2.2.2.2 mz_5 me))) hF hP hD (fun mk_31 hF hP hD => ?_)
        refine z_nameW (wf := (fun y => (wMo cy a m0 m1 m2 m3 m4 m_21 m_22 m_23 m_24 m9 mb ms_25 md mp mf_26 mi_27 mo_28 mw_29 mn_30 mk_31 y s52.2.2.2.2.2.2.2.2.2.2.2.2.2 mz_5 me))) hF hP hD (fun mt_32 hF hP hD => ?_)
        refine z_nameW (wf := (fun y => (wMo cy a m0 m1 m2 m3 m4 m_21 m_22 m_23 m_24 m9 mb ms_25 md mp mf_26 mi_27 mo_28 mw_29 mn_30 mk_31 mt_32 y mz_5 me))) hF hP hD (fun mq_33 hF hP hD => ?_)
        refine lv_iload_n hx hb dX8_settles_52 rfl (lv_at hl 1 rfl) ?_
        refine lv_sipush (v := 300) hx hb dX8_settles_53 (by decide) ?_
        refine zi_gt (tgt := 201) hx hb hF dX8_settles_56 (by decide) (fun hF => ?_) (fun hF => ?_)
        · exact J201 m_21 m_22 m_23 m_24 ms_25 mf_26 mi_27 mo_28 mw_29 mn_30 mk_31 mt_32 mq_33 _ _ ls hP hD hS (lv_sub hl [0] rfl) hF
        · refine lv_aload_n hx hb dX8_settles_59 rfl (lv_at hl 0 rfl) ?_
          refine va_get (ci := 8) (C := RX8) (T := TX8) (N := 24) (fs := (zMo a m0 m1 m2 m3 m4 m_21 m_22 m_23 m_24 m9)) (v := .int m_21) hx hb hts iX8 hown hK hP _ (wMo_at0 cy a m0 m1 m2 m3 m4 m_21 m_22 m_23 m_24 m9 mb ms_25 md mp mf_26 mi_27 mo_28 mw_29 mn_30 mk_31 mt_32 mq_33 mz_5 me) rfl 18 (by decide) k145 (fun _ h9 => h9) rfl dX8_settles_60 ?_
          refine lv_bipush (v := (-4)) hx hb dX8_settles_63 (by decide) ?_
          refine zi_ne (tgt := 201) hx hb hF dX8_settles_65 (by decide) (fun hF => ?_) (fun hF => ?_)
          · exact J201 m_21 m_22 m_23 m_24 ms_25 mf_26 mi_27 mo_28 mw_29 mn_30 mk_31 mt_32 mq_33 _ _ ls hP hD hS (lv_sub hl [0] rfl) hF
          · refine lv_aload_n hx hb dX8_settles_68 rfl (lv_at hl 0 rfl) ?_
            refine va_get (ci := 8) (C := RX8) (T := TX8) (N := 24) (fs := (zMo a m0 m1 m2 m3 m4 m_21 m_22 m_23 m_24 m9)) (v := .int m_22) hx hb hts iX8 hown hK hP _ (wMo_at0 cy a m0 m1 m2 m3 m4 m_21 m_22 m_23 m_24 m9 mb ms_25 md mp mf_26 mi_27 mo_28 mw_29 mn_30 mk_31 mt_32 mq_33 mz_5 me) rfl 19 (by decide) k148 (fun _ h9 => h9) rfl dX8_settles_69 ?_
            refine lv_bipush (v := (-4)) hx hb dX8_settles_72 (by decide) ?_
            refine zi_ne (tgt := 201) hx hb hF dX8_settles_74 (by decide) (fun hF => ?_) (fun hF => ?_)
            · exact J201 m_21 m_22 m_23 m_24 ms_25 mf_26 mi_27 mo_28 mw_29 mn_30 mk_31 mt_32 mq_33 _ _ ls hP hD hS (lv_sub hl [0] rfl) hF
            · refine lv_aload_n hx hb dX8_settles_77 rfl (lv_at hl 0 rfl) ?_
              refine z_cVv (b := a 0) (As := []) (rest := []) (wc := (wMo cy a m0 m1 m2 m3 m4 m_21 m_22 m_23 m_24 m9 mb ms_25 md mp mf_26 mi_27 mo_28 mw_29 mn_30 mk_31 mt_32 mq_33 mz_5 me)) (wcf := fun o' => (wMo cy a m0 m1 m2 m3 m4 m_21 m_22 m_23 m_24 m9 mb ms_25 md mp o'.1 o'.2.1 o'.2.2.1 o'.2.2.2.1 o'.2.2.2.2 mk_31 mt_32 mq_33 mz_5 me)) (wf := fun o' => (wMo cy a m0 m1 m2 m3 m4 m_21 m_22 m_23 m_24 m9 mb ms_25 md mp o'.1 o'.2.1 o'.2.2.1 o'.2.2.2.1 o'.2.2.2.2 mk_31 mt_32 mq_33 mz_5 me)) hF (fun o' hz => c_X8_lays l G cy st a m0 m1 m2 m3 m4 m_21 m_22 m_23 m_24 m9 mb ms_25 md mp mf_26 mi_27 mo_28 mw_29 mn_30 mk_31 mt_32 mq_33 mz_5 me o' hz) (fun o' => zCut_all) ⟨hx, hb, hml, hown, hts⟩ (cwV 0 hts gX8_settles_X8_lays rfl rfl rfl (by decide +kernel) ⟨by decide, by decide⟩) (ci := 8) (q0 := 0) rfl (wMo_at0 cy a m0 m1 m2 m3 m4 m_21 m_22 m_23 m_24 m9 mb ms_25 md mp mf_26 mi_27 mo_28 mw_29 mn_30 mk_31 mt_32 mq_33 mz_5 me) hK hSE hA hP hD hS rfl hl.1 rfl (Nat.le_of_ble_eq_true rfl) dX8_settles_78 ⟨Nat.le_refl _, Nat.le_refl _⟩ (fun o34 hF H locs hP hD hS => ?_)
              refine z_nameW (wf := (fun y => (wMo cy a m0 m1 m2 m3 m4 m_21 m_22 m_23 m_24 m9 mb ms_25 md mp y o34.2.1 o34.2.2.1 o34.2.2.2.1 o34.2.2.2.2 mk_31 mt_32 mq_33 mz_5 me))) hF hP hD (fun mf_35 hF hP hD => ?_)
              refine z_nameW (wf := (fun y => (wMo cy a m0 m1 m2 m3 m4 m_21 m_22 m_23 m_24 m9 mb ms_25 md mp mf_35 y o34.2.2.1 o34.2.2.2.1 o34.2.2.2.2 mk_31 mt_32 mq_33 mz_5 me))) hF hP hD (fun mi_36 hF hP hD => ?_)
              refine z_nameW (wf := (fun y => (wMo cy a m0 m1 m2 m3 m4 m_21 m_22 m_23 m_24 m9 mb ms_25 md mp mf_35 mi_36 y o34.2.2.2.1 o34.2.2.2.2 mk_31 mt_32 mq_33 mz_5 me))) hF hP hD (fun mo_37 hF hP hD => ?_)
              refine z_nameW (wf := (fun y => (wMo cy a m0 m1 m2 m3 m4 m_21 m_22 m_23 m_24 m9 mb ms_25 md mp mf_35 mi_36 mo_37 y o34.2.2.2.2 mk_31 mt_32 mq_33 mz_5 me))) hF hP hD (fun mw_38 hF hP hD => ?_)
              refine z_nameW (wf := (fun y => (wMo cy a m0 m1 m2 m3 m4 m_21 m_22 m_23 m_24 m9 mb ms_25 md mp mf_35 mi_36 mo_37 mw_38 y mk_31 mt_32 mq_33 mz_5 me))) hF hP hD (fun mn_39 hF hP hD => ?_)
              refine lv_aload_n hx hb dX8_settles_81 rfl (lv_at hl 0 rfl) ?_
              refine z_cVi (b := a 0) (As := []) (rest := []) (wc := (wMo cy a m0 m1 m2 m3 m4 m_21 m_22 m_23 m_24 m9 mb ms_25 md mp mf_35 mi_36 mo_37 mw_38 mn_39 mk_31 mt_32 mq_33 mz_5 me)) (wcf := fun o' => (wMo cy a m0 m1 m2 m3 m4 m_21 m_22 m_23 m_24 m9 mb ms_25 md mp mf_35 mi_36 mo_37 mw_38 mn_39 mk_31 mt_32 mq_33 mz_5 me)) (wf := fun o' => (wMo cy a m0 m1 m2 m3 m4 m_21 m_22 m_23 m_24 m9 mb ms_25 md mp mf_35 mi_36 mo_37 mw_38 mn_39 mk_31 mt_32 mq_33 mz_5 me)) (rf := fun o' => o') hF (fun o' hz => c_X8_isQuiet l G cy st a m0 m1 m2 m3 m4 m_21 m_22 m_23 m_24 m9 mb ms_25 md mp mf_35 mi_36 mo_37 mw_38 mn_39 mk_31 mt_32 mq_33 mz_5 me o' hz) (fun o' => zCut_all) ⟨hx, hb, hml, hown, hts⟩ (cwV 0 hts gX8_settles_X8_isQuiet rfl rfl rfl (by decide +kernel) ⟨by decide, by decide⟩) (ci := 8) (q0 := 0) rfl (wMo_at0 cy a m0 m1 m2 m3 m4 m_21 m_22 m_23 m_24 m9 mb ms_25 md mp mf_35 mi_36 mo_37 mw_38 mn_39 mk_31 mt_32 mq_33 mz_5 me) hK hSE hA hP hD hS rfl hl.1 rfl (Nat.le_of_ble_eq_true rfl) dX8_settles_82 ⟨Nat.le_refl _, Nat.le_refl _⟩ (fun o40 hF H locs hP hD hS => ?_)
              have J93 : ∀ (m_41 : Int32) (H : Heap) (locs : List Loc) (ls : Array Slot), va_P G vwCl (wMo cy a m0 m1 m2 m3 m4 m_41 m_22 m_23 m_24 m9 mb ms_25 md mp mf_35 mi_36 mo_37 mw_38 mn_39 mk_31 mt_32 mq_33 mz_5 me) H → va_D A (wMo cy a m0 m1 m2 m3 m4 m_41 m_22 m_23 m_24 m9 mb ms_25 md mp mf_35 mi_36 mo_37 mw_38 mn_39 mk_31 mt_32 mq_33 mz_5 me) → va_S A s.heap H locs → lv_has ls 3 [(0, .ref (a 0)), (1, .int s52.1)] → j_X8_settles_93 rc52 s52 m_22 m_23 m_24 ms_25 mk_31 mt_32 mq_33 mf_35 mi_36 mo_37 mw_38 mn_39 m_41 = some o → W p l e (zR 5) s m ([.ref (a 0)] : List Value).toArray below meth c H locs 0 0 (MQ below (zQv G cy A (wMo cy a m0 m1 m2 m3 m4 o.1 o.2.1 o.2.2.1 o.2.2.2.1 m9 mb o.2.2.2.2.1 md mp o.2.2.2.2.2.1 o.2.2.2.2.2.2.1 o.2.2.2.2.2.2.2.1 o.2.2.2.2.2.2.2.2.1 o.2.2.2.2.2.2.2.2.2.1 o.2.2.2.2.2.2.2.2.2.2.1 o.2.2.2.2.2.2.2.2.2.2.2.1 o.2.2.2.2.2.2.2.2.2.2.2.2.1 o.2.2.2.2.2.2.2.2.2.2.2.2.2 me)) ([.ref (a 0)] : List Value).toArray s 0 0 A) (F0 m 93 ls []) := by
                intro m_41 H locs ls hP hD hS hl hF
                unfold j_X8_settles_93 at hF
                refine lv_aload_n hx hb dX8_settles_93 rfl (lv_at hl 0 rfl) ?_
                refine va_get (ci := 8) (C := RX8) (T := TX8) (N := 24) (fs := (zMo a m0 m1 m2 m3 m4 m_41 m_22 m_23 m_24 m9)) (v := .ref (a 11)) hx hb hts iX8 hown hK hP _ (wMo_at0 cy a m0 m1 m2 m3 m4 m_41 m_22 m_23 m_24 m9 mb ms_25 md mp mf_35 mi_36 mo_37 mw_38 mn_39 mk_31 mt_32 mq_33 mz_5 me) rfl 15 (by decide) k42 (fun _ h9 => h9) rfl dX8_settles_94 ?_
                refine lv_iload_n hx hb dX8_settles_97 rfl (lv_at hl 1 rfl) ?_
                refine lv_aload_n hx hb dX8_settles_98 rfl (lv_at hl 0 rfl) ?_
                refine z_cVl (b := a 0) (As := []) (rest := [.int s52.1, .ref (a 11)]) (wc := (wMo cy a m0 m1 m2 m3 m4 m_41 m_22 m_23 m_24 m9 mb ms_25 md mp mf_35 mi_36 mo_37 mw_38 mn_39 mk_31 mt_32 mq_33 mz_5 me)) (wcf := fun o' => (wMo cy a m0 m1 m2 m3 m4 m_41 m_22 m_23 m_24 m9 mb ms_25 md mp mf_35 mi_36 mo_37 mw_38 mn_39 mk_31 mt_32 mq_33 mz_5 me)) (wf := fun o' => (wMo cy a m0 m1 m2 m3 m4 m_41 m_22 m_23 m_24 m9 mb ms_25 md mp mf_35 mi_36 mo_37 mw_38 mn_39 mk_31 mt_32 mq_33 mz_5 me)) (rf := fun o' => o') hF (fun o' hz => c_X8_codeOf l G cy st a m0 m1 m2 m3 m4 m_41 m_22 m_23 m_24 m9 mb ms_25 md mp mf_35 mi_36 mo_37 mw_38 mn_39 mk_31 mt_32 mq_33 mz_5 me o' hz) (fun o' => zCut_all) ⟨hx, hb, hml, hown, hts⟩ (cwV 0 hts gX8_settles_X8_codeOf rfl rfl rfl (by decide +kernel) ⟨by decide, by decide⟩) (ci := 8) (q0 := 0) rfl (wMo_at0 cy a m0 m1 m2 m3 m4 m_41 m_22 m_23 m_24 m9 mb ms_25 md mp mf_35 mi_36 mo_37 mw_38 mn_39 mk_31 mt_32 mq_33 mz_5 me) hK hSE hA hP hD hS rfl hl.1 rfl (Nat.le_of_ble_eq_true rfl) dX8_settles_99 ⟨Nat.le_refl _, Nat.le_refl _⟩ (fun o42 hF H locs hP hD hS => ?_)
                refine z_last (n := 301) (f := mt_32) (i := s52.1) (x := o42) (wf := (fun y => (wMo cy a m0 m1 m2 m3 m4 m_41 m_22 m_23 m_24 m9 mb ms_25 md mp mf_35 mi_36 mo_37 mw_38 mn_39 mk_31 y mq_33 mz_5 me))) hx hb hK hP hD hS _ 2 (wMo_foc11 cy a m0 m1 m2 m3 m4 m_41 m_22 m_23 m_24 m9 mb ms_25 md mp mf_35 mi_36 mo_37 mw_38 mn_39 mk_31 mt_32 mq_33 mz_5 me _) rfl hF dX8_settles_102 (fun mt_43 hF H locs hP hD hS => ?_)
                refine lv_aload_n hx hb dX8_settles_103 rfl (lv_at hl 0 rfl) ?_
                refine va_get (ci := 8) (C := RX8) (T := TX8) (N := 24) (fs := (zMo a m0 m1 m2 m3 m4 m_41 m_22 m_23 m_24 m9)) (v := .ref (a 12)) hx hb hts iX8 hown hK hP _ (wMo_at0 cy a m0 m1 m2 m3 m4 m_41 m_22 m_23 m_24 m9 mb ms_25 md mp mf_35 mi_36 mo_37 mw_38 mn_39 mk_31 mt_43 mq_33 mz_5 me) rfl 16 (by decide) k46 (fun _ h9 => h9) rfl dX8_settles_104 ?_
                refine lv_iload_n hx hb dX8_settles_107 rfl (lv_at hl 1 rfl) ?_
                refine lv_aload_n hx hb dX8_settles_108 rfl (lv_at hl 0 rfl) ?_
                refine va_get (ci := 8) (C := RX8) (T := TX8) (N := 24) (fs := (zMo a m0 m1 m2 m3 m4 m_41 m_22 m_23 m_24 m9)) (v := .ref (a 2)) hx hb hts iX8 hown hK hP _ (wMo_at0 cy a m0 m1 m2 m3 m4 m_41 m_22 m_23 m_24 m9 mb ms_25 md mp mf_35 mi_36 mo_37 mw_38 mn_39 mk_31 mt_43 mq_33 mz_5 me) rfl 3 (by decide) k13 (fun _ h9 => h9) rfl dX8_settles_109 ?_
                refine lv_iconst (v := 3) hx hb dX8_settles_112 (by decide) ?_
                refine z_iald (n := 114) (f := ms_25) hx hb hK hP _ 1 (wMo_at2 cy a m0 m1 m2 m3 m4 m_41 m_22 m_23 m_24 m9 mb ms_25 md mp mf_35 mi_36 mo_37 mw_38 mn_39 mk_31 mt_43 mq_33 mz_5 me) rfl hF dX8_settles_113 (fun hF => ?_)
                refine z_iast (n := 301) (f := mq_33) (i := s52.1) (x := (ms_25 (zn 3))) (wf := (fun y => (wMo cy a m0 m1 m2 m3 m4 m_41 m_22 m_23 m_24 m9 mb ms_25 md mp mf_35 mi_36 mo_37 mw_38 mn_39 mk_31 mt_43 y mz_5 me))) hx hb hK hP hD hS _ 1 (wMo_foc12 cy a m0 m1 m2 m3 m4 m_41 m_22 m_23 m_24 m9 mb ms_25 md mp mf_35 mi_36 mo_37 mw_38 mn_39 mk_31 mt_43 mq_33 mz_5 me _) rfl hF dX8_settles_114 (fun mq_44 hF H locs hP hD hS => ?_)
                refine lv_iconst (v := 0) hx hb dX8_settles_115 (by decide) ?_
                refine lv_istore_n (lv' := [(2, .int 0), (0, .ref (a 0)), (1, .int s52.1)]) hx hb dX8_settles_116 rfl hl (by decide) rfl (fun ls hl => ?_)
                have J191 : ∀ (m_45 : Int32) (m_46 : Int32) (m_47 : Int32) (H : Heap) (locs : List Loc) (ls : Array Slot), va_P G vwCl (wMo cy a m0 m1 m2 m3 m4 m_41 m_45 m_46 m_47 m9 mb ms_25 md mp mf_35 mi_36 mo_37 mw_38 mn_39 mk_31 mt_43 mq_44 mz_5 me) H → va_D A (wMo cy a m0 m1 m2 m3 m4 m_41 m_45 m_46 m_47 m9 mb ms_25 md mp mf_35 mi_36 mo_37 mw_38 mn_39 mk_31 mt_43 mq_44 mz_5 me) → va_S A s.heap H locs → lv_has ls 3 [(0, .ref (a 0)), (1, .int s52.1)] → j_X8_settles_191 rc52 s52 ms_25 mk_31 mf_35 mi_36 mo_37 mw_38 mn_39 m_41 mt_43 mq_44 m_45 m_46 m_47 = some o → W p l e (zR 5) s m ([.ref (a 0)] : List Value).toArray below meth c H locs 0 0 (MQ below (zQv G cy A (wMo cy a m0 m1 m2 m3 m4 o.1 o.2.1 o.2.2.1 o.2.2.2.1 m9 mb o.2.2.2.2.1 md mp o.2.2.2.2.2.1 o.2.2.2.2.2.2.1 o.2.2.2.2.2.2.2.1 o.2.2.2.2.2.2.2.2.1 o.2.2.2.2.2.2.2.2.2.1 o.2.2.2.2.2.2.2.2.2.2.1 o.2.2.2.2.2.2.2.2.2.2.2.1 o.2.2.2.2.2.2.2.2.2.2.2.2.1 o.2.2.2.2.2.2.2.2.2.2.2.2.2 me)) ([.ref (a 0)] : List Value).toArray s 0 0 A) (F0 m 191 ls []) := by
                  intro m_45 m_46 m_47 H locs ls hP hD hS hl hF
                  unfold j_X8_settles_191 at hF
                  refine lv_aload_n hx hb dX8_settles_191 rfl (lv_at hl 0 rfl) ?_
                  refine z_cVv (b := a 0) (As := []) (rest := []) (wc := (wMo cy a m0 m1 m2 m3 m4 m_41 m_45 m_46 m_47 m9 mb ms_25 md mp mf_35 mi_36 mo_37 mw_38 mn_39 mk_31 mt_43 mq_44 mz_5 me)) (wcf := fun o' => (wMo cy a m0 m1 m2 m3 m4 m_41 m_45 m_46 m_47 m9 mb o'.1 md mp o'.2.1 o'.2.2.1 o'.2.2.2.1 o'.2.2.2.2.1 o'.2.2.2.2.2.1 o'.2.2.2.2.2.2 mt_43 mq_44 mz_5 me)) (wf := fun o' => (wMo cy a m0 m1 m2 m3 m4 m_41 m_45 m_46 m_47 m9 mb o'.1 md mp o'.2.1 o'.2.2.1 o'.2.2.2.1 o'.2.2.2.2.1 o'.2.2.2.2.2.1 o'.2.2.2.2.2.2 mt_43 mq_44 mz_5 me)) hF (fun o' hz => c_X8_ticks l G cy st a m0 m1 m2 m3 m4 m_41 m_45 m_46 m_47 m9 mb ms_25 md mp mf_35 mi_36 mo_37 mw_38 mn_39 mk_31 mt_43 mq_44 mz_5 me o' hz) (fun o' => zCut_all) ⟨hx, hb, hml, hown, hts⟩ (cwV 0 hts gX8_settles_X8_ticks rfl rfl rfl (by decide +kernel) ⟨by decide, by decide⟩) (ci := 8) (q0 := 0) rfl (wMo_at0 cy a m0 m1 m2 m3 m4 m_41 m_45 m_46 m_47 m9 mb ms_25 md mp mf_35 mi_36 mo_37 mw_38 mn_39 mk_31 mt_43 mq_44 mz_5 me) hK hSE hA hP hD hS rfl hl.1 rfl (Nat.le_of_ble_eq_true rfl) dX8_settles_192 ⟨Nat.le_refl _, Nat.le_refl _⟩ (fun o48 hF H locs hP hD hS => ?_)
                  refine z_nameW (wf := (fun y => (wMo cy a m0 m1 m2 m3 m4 m_41 m_45 m_46 m_47 m9 mb y md mp o48.2.1 o48.2.2.1 o48.2.2.2.1 o48.2.2.2.2.1 o48.2.2.2.2.2.1 o48.2.2.2.2.2.2 mt_43 mq_44 mz_5 me))) hF hP hD (fun ms_49 hF hP hD => ?_)
                  refine z_nameW (wf := (fun y => (wMo cy a m0 m1 m2 m3 m4 m_41 m_45 m_46 m_47 m9 mb ms_49 md mp y o48.2.2.1 o48.2.2.2.1 o48.2.2.2.2.1 o48.2.2.2.2.2.1 o48.2.2.2.2.2.2 mt_43 mq_44 mz_5 me))) hF hP hD (fun mf_50 hF hP hD => ?_)
                  refine z_nameW (wf := (fun y => (wMo cy a m0 m1 m2 m3 m4 m_41 m_45 m_46 m_47 m9 mb ms_49 md mp mf_50 y o48.2.2.2.1 o48.2.2.2.2.1 o48.2.2.2.2.2.1 o48.2.2.2.2.2.2 mt_43 mq_44 mz_5 me))) hF hP hD (fun mi_51 hF hP hD => ?_)
                  refine z_nameW (wf := (fun y => (wMo cy a m0 m1 m2 m3 m4 m_41 m_45 m_46 m_47 m9 mb ms_49 md mp mf_50 mi_51 y o48.2.2.2.2.1 o48.2.2.2.2.2.1 o48.2.2.2.2.2.2 mt_43 mq_44 mz_5 me))) hF hP hD (fun mo_52 hF hP hD => ?_)
                  refine z_nameW (wf := (fun y => (wMo cy a m0 m1 m2 m3 m4 m_41 m_45 m_46 m_47 m9 mb ms_49 md mp mf_50 mi_51 mo_52 y o48.2.2.2.2.2.1 o48.2.2.2.2.2.2 mt_43 mq_44 mz_5 me))) hF hP hD (fun mw_53 hF hP hD => ?_)
                  refine z_nameW (wf := (fun y => (wMo cy a m0 m1 m2 m3 m4 m_41 m_45 m_46 m_47 m9 mb ms_49 md mp mf_50 mi_51 mo_52 mw_53 y o48.2.2.2.2.2.2 mt_43 mq_44 mz_5 me))) hF hP hD (fun mn_54 hF hP hD => ?_)
                  refine z_nameW (wf := (fun y => (wMo cy a m0 m1 m2 m3 m4 m_41 m_45 m_46 m_47 m9 mb ms_49 md mp mf_50 mi_51 mo_52 mw_53 mn_54 y mt_43 mq_44 mz_5 me))) hF hP hD (fun mk_55 hF hP hD => ?_)
                  refine z_name hF (fun x56 ex56 hF => ?_)
                  refine lv_iinc (v := x56) (lv' := [(1, .int x56), (0, .ref (a 0))]) hx hb dX8_settles_195 hl (k := 1) rfl (by rw [ex56]; rfl) (by decide) rfl (fun ls hl => ?_)
                  refine lv_goto (tgt := 52) hx hb dX8_settles_198 (by decide) ?_
                  exact ih52 (x56, m_41, m_45, m_46, m_47, ms_49, mf_50, mi_51, mo_52, mw_53, mn_54, mk_55, mt_43, mq_44) _ _ ls hP hD hS (lv_sub hl [1, 0] rfl) hF
                have L117 : ∀ (n : Nat) (s117 : Int32 × Int32 × Int32 × Int32) (H : Heap) (locs : List Loc) (ls : Array Slot), va_P G vwCl (wMo cy a m0 m1 m2 m3 m4 m_41 s117.2.1 s117.2.2.1 s117.2.2.2 m9 mb ms_25 md mp mf_35 mi_36 mo_37 mw_38 mn_39 mk_31 mt_43 mq_44 mz_5 me) H → va_D A (wMo cy a m0 m1 m2 m3 m4 m_41 s117.2.1 s117.2.2.1 s117.2.2.2 m9 mb ms_25 md mp mf_35 mi_36 mo_37 mw_38 mn_39 mk_31 mt_43 mq_44 mz_5 me) → va_S A s.heap H locs → lv_has ls 3 [(0, .ref (a 0)), (1, .int s52.1), (2, .int s117.1)] → zloop (b_X8_settles_117 rc52 s52 ms_25 mk_31 mf_35 mi_36 mo_37 mw_38 mn_39 m_41 mt_43 mq_44) n s117 = some o → W p l e (zR 5) s m ([.ref (a 0)] : List Value).toArray below meth c H locs 0 0 (MQ below (zQv G cy A (wMo cy a m0 m1 m2 m3 m4 o.1 o.2.1 o.2.2.1 o.2.2.2.1 m9 mb o.2.2.2.2.1 md mp o.2.2.2.2.2.1 o.2.2.2.2.2.2.1 o.2.2.2.2.2.2.2.1 o.2.2.2.2.2.2.2.2.1 o.2.2.2.2.2.2.2.2.2.1 o.2.2.2.2.2.2.2.2.2.2.1 o.2.2.2.2.2.2.2.2.2.2.2.1 o.2.2.2.2.2.2.2.2.2.2.2.2.1 o.2.2.2.2.2.2.2.2.2.2.2.2.2 me)) ([.ref (a 0)] : List Value).toArray s 0 0 A) (F0 m 117 ls []) := by
                  intro n
                  induction n with
                  | zero => exact fun s117 H locs ls _ _ _ _ hF => (zloop_0 hF).elim
                  | succ n ih117 =>
                    intro s117 H locs ls hP hD hS hl hF
                    have hF : b_X8_settles_117 rc52 s52 ms_25 mk_31 mf_35 mi_36 mo_37 mw_38 mn_39 m_41 mt_43 mq_44 (zloop (b_X8_settles_117 rc52 s52 ms_25 mk_31 mf_35 mi_36 mo_37 mw_38 mn_39 m_41 mt_43 mq_44) n) s117 = some o := hF
                    generalize zloop (b_X8_settles_117 rc52 s52 ms_25 mk_31 mf_35 mi_36 mo_37 mw_38 mn_39 m_41 mt_43 mq_44) n = rc117 at ih117 hF
                    unfold b_X8_settles_117 at hF
                    refine lv_iload_n hx hb dX8_settles_117 rfl (lv_at hl 2 rfl) ?_
                    refine lv_iload_n hx hb dX8_settles_118 rfl (lv_at hl 1 rfl) ?_
                    refine zi_ge (tgt := 191) hx hb hF dX8_settles_119 (by decide) (fun hF => ?_) (fun hF => ?_)
                    · exact J191 s117.2.1 s117.2.2.1 s117.2.2.2 _ _ ls hP hD hS (lv_sub hl [0, 1] rfl) hF
                    · refine lv_aload_n hx hb dX8_settles_122 rfl (lv_at hl 0 rfl) ?_
                      refine va_get (ci := 8) (C := RX8) (T := TX8) (N := 24) (fs := (zMo a m0 m1 m2 m3 m4 m_41 s117.2.1 s117.2.2.1 s117.2.2.2 m9)) (v := .int m_41) hx hb hts iX8 hown hK hP _ (wMo_at0 cy a m0 m1 m2 m3 m4 m_41 s117.2.1 s117.2.2.1 s117.2.2.2 m9 mb ms_25 md mp mf_35 mi_36 mo_37 mw_38 mn_39 mk_31 mt_43 mq_44 mz_5 me) rfl 18 (by decide) k145 (fun _ h9 => h9) rfl dX8_settles_123 ?_
                      refine lv_bipush (v := (-4)) hx hb dX8_settles_126 (by decide) ?_
                      refine zi_ne (tgt := 191) hx hb hF dX8_settles_128 (by decide) (fun hF => ?_) (fun hF => ?_)
                      · exact J191 s117.2.1 s117.2.2.1 s117.2.2.2 _ _ ls hP hD hS (lv_sub hl [0, 1] rfl) hF
                      · refine lv_aload_n hx hb dX8_settles_131 rfl (lv_at hl 0 rfl) ?_
                        refine va_get (ci := 8) (C := RX8) (T := TX8) (N := 24) (fs := (zMo a m0 m1 m2 m3 m4 m_41 s117.2.1 s117.2.2.1 s117.2.2.2 m9)) (v := .int s117.2.1) hx hb hts iX8 hown hK hP _ (wMo_at0 cy a m0 m1 m2 m3 m4 m_41 s117.2.1 s117.2.2.1 s117.2.2.2 m9 mb ms_25 md mp mf_35 mi_36 mo_37 mw_38 mn_39 mk_31 mt_43 mq_44 mz_5 me) rfl 19 (by decide) k148 (fun _ h9 => h9) rfl dX8_settles_132 ?_
                        refine lv_bipush (v := (-4)) hx hb dX8_settles_135 (by decide) ?_
                        refine zi_ne (tgt := 191) hx hb hF dX8_settles_137 (by decide) (fun hF => ?_) (fun hF => ?_)
                        · exact J191 s117.2.1 s117.2.2.1 s117.2.2.2 _ _ ls hP hD hS (lv_sub hl [0, 1] rfl) hF
                        · refine lv_aload_n hx hb dX8_settles_140 rfl (lv_at hl 0 rfl) ?_
                          refine va_get (ci := 8) (C := RX8) (T := TX8) (N := 24) (fs := (zMo a m0 m1 m2 m3 m4 m_41 s117.2.1 s117.2.2.1 s117.2.2.2 m9)) (v := .ref (a 11)) hx hb hts iX8 hown hK hP _ (wMo_at0 cy a m0 m1 m2 m3 m4 m_41 s117.2.1 s117.2.2.1 s117.2.2.2 m9 mb ms_25 md mp mf_35 mi_36 mo_37 mw_38 mn_39 mk_31 mt_43 mq_44 mz_5 me) rfl 15 (by decide) k42 (fun _ h9 => h9) rfl dX8_settles_141 ?_
                          refine lv_iload_n hx hb dX8_settles_144 rfl (lv_at hl 2 rfl) ?_
                          refine z_lald (n := 301) (f := mt_43) hx hb hK hP _ 2 (wMo_at11 cy a m0 m1 m2 m3 m4 m_41 s117.2.1 s117.2.2.1 s117.2.2.2 m9 mb ms_25 md mp mf_35 mi_36 mo_37 mw_38 mn_39 mk_31 mt_43 mq_44 mz_5 me) rfl hF dX8_settles_145 (fun hF => ?_)
                          refine lv_aload_n hx hb dX8_settles_146 rfl (lv_at hl 0 rfl) ?_
                          refine va_get (ci := 8) (C := RX8) (T := TX8) (N := 24) (fs := (zMo a m0 m1 m2 m3 m4 m_41 s117.2.1 s117.2.2.1 s117.2.2.2 m9)) (v := .ref (a 11)) hx hb hts iX8 hown hK hP _ (wMo_at0 cy a m0 m1 m2 m3 m4 m_41 s117.2.1 s117.2.2.1 s117.2.2.2 m9 mb ms_25 md mp mf_35 mi_36 mo_37 mw_38 mn_39 mk_31 mt_43 mq_44 mz_5 me) rfl 15 (by decide) k42 (fun _ h9 => h9) rfl dX8_settles_147 ?_
                          refine lv_iload_n hx hb dX8_settles_150 rfl (lv_at hl 1 rfl) ?_
                          refine z_lald (n := 301) (f := mt_43) hx hb hK hP _ 2 (wMo_at11 cy a m0 m1 m2 m3 m4 m_41 s117.2.1 s117.2.2.1 s117.2.2.2 m9 mb ms_25 md mp mf_35 mi_36 mo_37 mw_38 mn_39 mk_31 mt_43 mq_44 mz_5 me) rfl hF dX8_settles_151 (fun hF => ?_)
                          refine W.lcmp hx hb dX8_settles_152 ?_
                          have J185 : ∀ (m_57 : Int32) (m_58 : Int32) (m_59 : Int32) (H : Heap) (locs : List Loc) (ls : Array Slot), va_P G vwCl (wMo cy a m0 m1 m2 m3 m4 m_41 m_57 m_58 m_59 m9 mb ms_25 md mp mf_35 mi_36 mo_37 mw_38 mn_39 mk_31 mt_43 mq_44 mz_5 me) H → va_D A (wMo cy a m0 m1 m2 m3 m4 m_41 m_57 m_58 m_59 m9 mb ms_25 md mp mf_35 mi_36 mo_37 mw_38 mn_39 mk_31 mt_43 mq_44 mz_5 me) → va_S A s.heap H locs → lv_has ls 3 [(0, .ref (a 0)), (1, .int s52.1), (2, .int s117.1)] → j_X8_settles_185 rc117 s117 m_57 m_58 m_59 = some o → W p l e (zR 5) s m ([.ref (a 0)] : List Value).toArray below meth c H locs 0 0 (MQ below (zQv G cy A (wMo cy a m0 m1 m2 m3 m4 o.1 o.2.1 o.2.2.1 o.2.2.2.1 m9 mb o.2.2.2.2.1 md mp o.2.2.2.2.2.1 o.2.2.2.2.2.2.1 o.2.2.2.2.2.2.2.1 o.2.2.2.2.2.2.2.2.1 o.2.2.2.2.2.2.2.2.2.1 o.2.2.2.2.2.2.2.2.2.2.1 o.2.2.2.2.2.2.2.2.2.2.2.1 o.2.2.2.2.2.2.2.2.2.2.2.2.1 o.2.2.2.2.2.2.2.2.2.2.2.2.2 me)) ([.ref (a 0)] : List Value).toArray s 0 0 A) (F0 m 185 ls []) := by
                            intro m_57 m_58 m_59 H locs ls hP hD hS hl hF
                            unfold j_X8_settles_185 at hF
                            refine z_name hF (fun x60 ex60 hF => ?_)
                            refine lv_iinc (v := x60) (lv' := [(2, .int x60), (0, .ref (a 0)), (1, .int s52.1)]) hx hb dX8_settles_185 hl (k := 2) rfl (by rw [ex60]; rfl) (by decide) rfl (fun ls hl => ?_)
                            refine lv_goto (tgt := 117) hx hb dX8_settles_188 (by decide) ?_
                            exact ih117 (x60, m_57, m_58, m_59) _ _ ls hP hD hS (lv_sub hl [1, 2, 0] rfl) hF
                          refine zf_ne (tgt := 185) hx hb hF dX8_settles_153 (by decide) (fun hF => ?_) (fun hF => ?_)
                          · exact J185 s117.2.1 s117.2.2.1 s117.2.2.2 _ _ ls hP hD hS (lv_sub hl [0, 1, 2] rfl) hF
                          · refine lv_aload_n hx hb dX8_settles_156 rfl (lv_at hl 0 rfl) ?_
                            refine lv_iload_n hx hb dX8_settles_157 rfl (lv_at hl 2 rfl) ?_
                            refine z_puti (ci := 8) (C := RX8) (T := TX8) (N := 24) (fs := (zMo a m0 m1 m2 m3 m4 m_41 s117.2.1 s117.2.2.1 s117.2.2.2 m9)) (x := s117.1) (wf := (fun y => (wMo cy a m0 m1 m2 m3 m4 m_41 y s117.2.2.1 s117.2.2.2 m9 mb ms_25 md mp mf_35 mi_36 mo_37 mw_38 mn_39 mk_31 mt_43 mq_44 mz_5 me))) hx hb hts iX8 tyX8 tyX8_ok nmX8 hown hK hP hD hS _ 19 (wMo_foc0_19 cy a m0 m1 m2 m3 m4 m_41 s117.2.1 s117.2.2.1 s117.2.2.2 m9 mb ms_25 md mp mf_35 mi_36 mo_37 mw_38 mn_39 mk_31 mt_43 mq_44 mz_5 me s117.1) rfl (by decide) k148 (fun _ h9 => h9) rfl (by decide +kernel) (Nat.le_of_ble_eq_true rfl) hF dX8_settles_158 (fun m_61 hF H locs hP hD hS => ?_)
                            refine lv_aload_n hx hb dX8_settles_161 rfl (lv_at hl 0 rfl) ?_
                            refine lv_iload_n hx hb dX8_settles_162 rfl (lv_at hl 1 rfl) ?_
                            refine lv_iload_n hx hb dX8_settles_163 rfl (lv_at hl 2 rfl) ?_
                            refine lv_isub hx hb dX8_settles_164 ?_
                            refine z_puti (ci := 8) (C := RX8) (T := TX8) (N := 24) (fs := (zMo a m0 m1 m2 m3 m4 m_41 m_61 s117.2.2.1 s117.2.2.2 m9)) (x := (s52.1 - s117.1)) (wf := (fun y => (wMo cy a m0 m1 m2 m3 m4 m_41 m_61 y s117.2.2.2 m9 mb ms_25 md mp mf_35 mi_36 mo_37 mw_38 mn_39 mk_31 mt_43 mq_44 mz_5 me))) hx hb hts iX8 tyX8 tyX8_ok nmX8 hown hK hP hD hS _ 20 (wMo_foc0_20 cy a m0 m1 m2 m3 m4 m_41 m_61 s117.2.2.1 s117.2.2.2 m9 mb ms_25 md mp mf_35 mi_36 mo_37 mw_38 mn_39 mk_31 mt_43 mq_44 mz_5 me (s52.1 - s117.1)) rfl (by decide) k151 (fun _ h9 => h9) rfl (by decide +kernel) (Nat.le_of_ble_eq_true rfl) hF dX8_settles_165 (fun m_62 hF H locs hP hD hS => ?_)
                            refine lv_aload_n hx hb dX8_settles_168 rfl (lv_at hl 0 rfl) ?_
                            refine lv_aload_n hx hb dX8_settles_169 rfl (lv_at hl 0 rfl) ?_
                            refine va_get (ci := 8) (C := RX8) (T := TX8) (N := 24) (fs := (zMo a m0 m1 m2 m3 m4 m_41 m_61 m_62 s117.2.2.2 m9)) (v := .ref (a 12)) hx hb hts iX8 hown hK hP _ (wMo_at0 cy a m0 m1 m2 m3 m4 m_41 m_61 m_62 s117.2.2.2 m9 mb ms_25 md mp mf_35 mi_36 mo_37 mw_38 mn_39 mk_31 mt_43 mq_44 mz_5 me) rfl 16 (by decide) k46 (fun _ h9 => h9) rfl dX8_settles_170 ?_
                            refine lv_iload_n hx hb dX8_settles_173 rfl (lv_at hl 1 rfl) ?_
                            refine z_iald (n := 301) (f := mq_44) hx hb hK hP _ 1 (wMo_at12 cy a m0 m1 m2 m3 m4 m_41 m_61 m_62 s117.2.2.2 m9 mb ms_25 md mp mf_35 mi_36 mo_37 mw_38 mn_39 mk_31 mt_43 mq_44 mz_5 me) rfl hF dX8_settles_174 (fun hF => ?_)
                            refine lv_aload_n hx hb dX8_settles_175 rfl (lv_at hl 0 rfl) ?_
                            refine va_get (ci := 8) (C := RX8) (T := TX8) (N := 24) (fs := (zMo a m0 m1 m2 m3 m4 m_41 m_61 m_62 s117.2.2.2 m9)) (v := .ref (a 12)) hx hb hts iX8 hown hK hP _ (wMo_at0 cy a m0 m1 m2 m3 m4 m_41 m_61 m_62 s117.2.2.2 m9 mb ms_25 md mp mf_35 mi_36 mo_37 mw_38 mn_39 mk_31 mt_43 mq_44 mz_5 me) rfl 16 (by decide) k46 (fun _ h9 => h9) rfl dX8_settles_176 ?_
                            refine lv_iload_n hx hb dX8_settles_179 rfl (lv_at hl 2 rfl) ?_
                            refine z_iald (n := 301) (f := mq_44) hx hb hK hP _ 1 (wMo_at12 cy a m0 m1 m2 m3 m4 m_41 m_61 m_62 s117.2.2.2 m9 mb ms_25 md mp mf_35 mi_36 mo_37 mw_38 mn_39 mk_31 mt_43 mq_44 mz_5 me) rfl hF dX8_settles_180 (fun hF => ?_)
                            refine lv_isub hx hb dX8_settles_181 ?_
                            refine z_puti (ci := 8) (C := RX8) (T := TX8) (N := 24) (fs := (zMo a m0 m1 m2 m3 m4 m_41 m_61 m_62 s117.2.2.2 m9)) (x := ((mq_44 (zn s52.1)) - (mq_44 (zn s117.1)))) (wf := (fun y => (wMo cy a m0 m1 m2 m3 m4 m_41 m_61 m_62 y m9 mb ms_25 md mp mf_35 mi_36 mo_37 mw_38 mn_39 mk_31 mt_43 mq_44 mz_5 me))) hx hb hts iX8 tyX8 tyX8_ok nmX8 hown hK hP hD hS _ 21 (wMo_foc0_21 cy a m0 m1 m2 m3 m4 m_41 m_61 m_62 s117.2.2.2 m9 mb ms_25 md mp mf_35 mi_36 mo_37 mw_38 mn_39 mk_31 mt_43 mq_44 mz_5 me ((mq_44 (zn s52.1)) - (mq_44 (zn s117.1)))) rfl (by decide) k154 (fun _ h9 => h9) rfl (by decide +kernel) (Nat.le_of_ble_eq_true rfl) hF dX8_settles_182 (fun m_63 hF H locs hP hD hS => ?_)
                            exact J185 m_61 m_62 m_63 _ _ ls hP hD hS (lv_sub hl [0, 1, 2] rfl) hF
                exact L117 1000 (0, m_22, m_23, m_24) _ _ ls hP hD hS (lv_sub hl [1, 2, 0] rfl) hF
              refine zf_eq (tgt := 93) hx hb hF dX8_settles_85 (by decide) (fun hF => ?_) (fun hF => ?_)
              · exact J93 m_21 _ _ ls hP hD hS (lv_sub hl [0, 1] rfl) hF
              · refine lv_aload_n hx hb dX8_settles_88 rfl (lv_at hl 0 rfl) ?_
                refine lv_iload_n hx hb dX8_settles_89 rfl (lv_at hl 1 rfl) ?_
                refine z_puti (ci := 8) (C := RX8) (T := TX8) (N := 24) (fs := (zMo a m0 m1 m2 m3 m4 m_21 m_22 m_23 m_24 m9)) (x := s52.1) (wf := (fun y => (wMo cy a m0 m1 m2 m3 m4 y m_22 m_23 m_24 m9 mb ms_25 md mp mf_35 mi_36 mo_37 mw_38 mn_39 mk_31 mt_32 mq_33 mz_5 me))) hx hb hts iX8 tyX8 tyX8_ok nmX8 hown hK hP hD hS _ 18 (wMo_foc0_18 cy a m0 m1 m2 m3 m4 m_21 m_22 m_23 m_24 m9 mb ms_25 md mp mf_35 mi_36 mo_37 mw_38 mn_39 mk_31 mt_32 mq_33 mz_5 me s52.1) rfl (by decide) k145 (fun _ h9 => h9) rfl (by decide +kernel) (Nat.le_of_ble_eq_true rfl) hF dX8_settles_90 (fun m_64 hF H locs hP hD hS => ?_)
                exact J93 m_64 _ _ ls hP hD hS (lv_sub hl [0, 1] rfl) hF
    exact L52 1000 (0, m_1, m_2, m_3, m_4, ms, mf, mi, mo, mw, mn, mk, mt, mq) _ _ ls hP hD hS (lv_sub hl [1, 0] rfl) hF
  have L26 : ∀ (n : Nat) (s26 : Int32 × (Nat → Int32)) (H : Heap) (locs : List Loc) (ls : Array Slot), va_P G vwCl (wMo cy a m0 m1 m2 m3 m4 m_1 m_2 m_3 m_4 m9 mb ms md mp mf mi mo mw mn mk mt mq s26.2 me) H → va_D A (wMo cy a m0 m1 m2 m3 m4 m_1 m_2 m_3 m_4 m9 mb ms md mp mf mi mo mw mn mk mt mq s26.2 me) → va_S A s.heap H locs → lv_has ls 3 [(0, .ref (a 0)), (1, .int s26.1)] → zloop (b_X8_settles_26 ms mf mi mo mw mn mk mt mq m_1 m_2 m_3 m_4) n s26 = some o → W p l e (zR 5) s m ([.ref (a 0)] : List Value).toArray below meth c H locs 0 0 (MQ below (zQv G cy A (wMo cy a m0 m1 m2 m3 m4 o.1 o.2.1 o.2.2.1 o.2.2.2.1 m9 mb o.2.2.2.2.1 md mp o.2.2.2.2.2.1 o.2.2.2.2.2.2.1 o.2.2.2.2.2.2.2.1 o.2.2.2.2.2.2.2.2.1 o.2.2.2.2.2.2.2.2.2.1 o.2.2.2.2.2.2.2.2.2.2.1 o.2.2.2.2.2.2.2.2.2.2.2.1 o.2.2.2.2.2.2.2.2.2.2.2.2.1 o.2.2.2.2.2.2.2.2.2.2.2.2.2 me)) ([.ref (a 0)] : List Value).toArray s 0 0 A) (F0 m 26 ls []) := by
    intro n
    induction n with
    | zero => exact fun s26 H locs ls _ _ _ _ hF => (zloop_0 hF).elim
    | succ n ih26 =>
      intro s26 H locs ls hP hD hS hl hF
      have hF : b_X8_settles_26 ms mf mi mo mw mn mk mt mq m_1 m_2 m_3 m_4 (zloop (b_X8_settles_26 ms mf mi mo mw mn mk mt mq m_1 m_2 m_3 m_4) n) s26 = some o := hF
      generalize zloop (b_X8_settles_26 ms mf mi mo mw mn mk mt mq m_1 m_2 m_3 m_4) n = rc26 at ih26 hF
      unfold b_X8_settles_26 at hF
      refine lv_iload_n hx hb dX8_settles_26 rfl (lv_at hl 1 rfl) ?_
      refine lv_bipush (v := 114) hx hb dX8_settles_27 (by decide) ?_
      refine zi_ge (tgt := 50) hx hb hF dX8_settles_29 (by decide) (fun hF => ?_) (fun hF => ?_)
      · exact J50 s26.2 _ _ ls hP hD hS (lv_sub hl [0] rfl) hF
      · refine lv_aload_n hx hb dX8_settles_32 rfl (lv_at hl 0 rfl) ?_
        refine va_get (ci := 8) (C := RX8) (T := TX8) (N := 24) (fs := (zMo a m0 m1 m2 m3 m4 m_1 m_2 m_3 m_4 m9)) (v := .ref (a 13)) hx hb hts iX8 hown hK hP _ (wMo_at0 cy a m0 m1 m2 m3 m4 m_1 m_2 m_3 m_4 m9 mb ms md mp mf mi mo mw mn mk mt mq s26.2 me) rfl 17 (by decide) k49 (fun _ h9 => h9) rfl dX8_settles_33 ?_
        refine lv_iload_n hx hb dX8_settles_36 rfl (lv_at hl 1 rfl) ?_
        refine lv_aload_n hx hb dX8_settles_37 rfl (lv_at hl 0 rfl) ?_
        refine va_get (ci := 8) (C := RX8) (T := TX8) (N := 24) (fs := (zMo a m0 m1 m2 m3 m4 m_1 m_2 m_3 m_4 m9)) (v := .ref (a 2)) hx hb hts iX8 hown hK hP _ (wMo_at0 cy a m0 m1 m2 m3 m4 m_1 m_2 m_3 m_4 m9 mb ms md mp mf mi mo mw mn mk mt mq s26.2 me) rfl 3 (by decide) k13 (fun _ h9 => h9) rfl dX8_settles_38 ?_
        refine lv_iload_n hx hb dX8_settles_41 rfl (lv_at hl 1 rfl) ?_
        refine z_iald (n := 114) (f := ms) hx hb hK hP _ 1 (wMo_at2 cy a m0 m1 m2 m3 m4 m_1 m_2 m_3 m_4 m9 mb ms md mp mf mi mo mw mn mk mt mq s26.2 me) rfl hF dX8_settles_42 (fun hF => ?_)
        refine z_iast (n := 114) (f := s26.2) (i := s26.1) (x := (ms (zn s26.1))) (wf := (fun y => (wMo cy a m0 m1 m2 m3 m4 m_1 m_2 m_3 m_4 m9 mb ms md mp mf mi mo mw mn mk mt mq y me))) hx hb hK hP hD hS _ 1 (wMo_foc13 cy a m0 m1 m2 m3 m4 m_1 m_2 m_3 m_4 m9 mb ms md mp mf mi mo mw mn mk mt mq s26.2 me _) rfl hF dX8_settles_43 (fun mz_65 hF H locs hP hD hS => ?_)
        refine z_name hF (fun x66 ex66 hF => ?_)
        refine lv_iinc (v := x66) (lv' := [(1, .int x66), (0, .ref (a 0))]) hx hb dX8_settles_44 hl (k := 1) rfl (by rw [ex66]; rfl) (by decide) rfl (fun ls hl => ?_)
        refine lv_goto (tgt := 26) hx hb dX8_settles_47 (by decide) ?_
        exact ih26 (x66, mz_65) _ _ ls hP hD hS (lv_sub hl [1, 0] rfl) hF
  exact L26 1000 (0, mz) _ _ ls hP hD hS (lv_sub hl [1, 0] rfl) hF
def f_X8_settle (m5 : Int32) (m6 : Int32) (m7 : Int32) (m8 : Int32) (ms : Nat → Int32) (mf : Nat → Int32) (mi : Nat → Int32) (mo : Nat → Int32) (mw : Nat → Int32) (mn : Nat → Int32) (mk : Nat → Int32) (mt : Nat → Int64) (mq : Nat → Int32) (mz : Nat → Int32) (x01 : Int32) : Option (Int32 × Int32 × Int32 × Int32 × Int32 × Int32 × (Nat → Int32) × (Nat → Int32) × (Nat → Int32) × (Nat → Int32) × (Nat → Int32) × (Nat → Int32) × (Nat → Int32) × (Nat → Int64) × (Nat → Int32) × (Nat → Int32)) :=
zlet 0 fun m_1 =>
zbd (f_X8_in x01 0 3) fun o2 =>
if o2 = 0 then (
some ((-1), m_1, m5, m6, m7, m8, ms, mf, mi, mo, mw, mn, mk, mt, mq, mz)) else (
zbd (f_X8_settles ms mf mi mo mw mn mk mt mq mz) fun o3 =>
zlet (o3.1) fun m_4 =>
zlet (o3.2.1) fun m_5 =>
zlet (o3.2.2.1) fun m_6 =>
zlet (o3.2.2.2.1) fun m_7 =>
zlet (o3.2.2.2.2.1) fun ms_8 =>
zlet (o3.2.2.2.2.2.1) fun mf_9 =>
zlet (o3.2.2.2.2.2.2.1) fun mi_10 =>
zlet (o3.2.2.2.2.2.2.2.1) fun mo_11 =>
zlet (o3.2.2.2.2.2.2.2.2.1) fun mw_12 =>
zlet (o3.2.2.2.2.2.2.2.2.2.1) fun mn_13 =>
zlet (o3.2.2.2.2.2.2.2.2.2.2.1) fun mk_14 =>
zlet (o3.2.2.2.2.2.2.2.2.2.2.2.1) fun mt_15 =>
zlet (o3.2.2.2.2.2.2.2.2.2.2.2.2.1) fun mq_16 =>
zlet (o3.2.2.2.2.2.2.2.2.2.2.2.2.2) fun mz_17 =>
if x01 = 0 then (
some (m_4, m_1, m_4, m_5, m_6, m_7, ms_8, mf_9, mi_10, mo_11, mw_12, mn_13, mk_14, mt_15, mq_16, mz_17)) else (
if x01 = (1 : Int32) then (
some (m_5, m_1, m_4, m_5, m_6, m_7, ms_8, mf_9, mi_10, mo_11, mw_12, mn_13, mk_14, mt_15, mq_16, mz_17)) else (
if x01 = (2 : Int32) then (
some (m_6, m_1, m_4, m_5, m_6, m_7, ms_8, mf_9, mi_10, mo_11, mw_12, mn_13, mk_14, mt_15, mq_16, mz_17)) else (
some (m_7, m_1, m_4, m_5, m_6, m_7, ms_8, mf_9, mi_10, mo_11, mw_12, mn_13, mk_14, mt_15, mq_16, mz_17)))))
set_option maxHeartbeats 4000000 in
set_option maxRecDepth 100000 in
theorem c_X8_settle (l : Launch) (G : va_G) (cy : Nat → ClassId) (st : Nat → Nat) (a : Nat → Nat) (m0 : Int32) (m1 : Int32) (m2 : Int32) (m3 : Int32) (m4 : Int32) (m5 : Int32) (m6 : Int32) (m7 : Int32) (m8 : Int32) (m9 : Int32) (mb : Nat → Int32) (ms : Nat → Int32) (md : Nat → Int32) (mp : Nat → Int32) (mf : Nat → Int32) (mi : Nat → Int32) (mo : Nat → Int32) (mw : Nat → Int32) (mn : Nat → Int32) (mk : Nat → Int32) (mt : Nat → Int64) (mq : Nat → Int32) (mz : Nat → Int32) (me : Nat → Int32) (x01 : Int32) (o : Int32 × Int32 × Int32 × Int32 × Int32 × Int32 × (Nat → Int32) × (Nat → Int32) × (Nat → Int32) × (Nat → Int32) × (Nat → Int32) × (Nat → Int32) × (Nat → Int32) × (Nat → Int64) × (Nat → Int32) × (Nat → Int32)) (hF : f_X8_settle m5 m6 m7 m8 ms mf mi mo mw mn mk mt mq mz x01 = some o) : zMi l yX8_settle wsX8_settle (zR 6) G cy st [.ref (a 0), .int x01] (wMo cy a m0 m1 m2 m3 m4 m5 m6 m7 m8 m9 mb ms md mp mf mi mo mw mn mk mt mq mz me) (wMo cy a o.2.1 m1 m2 m3 m4 o.2.2.1 o.2.2.2.1 o.2.2.2.2.1 o.2.2.2.2.2.1 m9 mb o.2.2.2.2.2.2.1 md mp o.2.2.2.2.2.2.2.1 o.2.2.2.2.2.2.2.2.1 o.2.2.2.2.2.2.2.2.2.1 o.2.2.2.2.2.2.2.2.2.2.1 o.2.2.2.2.2.2.2.2.2.2.2.1 o.2.2.2.2.2.2.2.2.2.2.2.2.1 o.2.2.2.2.2.2.2.2.2.2.2.2.2.1 o.2.2.2.2.2.2.2.2.2.2.2.2.2.2.1 o.2.2.2.2.2.2.2.2.2.2.2.2.2.2.2 me) o.1 := by
  refine zM_of (cc := cX8_settle) (maxL := 2) (ret := (some .int)) (Qc := fun A => zQi G cy A (wMo cy a o.2.1 m1 m2 m3 m4 o.2.2.1 o.2.2.2.1 o.2.2.2.2.1 o.2.2.2.2.2.1 m9 mb o.2.2.2.2.2.2.1 md mp o.2.2.2.2.2.2.2.1 o.2.2.2.2.2.2.2.2.1 o.2.2.2.2.2.2.2.2.2.1 o.2.2.2.2.2.2.2.2.2.2.1 o.2.2.2.2.2.2.2.2.2.2.2.1 o.2.2.2.2.2.2.2.2.2.2.2.2.1 o.2.2.2.2.2.2.2.2.2.2.2.2.2.1 o.2.2.2.2.2.2.2.2.2.2.2.2.2.2.1 o.2.2.2.2.2.2.2.2.2.2.2.2.2.2.2 me) o.1) (by decide) rfl (Nat.le_of_ble_eq_true rfl) ?_
  intro p e s m below meth c A ls hx hb hml hr hlocks hown hts hK hSE hA hP hD hS hl
  have hown : s.vm.findClass RX8 = some m.cls := hown
  have hl : lv_has ls 2 [(0, .ref (a 0)), (1, .int x01)] := hl
  have k59 := hts (.fieldLink RX8 59 "TapCascadeModel" "thrown" "I") (by decide +kernel)
  have iX8 : ∀ w ∈ wsX80, w ∈ wsX8_settle := fun w h => List.mem_cons_of_mem _ (List.mem_append_right _ h)
  have k154 := hts (.fieldLink RX8 154 "TapCascadeModel" "roundSteps" "I") (by decide +kernel)
  have k151 := hts (.fieldLink RX8 151 "TapCascadeModel" "roundLong" "I") (by decide +kernel)
  have k148 := hts (.fieldLink RX8 148 "TapCascadeModel" "roundFrom" "I") (by decide +kernel)
  have k145 := hts (.fieldLink RX8 145 "TapCascadeModel" "quietBehind" "I") (by decide +kernel)
  unfold f_X8_settle at hF
  refine lv_aload_n hx hb dX8_settle_0 rfl (lv_at hl 0 rfl) ?_
  refine lv_iconst (v := 0) hx hb dX8_settle_1 (by decide) ?_
  refine z_puti (ci := 8) (C := RX8) (T := TX8) (N := 24) (fs := (zMo a m0 m1 m2 m3 m4 m5 m6 m7 m8 m9)) (x := 0) (wf := (fun y => (wMo cy a y m1 m2 m3 m4 m5 m6 m7 m8 m9 mb ms md mp mf mi mo mw mn mk mt mq mz me))) hx hb hts iX8 tyX8 tyX8_ok nmX8 hown hK hP hD hS _ 0 (wMo_foc0_0 cy a m0 m1 m2 m3 m4 m5 m6 m7 m8 m9 mb ms md mp mf mi mo mw mn mk mt mq mz me 0) rfl (by decide) k59 (fun _ h9 => h9) rfl (by decide +kernel) (Nat.le_of_ble_eq_true rfl) hF dX8_settle_2 (fun m_1 hF H locs hP hD hS => ?_)
  refine lv_iload_n hx hb dX8_settle_5 rfl (lv_at hl 1 rfl) ?_
  refine lv_iconst (v := 0) hx hb dX8_settle_6 (by decide) ?_
  refine lv_iconst (v := 3) hx hb dX8_settle_7 (by decide) ?_
  refine z_cSi (As := [.int x01, .int 0, .int 3]) (rest := []) (wc := ([] : va_W)) (wcf := fun o' => ([] : va_W)) (wf := fun o' => (wMo cy a m_1 m1 m2 m3 m4 m5 m6 m7 m8 m9 mb ms md mp mf mi mo mw mn mk mt mq mz me)) (rf := fun o' => o') hF (fun o' hz => c_X8_in l G cy st x01 0 3 o' hz) (fun o' => zCut_nil) ⟨hx, hb, hml, hown, hts⟩ (va_cwS 3 hts gX8_settle_X8_in rfl rfl rfl (by decide +kernel) ⟨by decide, by decide⟩) hK hSE hA hP hD hS rfl hl.1 rfl (Nat.le_of_ble_eq_true rfl) dX8_settle_8 ⟨Nat.le_refl _, Nat.le_refl _⟩ (fun o2 hF H locs hP hD hS => ?_)
  refine zf_ne (tgt := 16) hx hb hF dX8_settle_11 (by decide) (fun hF => ?_) (fun hF => ?_)
  · refine lv_aload_n hx hb dX8_settle_16 rfl (lv_at hl 0 rfl) ?_
    refine z_cVv (b := a 0) (As := []) (rest := []) (wc := (wMo cy a m_1 m1 m2 m3 m4 m5 m6 m7 m8 m9 mb ms md mp mf mi mo mw mn mk mt mq mz me)) (wcf := fun o' => (wMo cy a m_1 m1 m2 m3 m4 o'.1 o'.2.1 o'.2.2.1 o'.2.2.2.1 m9 mb o'.2.2.2.2.1 md mp o'.2.2.2.2.2.1 o'.2.2.2.2.2.2.1 o'.2.2.2.2.2.2.2.1 o'.2.2.2.2.2.2.2.2.1 o'.2.2.2.2.2.2.2.2.2.1 o'.2.2.2.2.2.2.2.2.2.2.1 o'.2.2.2.2.2.2.2.2.2.2.2.1 o'.2.2.2.2.2.2.2.2.2.2.2.2.1 o'.2.2.2.2.2.2.2.2.2.2.2.2.2 me)) (wf := fun o' => (wMo cy a m_1 m1 m2 m3 m4 o'.1 o'.2.1 o'.2.2.1 o'.2.2.2.1 m9 mb o'.2.2.2.2.1 md mp o'.2.2.2.2.2.1 o'.2.2.2.2.2.2.1 o'.2.2.2.2.2.2.2.1 o'.2.2.2.2.2.2.2.2.1 o'.2.2.2.2.2.2.2.2.2.1 o'.2.2.2.2.2.2.2.2.2.2.1 o'.2.2.2.2.2.2.2.2.2.2.2.1 o'.2.2.2.2.2.2.2.2.2.2.2.2.1 o'.2.2.2.2.2.2.2.2.2.2.2.2.2 me)) hF (fun o' hz => c_X8_settles l G cy st a m_1 m1 m2 m3 m4 m5 m6 m7 m8 m9 mb ms md mp mf mi mo mw mn mk mt mq mz me o' hz) (fun o' => zCut_all) ⟨hx, hb, hml, hown, hts⟩ (cwV 0 hts gX8_settle_X8_settles rfl rfl rfl (by decide +kernel) ⟨by decide, by decide⟩) (ci := 8) (q0 := 0) rfl (wMo_at0 cy a m_1 m1 m2 m3 m4 m5 m6 m7 m8 m9 mb ms md mp mf mi mo mw mn mk mt mq mz me) hK hSE hA hP hD hS rfl hl.1 rfl (Nat.le_of_ble_eq_true rfl) dX8_settle_17 ⟨Nat.le_refl _, Nat.le_refl _⟩ (fun o3 hF H locs hP hD hS => ?_)
    refine z_nameW (wf := (fun y => (wMo cy a m_1 m1 m2 m3 m4 y o3.2.1 o3.2.2.1 o3.2.2.2.1 m9 mb o3.2.2.2.2.1 md mp o3.2.2.2.2.2.1 o3.2.2.2.2.2.2.1 o3.2.2.2.2.2.2.2.1 o3.2.2.2.2.2.2.2.2.1 o3.2.2.2.2.2.2.2.2.2.1 o3.2.2.2.2.2.2.2.2.2.2.1 o3.2.2.2.2.2.2.2.2.2.2.2.1 o3.2.2.2.2.2.2.2.2.2.2.2.2.1 o3.2.2.2.2.2.2.2.2.2.2.2.2.2 me))) hF hP hD (fun m_4 hF hP hD => ?_)
    refine z_nameW (wf := (fun y => (wMo cy a m_1 m1 m2 m3 m4 m_4 y o3.2.2.1 o3.2.2.2.1 m9 mb o3.2.2.2.2.1 md mp o3.2.2.2.2.2.1 o3.2.2.2.2.2.2.1 o3.2.2.2.2.2.2.2.1 o3.2.2.2.2.2.2.2.2.1 o3.2.2.2.2.2.2.2.2.2.1 o3.2.2.2.2.2.2.2.2.2.2.1 o3.2.2.2.2.2.2.2.2.2.2.2.1 o3.2.2.2.2.2.2.2.2.2.2.2.2.1 o3.2.2.2.2.2.2.2.2.2.2.2.2.2 me))) hF hP hD (fun m_5 hF hP hD => ?_)
    refine z_nameW (wf := (fun y => (wMo cy a m_1 m1 m2 m3 m4 m_4 m_5 y o3.2.2.2.1 m9 mb o3.2.2.2.2.1 md mp o3.2.2.2.2.2.1 o3.2.2.2.2.2.2.1 o3.2.2.2.2.2.2.2.1 o3.2.2.2.2.2.2.2.2.1 o3.2.2.2.2.2.2.2.2.2.1 o3.2.2.2.2.2.2.2.2.2.2.1 o3.2.2.2.2.2.2.2.2.2.2.2.1 o3.2.2.2.2.2.2.2.2.2.2.2.2.1 o3.2.2.2.2.2.2.2.2.2.2.2.2.2 me))) hF hP hD (fun m_6 hF hP hD => ?_)
    refine z_nameW (wf := (fun y => (wMo cy a m_1 m1 m2 m3 m4 m_4 m_5 m_6 y m9 mb o3.2.2.2.2.1 md mp o3.2.2.2.2.2.1 o3.2.2.2.2.2.2.1 o3.2.2.2.2.2.2.2.1 o3.2.2.2.2.2.2.2.2.1 o3.2.2.2.2.2.2.2.2.2.1 o3.2.2.2.2.2.2.2.2.2.2.1 o3.2.2.2.2.2.2.2.2.2.2.2.1 o3.2.2.2.2.2.2.2.2.2.2.2.2.1 o3.2.2.2.2.2.2.2.2.2.2.2.2.2 me))) hF hP hD (fun m_7 hF hP hD => ?_)
    refine z_nameW (wf := (fun y => (wMo cy a m_1 m1 m2 m3 m4 m_4 m_5 m_6 m_7 m9 mb y md mp o3.2.2.2.2.2.1 o3.2.2.2.2.2.2.1 o3.2.2.2.2.2.2.2.1 o3.2.2.2.2.2.2.2.2.1 o3.2.2.2.2.2.2.2.2.2.1 o3.2.2.2.2.2.2.2.2.2.2.1 o3.2.2.2.2.2.2.2.2.2.2.2.1 o3.2.2.2.2.2.2.2.2.2.2.2.2.1 o3.2.2.2.2.2.2.2.2.2.2.2.2.2 me))) hF hP hD (fun ms_8 hF hP hD => ?_)
    refine z_nameW (wf := (fun y => (wMo cy a m_1 m1 m2 m3 m4 m_4 m_5 m_6 m_7 m9 mb ms_8 md mp y o3.2.2.2.2.2.2.1 o3.2.2.2.2.2.2.2.1 o3.2.2.2.2.2.2.2.2.1 o3.2.2.2.2.2.2.2.2.2.1 o3.2.2.2.2.2.2.2.2.2.2.1 o3.2.2.2.2.2.2.2.2.2.2.2.1 o3.2.2.2.2.2.2.2.2.2.2.2.2.1 o3.2.2.2.2.2.2.2.2.2.2.2.2.2 me))) hF hP hD (fun mf_9 hF hP hD => ?_)
    refine z_nameW (wf := (fun y => (wMo cy a m_1 m1 m2 m3 m4 m_4 m_5 m_6 m_7 m9 mb ms_8 md mp mf_9 y o3.2.2.2.2.2.2.2.1 o3.2.2.2.2.2.2.2.2.1 o3.2.2.2.2.2.2.2.2.2.1 o3.2.2.2.2.2.2.2.2.2.2.1 o3.2.2.2.2.2.2.2.2.2.2.2.1 o3.2.2.2.2.2.2.2.2.2.2.2.2.1 o3.2.2.2.2.2.2.2.2.2.2.2.2.2 me))) hF hP hD (fun mi_10 hF hP hD => ?_)
    refine z_nameW (wf := (fun y => (wMo cy a m_1 m1 m2 m3 m4 m_4 m_5 m_6 m_7 m9 mb ms_8 md mp mf_9 mi_10 y o3.2.2.2.2.2.2.2.2.1 o3.2.2.2.2.2.2.2.2.2.1 o3.2.2.2.2.2.2.2.2.2.2.1 o3.2.2.2.2.2.2.2.2.2.2.2.1 o3.2.2.2.2.2.2.2.2.2.2.2.2.1 o3.2.2.2.2.2.2.2.2.2.2.2.2.2 me))) hF hP hD (fun mo_11 hF hP hD => ?_)
    refine z_nameW (wf := (fun y => (wMo cy a m_1 m1 m2 m3 m4 m_4 m_5 m_6 m_7 m9 mb ms_8 md mp mf_9 mi_10 mo_11 y o3.2.2.2.2.2.2.2.2.2.1 o3.2.2.2.2.2.2.2.2.2.2.1 o3.2.2.2.2.2.2.2.2.2.2.2.1 o3.2.2.2.2.2.2.2.2.2.2.2.2.1 o3.2.2.2.2.2.2.2.2.2.2.2.2.2 me))) hF hP hD (fun mw_12 hF hP hD => ?_)
    refine z_nameW (wf := (fun y => (wMo cy a m_1 m1 m2 m3 m4 m_4 m_5 m_6 m_7 m9 mb ms_8 md mp mf_9 mi_10 mo_11 mw_12 y o3.2.2.2.2.2.2.2.2.2.2.1 o3.2.2.2.2.2.2.2.2.2.2.2.1 o3.2.2.2.2.2.2.2.2.2.2.2.2.1 o3.2.2.2.2.2.2.2.2.2.2.2.2.2 me))) hF hP hD (fun mn_13 hF hP hD => ?_)
    refine z_nameW (wf := (fun y => (wMo cy a m_1 m1 m2 m3 m4 m_4 m_5 m_6 m_7 m9 mb ms_8 md mp mf_9 mi_10 mo_11 mw_12 mn_13 y o3.2.2.2.2.2.2.2.2.2.2.2.1 o3.2.2.2.2.2.2.2.2.2.2.2.2.1 o3.2.2.2.2.2.2.2.2.2.2.2.2.2 me))) hF hP hD (fun mk_14 hF hP hD => ?_)
    refine z_nameW (wf := (fun y => (wMo cy a m_1 m1 m2 m3 m4 m_4 m_5 m_6 m_7 m9 mb ms_8 md mp mf_9 mi_10 mo_11 mw_12 mn_13 mk_14 y o3.2.2.2.2.2.2.2.2.2.2.2.2.1 o3.2.2.2.2.2.2.2.2.2.2.2.2.2 me))) hF hP hD (fun mt_15 hF hP hD => ?_)
    refine z_nameW (wf := (fun y => (wMo cy a m_1 m1 m2 m3 m4 m_4 m_5 m_6 m_7 m9 mb ms_8 md mp mf_9 mi_10 mo_11 mw_12 mn_13 mk_14 mt_15 y o3.2.2.2.2.2.2.2.2.2.2.2.2.2 me))) hF hP hD (fun mq_16 hF hP hD => ?_)
    refine z_nameW (wf := (fun y => (wMo cy a m_1 m1 m2 m3 m4 m_4 m_5 m_6 m_7 m9 mb ms_8 md mp mf_9 mi_10 mo_11 mw_12 mn_13 mk_14 mt_15 mq_16 y me))) hF hP hD (fun mz_17 hF hP hD => ?_)
    refine lv_iload_n hx hb dX8_settle_20 rfl (lv_at hl 1 rfl) ?_
    refine zf_ne (tgt := 31) hx hb hF dX8_settle_21 (by decide) (fun hF => ?_) (fun hF => ?_)
    · refine lv_iload_n hx hb dX8_settle_31 rfl (lv_at hl 1 rfl) ?_
      refine lv_iconst (v := 1) hx hb dX8_settle_32 (by decide) ?_
      refine zi_ne (tgt := 43) hx hb hF dX8_settle_33 (by decide) (fun hF => ?_) (fun hF => ?_)
      · refine lv_iload_n hx hb dX8_settle_43 rfl (lv_at hl 1 rfl) ?_
        refine lv_iconst (v := 2) hx hb dX8_settle_44 (by decide) ?_
        refine zi_ne (tgt := 55) hx hb hF dX8_settle_45 (by decide) (fun hF => ?_) (fun hF => ?_)
        · refine lv_aload_n hx hb dX8_settle_55 rfl (lv_at hl 0 rfl) ?_
          refine va_get (ci := 8) (C := RX8) (T := TX8) (N := 24) (fs := (zMo a m_1 m1 m2 m3 m4 m_4 m_5 m_6 m_7 m9)) (v := .int m_7) hx hb hts iX8 hown hK hP _ (wMo_at0 cy a m_1 m1 m2 m3 m4 m_4 m_5 m_6 m_7 m9 mb ms_8 md mp mf_9 mi_10 mo_11 mw_12 mn_13 mk_14 mt_15 mq_16 mz_17 me) rfl 21 (by decide) k154 (fun _ h9 => h9) rfl dX8_settle_56 ?_
          refine z_iret (o := o) (o1 := (m_7, m_1, m_4, m_5, m_6, m_7, ms_8, mf_9, mi_10, mo_11, mw_12, mn_13, mk_14, mt_15, mq_16, mz_17)) (v := m_7) (wf := (fun o => (wMo cy a o.2.1 m1 m2 m3 m4 o.2.2.1 o.2.2.2.1 o.2.2.2.2.1 o.2.2.2.2.2.1 m9 mb o.2.2.2.2.2.2.1 md mp o.2.2.2.2.2.2.2.1 o.2.2.2.2.2.2.2.2.1 o.2.2.2.2.2.2.2.2.2.1 o.2.2.2.2.2.2.2.2.2.2.1 o.2.2.2.2.2.2.2.2.2.2.2.1 o.2.2.2.2.2.2.2.2.2.2.2.2.1 o.2.2.2.2.2.2.2.2.2.2.2.2.2.1 o.2.2.2.2.2.2.2.2.2.2.2.2.2.2.1 o.2.2.2.2.2.2.2.2.2.2.2.2.2.2.2 me))) (rf := fun o => o.1) hx hb hr hlocks hK ?_ ?_ hS ?_ rfl dX8_settle_59
          · exact hP
          · exact hD
          · exact hF
        · refine lv_aload_n hx hb dX8_settle_48 rfl (lv_at hl 0 rfl) ?_
          refine va_get (ci := 8) (C := RX8) (T := TX8) (N := 24) (fs := (zMo a m_1 m1 m2 m3 m4 m_4 m_5 m_6 m_7 m9)) (v := .int m_6) hx hb hts iX8 hown hK hP _ (wMo_at0 cy a m_1 m1 m2 m3 m4 m_4 m_5 m_6 m_7 m9 mb ms_8 md mp mf_9 mi_10 mo_11 mw_12 mn_13 mk_14 mt_15 mq_16 mz_17 me) rfl 20 (by decide) k151 (fun _ h9 => h9) rfl dX8_settle_49 ?_
          refine lv_goto (tgt := 59) hx hb dX8_settle_52 (by decide) ?_
          refine z_iret (o := o) (o1 := (m_6, m_1, m_4, m_5, m_6, m_7, ms_8, mf_9, mi_10, mo_11, mw_12, mn_13, mk_14, mt_15, mq_16, mz_17)) (v := m_6) (wf := (fun o => (wMo cy a o.2.1 m1 m2 m3 m4 o.2.2.1 o.2.2.2.1 o.2.2.2.2.1 o.2.2.2.2.2.1 m9 mb o.2.2.2.2.2.2.1 md mp o.2.2.2.2.2.2.2.1 o.2.2.2.2.2.2.2.2.1 o.2.2.2.2.2.2.2.2.2.1 o.2.2.2.2.2.2.2.2.2.2.1 o.2.2.2.2.2.2.2.2.2.2.2.1 o.2.2.2.2.2.2.2.2.2.2.2.2.1 o.2.2.2.2.2.2.2.2.2.2.2.2.2.1 o.2.2.2.2.2.2.2.2.2.2.2.2.2.2.1 o.2.2.2.2.2.2.2.2.2.2.2.2.2.2.2 me))) (rf := fun o => o.1) hx hb hr hlocks hK ?_ ?_ hS ?_ rfl dX8_settle_59
          · exact hP
          · exact hD
          · exact hF
      · refine lv_aload_n hx hb dX8_settle_36 rfl (lv_at hl 0 rfl) ?_
        refine va_get (ci := 8) (C := RX8) (T := TX8) (N := 24) (fs := (zMo a m_1 m1 m2 m3 m4 m_4 m_5 m_6 m_7 m9)) (v := .int m_5) hx hb hts iX8 hown hK hP _ (wMo_at0 cy a m_1 m1 m2 m3 m4 m_4 m_5 m_6 m_7 m9 mb ms_8 md mp mf_9 mi_10 mo_11 mw_12 mn_13 mk_14 mt_15 mq_16 mz_17 me) rfl 19 (by decide) k148 (fun _ h9 => h9) rfl dX8_settle_37 ?_
        refine lv_goto (tgt := 59) hx hb dX8_settle_40 (by decide) ?_
        refine z_iret (o := o) (o1 := (m_5, m_1, m_4, m_5, m_6, m_7, ms_8, mf_9, mi_10, mo_11, mw_12, mn_13, mk_14, mt_15, mq_16, mz_17)) (v := m_5) (wf := (fun o => (wMo cy a o.2.1 m1 m2 m3 m4 o.2.2.1 o.2.2.2.1 o.2.2.2.2.1 o.2.2.2.2.2.1 m9 mb o.2.2.2.2.2.2.1 md mp o.2.2.2.2.2.2.2.1 o.2.2.2.2.2.2.2.2.1 o.2.2.2.2.2.2.2.2.2.1 o.2.2.2.2.2.2.2.2.2.2.1 o.2.2.2.2.2.2.2.2.2.2.2.1 o.2.2.2.2.2.2.2.2.2.2.2.2.1 o.2.2.2.2.2.2.2.2.2.2.2.2.2.1 o.2.2.2.2.2.2.2.2.2.2.2.2.2.2.1 o.2.2.2.2.2.2.2.2.2.2.2.2.2.2.2 me))) (rf := fun o => o.1) hx hb hr hlocks hK ?_ ?_ hS ?_ rfl dX8_settle_59
        · exact hP
        · exact hD
        · exact hF
    · refine lv_aload_n hx hb dX8_settle_24 rfl (lv_at hl 0 rfl) ?_
      refine va_get (ci := 8) (C := RX8) (T := TX8) (N := 24) (fs := (zMo a m_1 m1 m2 m3 m4 m_4 m_5 m_6 m_7 m9)) (v := .int m_4) hx hb hts iX8 hown hK hP _ (wMo_at0 cy a m_1 m1 m2 m3 m4 m_4 m_5 m_6 m_7 m9 mb ms_8 md mp mf_9 mi_10 mo_11 mw_12 mn_13 mk_14 mt_15 mq_16 mz_17 me) rfl 18 (by decide) k145 (fun _ h9 => h9) rfl dX8_settle_25 ?_
      refine lv_goto (tgt := 59) hx hb dX8_settle_28 (by decide) ?_
      refine z_iret (o := o) (o1 := (m_4, m_1, m_4, m_5, m_6, m_7, ms_8, mf_9, mi_10, mo_11, mw_12, mn_13, mk_14, mt_15, mq_16, mz_17)) (v := m_4) (wf := (fun o => (wMo cy a o.2.1 m1 m2 m3 m4 o.2.2.1 o.2.2.2.1 o.2.2.2.2.1 o.2.2.2.2.2.1 m9 mb o.2.2.2.2.2.2.1 md mp o.2.2.2.2.2.2.2.1 o.2.2.2.2.2.2.2.2.1 o.2.2.2.2.2.2.2.2.2.1 o.2.2.2.2.2.2.2.2.2.2.1 o.2.2.2.2.2.2.2.2.2.2.2.1 o.2.2.2.2.2.2.2.2.2.2.2.2.1 o.2.2.2.2.2.2.2.2.2.2.2.2.2.1 o.2.2.2.2.2.2.2.2.2.2.2.2.2.2.1 o.2.2.2.2.2.2.2.2.2.2.2.2.2.2.2 me))) (rf := fun o => o.1) hx hb hr hlocks hK ?_ ?_ hS ?_ rfl dX8_settle_59
      · exact hP
      · exact hD
      · exact hF
  · refine lv_iconst (v := (-1)) hx hb dX8_settle_14 (by decide) ?_
    refine z_iret (o := o) (o1 := ((-1), m_1, m5, m6, m7, m8, ms, mf, mi, mo, mw, mn, mk, mt, mq, mz)) (v := (-1)) (wf := (fun o => (wMo cy a o.2.1 m1 m2 m3 m4 o.2.2.1 o.2.2.2.1 o.2.2.2.2.1 o.2.2.2.2.2.1 m9 mb o.2.2.2.2.2.2.1 md mp o.2.2.2.2.2.2.2.1 o.2.2.2.2.2.2.2.2.1 o.2.2.2.2.2.2.2.2.2.1 o.2.2.2.2.2.2.2.2.2.2.1 o.2.2.2.2.2.2.2.2.2.2.2.1 o.2.2.2.2.2.2.2.2.2.2.2.2.1 o.2.2.2.2.2.2.2.2.2.2.2.2.2.1 o.2.2.2.2.2.2.2.2.2.2.2.2.2.2.1 o.2.2.2.2.2.2.2.2.2.2.2.2.2.2.2 me))) (rf := fun o => o.1) hx hb hr hlocks hK ?_ ?_ hS ?_ rfl dX8_settle_15
    · exact hP
    · exact hD
    · exact hF
