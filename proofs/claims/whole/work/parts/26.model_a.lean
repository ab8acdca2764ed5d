/-! ===== 26.model_a: laid by a program out of the decode rows ===== -/
def f_X8_in (x01 : Int32) (x02 : Int32) (x03 : Int32) : Option (Int32) :=
if x01 < x02 then (
some 0) else (
if x03 < x01 then (
some 0) else (
some 1))
set_option maxHeartbeats 4000000 in
set_option maxRecDepth 100000 in
theorem c_X8_in (l : Launch) (G : va_G) (cy : Nat → ClassId) (st : Nat → Nat) (x01 : Int32) (x02 : Int32) (x03 : Int32) (o : Int32) (hF : f_X8_in x01 x02 x03 = some o) : zMi l yX8_in wsX8_in (zR 1) G cy st [.int x01, .int x02, .int x03] ([] : va_W) ([] : va_W) o := by
  refine zM_of (cc := cX8_in) (maxL := 3) (ret := (some .boolean)) (Qc := fun A => zQi G cy A ([] : va_W) o) (by decide) rfl (Nat.le_of_ble_eq_true rfl) ?_
  intro p e s m below meth c A ls hx hb hml hr hlocks hown hts hK hSE hA hP hD hS hl
  have hown : s.vm.findClass RX8 = some m.cls := hown
  have hl : lv_has ls 3 [(0, .int x01), (1, .int x02), (2, .int x03)] := hl
  unfold f_X8_in at hF
  refine lv_iload_n hx hb dX8_in_0 rfl (lv_at hl 0 rfl) ?_
  refine lv_iload_n hx hb dX8_in_1 rfl (lv_at hl 1 rfl) ?_
  refine zi_lt (tgt := 14) hx hb hF dX8_in_2 (by decide) (fun hF => ?_) (fun hF => ?_)
  · refine lv_iconst (v := 0) hx hb dX8_in_14 (by decide) ?_
    refine z_zret (o := o) (o1 := 0) (v := 0) (wf := (fun o => ([] : va_W))) (rf := fun o => o) hx hb hr hlocks hK ?_ ?_ hS ?_ rfl rfl dX8_in_15
    · exact hP
    · exact hD
    · exact hF
  · refine lv_iload_n hx hb dX8_in_5 rfl (lv_at hl 0 rfl) ?_
    refine lv_iload_n hx hb dX8_in_6 rfl (lv_at hl 2 rfl) ?_
    refine zi_gt (tgt := 14) hx hb hF dX8_in_7 (by decide) (fun hF => ?_) (fun hF => ?_)
    · refine lv_iconst (v := 0) hx hb dX8_in_14 (by decide) ?_
      refine z_zret (o := o) (o1 := 0) (v := 0) (wf := (fun o => ([] : va_W))) (rf := fun o => o) hx hb hr hlocks hK ?_ ?_ hS ?_ rfl rfl dX8_in_15
      · exact hP
      · exact hD
      · exact hF
    · refine lv_iconst (v := 1) hx hb dX8_in_10 (by decide) ?_
      refine lv_goto (tgt := 15) hx hb dX8_in_11 (by decide) ?_
      refine z_zret (o := o) (o1 := 1) (v := 1) (wf := (fun o => ([] : va_W))) (rf := fun o => o) hx hb hr hlocks hK ?_ ?_ hS ?_ rfl rfl dX8_in_15
      · exact hP
      · exact hD
      · exact hF
def f_X8_write (m1 : Int32) (mb : Nat → Int32) (x01 : Int32) : Option (Int32 × Int32 × Int32 × (Nat → Int32)) :=
zlet 0 fun m_1 =>
zbd (f_X8_in x01 32 126) fun o2 =>
if o2 = 0 then (
some ((-1), m_1, m1, mb)) else (
if m1 = (200 : Int32) then (
some ((-3), m_1, m1, mb)) else (
zg (zin m1 200) (
zlet (upd mb (zn m1) (vp_nar .byte (zi2b x01))) fun mb_3 =>
zlet (m1 + 1) fun m_4 =>
some (m_4, m_1, m_4, mb_3))))
set_option maxHeartbeats 4000000 in
set_option maxRecDepth 100000 in
theorem c_X8_write (l : Launch) (G : va_G) (cy : Nat → ClassId) (st : Nat → Nat) (a : Nat → Nat) (m0 : Int32) (m1 : Int32) (m2 : Int32) (m3 : Int32) (m4 : Int32) (m5 : Int32) (m6 : Int32) (m7 : Int32) (m8 : Int32) (m9 : Int32) (mb : Nat → Int32) (ms : Nat → Int32) (md : Nat → Int32) (mp : Nat → Int32) (mf : Nat → Int32) (mi : Nat → Int32) (mo : Nat → Int32) (mw : Nat → Int32) (mn : Nat → Int32) (mk : Nat → Int32) (mt : Nat → Int64) (mq : Nat → Int32) (mz : Nat → Int32) (me : Nat → Int32) (x01 : Int32) (o : Int32 × Int32 × Int32 × (Nat → Int32)) (hF : f_X8_write m1 mb x01 = some o) : zMi l yX8_write wsX8_write (zR 2) G cy st [.ref (a 0), .int x01] (wMo cy a m0 m1 m2 m3 m4 m5 m6 m7 m8 m9 mb ms md mp mf mi mo mw mn mk mt mq mz me) (wMo cy a o.2.1 o.2.2.1 m2 m3 m4 m5 m6 m7 m8 m9 o.2.2.2 ms md mp mf mi mo mw mn mk mt mq mz me) o.1 := by
  refine zM_of (cc := cX8_write) (maxL := 2) (ret := (some .int)) (Qc := fun A => zQi G cy A (wMo cy a o.2.1 o.2.2.1 m2 m3 m4 m5 m6 m7 m8 m9 o.2.2.2 ms md mp mf mi mo mw mn mk mt mq mz me) o.1) (by decide) rfl (Nat.le_of_ble_eq_true rfl) ?_
  intro p e s m below meth c A ls hx hb hml hr hlocks hown hts hK hSE hA hP hD hS hl
  have hown : s.vm.findClass RX8 = some m.cls := hown
  have hl : lv_has ls 2 [(0, .ref (a 0)), (1, .int x01)] := hl
  have k59 := hts (.fieldLink RX8 59 "TapCascadeModel" "thrown" "I") (by decide +kernel)
  have iX8 : ∀ w ∈ wsX80, w ∈ wsX8_write := fun w h => List.mem_cons_of_mem _ (List.mem_append_right _ h)
  have k67 := hts (.fieldLink RX8 67 "TapCascadeModel" "letters" "I") (by decide +kernel)
  have k7 := hts (.fieldLink RX8 7 "TapCascadeModel" "text" "[B") (by decide +kernel)
  unfold f_X8_write at hF
  refine lv_aload_n hx hb dX8_write_0 rfl (lv_at hl 0 rfl) ?_
  refine lv_iconst (v := 0) hx hb dX8_write_1 (by decide) ?_
  refine z_puti (ci := 8) (C := RX8) (T := TX8) (N := 24) (fs := (zMo a m0 m1 m2 m3 m4 m5 m6 m7 m8 m9)) (x := 0) (wf := (fun y => (wMo cy a y m1 m2 m3 m4 m5 m6 m7 m8 m9 mb ms md mp mf mi mo mw mn mk mt mq mz me))) hx hb hts iX8 tyX8 tyX8_ok nmX8 hown hK hP hD hS _ 0 (wMo_foc0_0 cy a m0 m1 m2 m3 m4 m5 m6 m7 m8 m9 mb ms md mp mf mi mo mw mn mk mt mq mz me 0) rfl (by decide) k59 (fun _ h9 => h9) rfl (by decide +kernel) (Nat.le_of_ble_eq_true rfl) hF dX8_write_2 (fun m_1 hF H locs hP hD hS => ?_)
  refine lv_iload_n hx hb dX8_write_5 rfl (lv_at hl 1 rfl) ?_
  refine lv_bipush (v := 32) hx hb dX8_write_6 (by decide) ?_
  refine lv_bipush (v := 126) hx hb dX8_write_8 (by decide) ?_
  refine z_cSi (As := [.int x01, .int 32, .int 126]) (rest := []) (wc := ([] : va_W)) (wcf := fun o' => ([] : va_W)) (wf := fun o' => (wMo cy a m_1 m1 m2 m3 m4 m5 m6 m7 m8 m9 mb ms md mp mf mi mo mw mn mk mt mq mz me)) (rf := fun o' => o') hF (fun o' hz => c_X8_in l G cy st x01 32 126 o' hz) (fun o' => zCut_nil) ⟨hx, hb, hml, hown, hts⟩ (va_cwS 3 hts gX8_write_X8_in rfl rfl rfl (by decide +kernel) ⟨by decide, by decide⟩) hK hSE hA hP hD hS rfl hl.1 rfl (Nat.le_of_ble_eq_true rfl) dX8_write_10 ⟨Nat.le_refl _, Nat.le_refl _⟩ (fun o2 hF H locs hP hD hS => ?_)
  refine zf_ne (tgt := 18) hx hb hF dX8_write_13 (by decide) (fun hF => ?_) (fun hF => ?_)
  · refine lv_aload_n hx hb dX8_write_18 rfl (lv_at hl 0 rfl) ?_
    refine va_get (ci := 8) (C := RX8) (T := TX8) (N := 24) (fs := (zMo a m_1 m1 m2 m3 m4 m5 m6 m7 m8 m9)) (v := .int m1) hx hb hts iX8 hown hK hP _ (wMo_at0 cy a m_1 m1 m2 m3 m4 m5 m6 m7 m8 m9 mb ms md mp mf mi mo mw mn mk mt mq mz me) rfl 2 (by decide) k67 (fun _ h9 => h9) rfl dX8_write_19 ?_
    refine lv_sipush (v := 200) hx hb dX8_write_22 (by decide) ?_
    refine zi_ne (tgt := 31) hx hb hF dX8_write_25 (by decide) (fun hF => ?_) (fun hF => ?_)
    · refine lv_aload_n hx hb dX8_write_31 rfl (lv_at hl 0 rfl) ?_
      refine va_get (ci := 8) (C := RX8) (T := TX8) (N := 24) (fs := (zMo a m_1 m1 m2 m3 m4 m5 m6 m7 m8 m9)) (v := .ref (a 1)) hx hb hts iX8 hown hK hP _ (wMo_at0 cy a m_1 m1 m2 m3 m4 m5 m6 m7 m8 m9 mb ms md mp mf mi mo mw mn mk mt mq mz me) rfl 1 (by decide) k7 (fun _ h9 => h9) rfl dX8_write_32 ?_
      refine lv_aload_n hx hb dX8_write_35 rfl (lv_at hl 0 rfl) ?_
      refine va_get (ci := 8) (C := RX8) (T := TX8) (N := 24) (fs := (zMo a m_1 m1 m2 m3 m4 m5 m6 m7 m8 m9)) (v := .int m1) hx hb hts iX8 hown hK hP _ (wMo_at0 cy a m_1 m1 m2 m3 m4 m5 m6 m7 m8 m9 mb ms md mp mf mi mo mw mn mk mt mq mz me) rfl 2 (by decide) k67 (fun _ h9 => h9) rfl dX8_write_36 ?_
      refine lv_iload_n hx hb dX8_write_39 rfl (lv_at hl 1 rfl) ?_
      refine lv_i2b (v := (zi2b x01)) hx hb dX8_write_40 rfl ?_
      refine z_bast (n := 200) (f := mb) (i := m1) (x := (zi2b x01)) (wf := (fun y => (wMo cy a m_1 m1 m2 m3 m4 m5 m6 m7 m8 m9 y ms md mp mf mi mo mw mn mk mt mq mz me))) hx hb hK hP hD hS _ 0 (wMo_foc1 cy a m_1 m1 m2 m3 m4 m5 m6 m7 m8 m9 mb ms md mp mf mi mo mw mn mk mt mq mz me _) rfl hF dX8_write_41 (fun mb_3 hF H locs hP hD hS => ?_)
      refine lv_aload_n hx hb dX8_write_42 rfl (lv_at hl 0 rfl) ?_
      refine lv_dup hx hb dX8_write_43 rfl ?_
      refine va_get (ci := 8) (C := RX8) (T := TX8) (N := 24) (fs := (zMo a m_1 m1 m2 m3 m4 m5 m6 m7 m8 m9)) (v := .int m1) hx hb hts iX8 hown hK hP _ (wMo_at0 cy a m_1 m1 m2 m3 m4 m5 m6 m7 m8 m9 mb_3 ms md mp mf mi mo mw mn mk mt mq mz me) rfl 2 (by decide) k67 (fun _ h9 => h9) rfl dX8_write_44 ?_
      refine lv_iconst (v := 1) hx hb dX8_write_47 (by decide) ?_
      refine lv_iadd hx hb dX8_write_48 ?_
      refine z_puti (ci := 8) (C := RX8) (T := TX8) (N := 24) (fs := (zMo a m_1 m1 m2 m3 m4 m5 m6 m7 m8 m9)) (x := (m1 + 1)) (wf := (fun y => (wMo cy a m_1 y m2 m3 m4 m5 m6 m7 m8 m9 mb_3 ms md mp mf mi mo mw mn mk mt mq mz me))) hx hb hts iX8 tyX8 tyX8_ok nmX8 hown hK hP hD hS _ 2 (wMo_foc0_2 cy a m_1 m1 m2 m3 m4 m5 m6 m7 m8 m9 mb_3 ms md mp mf mi mo mw mn mk mt mq mz me (m1 + 1)) rfl (by decide) k67 (fun _ h9 => h9) rfl (by decide +kernel) (Nat.le_of_ble_eq_true rfl) hF dX8_write_49 (fun m_4 hF H locs hP hD hS => ?_)
      refine lv_aload_n hx hb dX8_write_52 rfl (lv_at hl 0 rfl) ?_
      refine va_get (ci := 8) (C := RX8) (T := TX8) (N := 24) (fs := (zMo a m_1 m_4 m2 m3 m4 m5 m6 m7 m8 m9)) (v := .int m_4) hx hb hts iX8 hown hK hP _ (wMo_at0 cy a m_1 m_4 m2 m3 m4 m5 m6 m7 m8 m9 mb_3 ms md mp mf mi mo mw mn mk mt mq mz me) rfl 2 (by decide) k67 (fun _ h9 => h9) rfl dX8_write_53 ?_
      refine z_iret (o := o) (o1 := (m_4, m_1, m_4, mb_3)) (v := m_4) (wf := (fun o => (wMo cy a o.2.1 o.2.2.1 m2 m3 m4 m5 m6 m7 m8 m9 o.2.2.2 ms md mp mf mi mo mw mn mk mt mq mz me))) (rf := fun o => o.1) hx hb hr hlocks hK ?_ ?_ hS ?_ rfl dX8_write_56
      · exact hP
      · exact hD
      · exact hF
    · refine lv_bipush (v := (-3)) hx hb dX8_write_28 (by decide) ?_
      refine z_iret (o := o) (o1 := ((-3), m_1, m1, mb)) (v := (-3)) (wf := (fun o => (wMo cy a o.2.1 o.2.2.1 m2 m3 m4 m5 m6 m7 m8 m9 o.2.2.2 ms md mp mf mi mo mw mn mk mt mq mz me))) (rf := fun o => o.1) hx hb hr hlocks hK ?_ ?_ hS ?_ rfl dX8_write_30
      · exact hP
      · exact hD
      · exact hF
  · refine lv_iconst (v := (-1)) hx hb dX8_write_16 (by decide) ?_
    refine z_iret (o := o) (o1 := ((-1), m_1, m1, mb)) (v := (-1)) (wf := (fun o => (wMo cy a o.2.1 o.2.2.1 m2 m3 m4 m5 m6 m7 m8 m9 o.2.2.2 ms md mp mf mi mo mw mn mk mt mq mz me))) (rf := fun o => o.1) hx hb hr hlocks hK ?_ ?_ hS ?_ rfl dX8_write_17
    · exact hP
    · exact hD
    · exact hF
def f_X8_wipe (m1 : Int32) : Option (Int32 × Int32 × Int32) :=
zlet 0 fun m_1 =>
zlet 0 fun m_2 =>
some (m1, m_1, m_2)
set_option maxHeartbeats 4000000 in
set_option maxRecDepth 100000 in
theorem c_X8_wipe (l : Launch) (G : va_G) (cy : Nat → ClassId) (st : Nat → Nat) (a : Nat → Nat) (m0 : Int32) (m1 : Int32) (m2 : Int32) (m3 : Int32) (m4 : Int32) (m5 : Int32) (m6 : Int32) (m7 : Int32) (m8 : Int32) (m9 : Int32) (mb : Nat → Int32) (ms : Nat → Int32) (md : Nat → Int32) (mp : Nat → Int32) (mf : Nat → Int32) (mi : Nat → Int32) (mo : Nat → Int32) (mw : Nat → Int32) (mn : Nat → Int32) (mk : Nat → Int32) (mt : Nat → Int64) (mq : Nat → Int32) (mz : Nat → Int32) (me : Nat → Int32) (o : Int32 × Int32 × Int32) (hF : f_X8_wipe m1 = some o) : zMi l yX8_wipe wsX8_wipe (zR 1) G cy st [.ref (a 0)] (wMo cy a m0 m1 m2 m3 m4 m5 m6 m7 m8 m9 mb ms md mp mf mi mo mw mn mk mt mq mz me) (wMo cy a o.2.1 o.2.2 m2 m3 m4 m5 m6 m7 m8 m9 mb ms md mp mf mi mo mw mn mk mt mq mz me) o.1 := by
  refine zM_of (cc := cX8_wipe) (maxL := 2) (ret := (some .int)) (Qc := fun A => zQi G cy A (wMo cy a o.2.1 o.2.2 m2 m3 m4 m5 m6 m7 m8 m9 mb ms md mp mf mi mo mw mn mk mt mq mz me) o.1) (by decide) rfl (Nat.le_of_ble_eq_true rfl) ?_
  intro p e s m below meth c A ls hx hb hml hr hlocks hown hts hK hSE hA hP hD hS hl
  have hown : s.vm.findClass RX8 = some m.cls := hown
  have hl : lv_has ls 2 [(0, .ref (a 0))] := hl
  have k59 := hts (.fieldLink RX8 59 "TapCascadeModel" "thrown" "I") (by decide +kernel)
  have iX8 : ∀ w ∈ wsX80, w ∈ wsX8_wipe := fun w h => List.mem_cons_of_mem _ (List.mem_append_right _ h)
  have k67 := hts (.fieldLink RX8 67 "TapCascadeModel" "letters" "I") (by decide +kernel)
  unfold f_X8_wipe at hF
  refine lv_aload_n hx hb dX8_wipe_0 rfl (lv_at hl 0 rfl) ?_
  refine lv_iconst (v := 0) hx hb dX8_wipe_1 (by decide) ?_
  refine z_puti (ci := 8) (C := RX8) (T := TX8) (N := 24) (fs := (zMo a m0 m1 m2 m3 m4 m5 m6 m7 m8 m9)) (x := 0) (wf := (fun y => (wMo cy a y m1 m2 m3 m4 m5 m6 m7 m8 m9 mb ms md mp mf mi mo mw mn mk mt mq mz me))) hx hb hts iX8 tyX8 tyX8_ok nmX8 hown hK hP hD hS _ 0 (wMo_foc0_0 cy a m0 m1 m2 m3 m4 m5 m6 m7 m8 m9 mb ms md mp mf mi mo mw mn mk mt mq mz me 0) rfl (by decide) k59 (fun _ h9 => h9) rfl (by decide +kernel) (Nat.le_of_ble_eq_true rfl) hF dX8_wipe_2 (fun m_1 hF H locs hP hD hS => ?_)
  refine lv_aload_n hx hb dX8_wipe_5 rfl (lv_at hl 0 rfl) ?_
  refine va_get (ci := 8) (C := RX8) (T := TX8) (N := 24) (fs := (zMo a m_1 m1 m2 m3 m4 m5 m6 m7 m8 m9)) (v := .int m1) hx hb hts iX8 hown hK hP _ (wMo_at0 cy a m_1 m1 m2 m3 m4 m5 m6 m7 m8 m9 mb ms md mp mf mi mo mw mn mk mt mq mz me) rfl 2 (by decide) k67 (fun _ h9 => h9) rfl dX8_wipe_6 ?_
  refine lv_istore_n (lv' := [(1, .int m1), (0, .ref (a 0))]) hx hb dX8_wipe_9 rfl hl (by decide) rfl (fun ls hl => ?_)
  refine lv_aload_n hx hb dX8_wipe_10 rfl (lv_at hl 1 rfl) ?_
  refine lv_iconst (v := 0) hx hb dX8_wipe_11 (by decide) ?_
  refine z_puti (ci := 8) (C := RX8) (T := TX8) (N := 24) (fs := (zMo a m_1 m1 m2 m3 m4 m5 m6 m7 m8 m9)) (x := 0) (wf := (fun y => (wMo cy a m_1 y m2 m3 m4 m5 m6 m7 m8 m9 mb ms md mp mf mi mo mw mn mk mt mq mz me))) hx hb hts iX8 tyX8 tyX8_ok nmX8 hown hK hP hD hS _ 2 (wMo_foc0_2 cy a m_1 m1 m2 m3 m4 m5 m6 m7 m8 m9 mb ms md mp mf mi mo mw mn mk mt mq mz me 0) rfl (by decide) k67 (fun _ h9 => h9) rfl (by decide +kernel) (Nat.le_of_ble_eq_true rfl) hF dX8_wipe_12 (fun m_2 hF H locs hP hD hS => ?_)
  refine lv_iload_n hx hb dX8_wipe_15 rfl (lv_at hl 0 rfl) ?_
  refine z_iret (o := o) (o1 := (m1, m_1, m_2)) (v := m1) (wf := (fun o => (wMo cy a o.2.1 o.2.2 m2 m3 m4 m5 m6 m7 m8 m9 mb ms md mp mf mi mo mw mn mk mt mq mz me))) (rf := fun o => o.1) hx hb hr hlocks hK ?_ ?_ hS ?_ rfl dX8_wipe_16
  · exact hP
  · exact hD
  · exact hF
def f_X8_isHere (m1 : Int32) (m3 : Int32) (mb : Nat → Int32) (x01 : Int32) : Option (Int32) :=
if m1 ≤ m3 then (
some 0) else (
zg (zin m3 200) (
if (mb (zn m3)) = x01 then (
some 1) else (
some 0)))
set_option maxHeartbeats 4000000 in
set_option maxRecDepth 100000 in
theorem c_X8_isHere (l : Launch) (G : va_G) (cy : Nat → ClassId) (st : Nat → Nat) (a : Nat → Nat) (m0 : Int32) (m1 : Int32) (m2 : Int32) (m3 : Int32) (m4 : Int32) (m5 : Int32) (m6 : Int32) (m7 : Int32) (m8 : Int32) (m9 : Int32) (mb : Nat → Int32) (ms : Nat → Int32) (md : Nat → Int32) (mp : Nat → Int32) (mf : Nat → Int32) (mi : Nat → Int32) (mo : Nat → Int32) (mw : Nat → Int32) (mn : Nat → Int32) (mk : Nat → Int32) (mt : Nat → Int64) (mq : Nat → Int32) (mz : Nat → Int32) (me : Nat → Int32) (x01 : Int32) (o : Int32) (hF : f_X8_isHere m1 m3 mb x01 = some o) : zMi l yX8_isHere wsX8_isHere (zR 1) G cy st [.ref (a 0), .int x01] (wMo cy a m0 m1 m2 m3 m4 m5 m6 m7 m8 m9 mb ms md mp mf mi mo mw mn mk mt mq mz me) (wMo cy a m0 m1 m2 m3 m4 m5 m6 m7 m8 m9 mb ms md mp mf mi mo mw mn mk mt mq mz me) o := by
  refine zM_of (cc := cX8_isHere) (maxL := 2) (ret := (some .boolean)) (Qc := fun A => zQi G cy A (wMo cy a m0 m1 m2 m3 m4 m5 m6 m7 m8 m9 mb ms md mp mf mi mo mw mn mk mt mq mz me) o) (by decide) rfl (Nat.le_of_ble_eq_true rfl) ?_
  intro p e s m below meth c A ls hx hb hml hr hlocks hown hts hK hSE hA hP hD hS hl
  have hown : s.vm.findClass RX8 = some m.cls := hown
  have hl : lv_has ls 2 [(0, .ref (a 0)), (1, .int x01)] := hl
  have k70 := hts (.fieldLink RX8 70 "TapCascadeModel" "at" "I") (by decide +kernel)
  have iX8 : ∀ w ∈ wsX80, w ∈ wsX8_isHere := fun w h => List.mem_cons_of_mem _ (List.mem_append_right _ h)
  have k67 := hts (.fieldLink RX8 67 "TapCascadeModel" "letters" "I") (by decide +kernel)
  have k7 := hts (.fieldLink RX8 7 "TapCascadeModel" "text" "[B") (by decide +kernel)
  unfold f_X8_isHere at hF
  refine lv_aload_n hx hb dX8_isHere_0 rfl (lv_at hl 0 rfl) ?_
  refine va_get (ci := 8) (C := RX8) (T := TX8) (N := 24) (fs := (zMo a m0 m1 m2 m3 m4 m5 m6 m7 m8 m9)) (v := .int m3) hx hb hts iX8 hown hK hP _ (wMo_at0 cy a m0 m1 m2 m3 m4 m5 m6 m7 m8 m9 mb ms md mp mf mi mo mw mn mk mt mq mz me) rfl 7 (by decide) k70 (fun _ h9 => h9) rfl dX8_isHere_1 ?_
  refine lv_aload_n hx hb dX8_isHere_4 rfl (lv_at hl 0 rfl) ?_
  refine va_get (ci := 8) (C := RX8) (T := TX8) (N := 24) (fs := (zMo a m0 m1 m2 m3 m4 m5 m6 m7 m8 m9)) (v := .int m1) hx hb hts iX8 hown hK hP _ (wMo_at0 cy a m0 m1 m2 m3 m4 m5 m6 m7 m8 m9 mb ms md mp mf mi mo mw mn mk mt mq mz me) rfl 2 (by decide) k67 (fun _ h9 => h9) rfl dX8_isHere_5 ?_
  refine zi_ge (tgt := 28) hx hb hF dX8_isHere_8 (by decide) (fun hF => ?_) (fun hF => ?_)
  · refine lv_iconst (v := 0) hx hb dX8_isHere_28 (by decide) ?_
    refine z_zret (o := o) (o1 := 0) (v := 0) (wf := (fun o => (wMo cy a m0 m1 m2 m3 m4 m5 m6 m7 m8 m9 mb ms md mp mf mi mo mw mn mk mt mq mz me))) (rf := fun o => o) hx hb hr hlocks hK ?_ ?_ hS ?_ rfl rfl dX8_isHere_29
    · exact hP
    · exact hD
    · exact hF
  · refine lv_aload_n hx hb dX8_isHere_11 rfl (lv_at hl 0 rfl) ?_
    refine va_get (ci := 8) (C := RX8) (T := TX8) (N := 24) (fs := (zMo a m0 m1 m2 m3 m4 m5 m6 m7 m8 m9)) (v := .ref (a 1)) hx hb hts iX8 hown hK hP _ (wMo_at0 cy a m0 m1 m2 m3 m4 m5 m6 m7 m8 m9 mb ms md mp mf mi mo mw mn mk mt mq mz me) rfl 1 (by decide) k7 (fun _ h9 => h9) rfl dX8_isHere_12 ?_
    refine lv_aload_n hx hb dX8_isHere_15 rfl (lv_at hl 0 rfl) ?_
    refine va_get (ci := 8) (C := RX8) (T := TX8) (N := 24) (fs := (zMo a m0 m1 m2 m3 m4 m5 m6 m7 m8 m9)) (v := .int m3) hx hb hts iX8 hown hK hP _ (wMo_at0 cy a m0 m1 m2 m3 m4 m5 m6 m7 m8 m9 mb ms md mp mf mi mo mw mn mk mt mq mz me) rfl 7 (by decide) k70 (fun _ h9 => h9) rfl dX8_isHere_16 ?_
    refine z_bald (n := 200) (f := mb) hx hb hK hP _ 0 (wMo_at1 cy a m0 m1 m2 m3 m4 m5 m6 m7 m8 m9 mb ms md mp mf mi mo mw mn mk mt mq mz me) rfl hF dX8_isHere_19 (fun hF => ?_)
    refine lv_iload_n hx hb dX8_isHere_20 rfl (lv_at hl 1 rfl) ?_
    refine zi_ne (tgt := 28) hx hb hF dX8_isHere_21 (by decide) (fun hF => ?_) (fun hF => ?_)
    · refine lv_iconst (v := 0) hx hb dX8_isHere_28 (by decide) ?_
      refine z_zret (o := o) (o1 := 0) (v := 0) (wf := (fun o => (wMo cy a m0 m1 m2 m3 m4 m5 m6 m7 m8 m9 mb ms md mp mf mi mo mw mn mk mt mq mz me))) (rf := fun o => o) hx hb hr hlocks hK ?_ ?_ hS ?_ rfl rfl dX8_isHere_29
      · exact hP
      · exact hD
      · exact hF
    · refine lv_iconst (v := 1) hx hb dX8_isHere_24 (by decide) ?_
      refine lv_goto (tgt := 29) hx hb dX8_isHere_25 (by decide) ?_
      refine z_zret (o := o) (o1 := 1) (v := 1) (wf := (fun o => (wMo cy a m0 m1 m2 m3 m4 m5 m6 m7 m8 m9 mb ms md mp mf mi mo mw mn mk mt mq mz me))) (rf := fun o => o) hx hb hr hlocks hK ?_ ?_ hS ?_ rfl rfl dX8_isHere_29
      · exact hP
      · exact hD
      · exact hF
def f_X8_takes (m1 : Int32) (m3 : Int32) (m4 : Int32) (mb : Nat → Int32) (x01 : Int32) : Option (Int32 × Int32) :=
zbd (f_X8_isHere m1 m3 mb x01) fun o1 =>
if o1 = 0 then (
zg (zbo 0) (
zlet 0 fun m_2 =>
some (m3, m_2))) else (
zlet (m3 + 1) fun m_3 =>
some (m_3, m4))
set_option maxHeartbeats 4000000 in
set_option maxRecDepth 100000 in
theorem c_X8_takes (l : Launch) (G : va_G) (cy : Nat → ClassId) (st : Nat → Nat) (a : Nat → Nat) (m0 : Int32) (m1 : Int32) (m2 : Int32) (m3 : Int32) (m4 : Int32) (m5 : Int32) (m6 : Int32) (m7 : Int32) (m8 : Int32) (m9 : Int32) (mb : Nat → Int32) (ms : Nat → Int32) (md : Nat → Int32) (mp : Nat → Int32) (mf : Nat → Int32) (mi : Nat → Int32) (mo : Nat → Int32) (mw : Nat → Int32) (mn : Nat → Int32) (mk : Nat → Int32) (mt : Nat → Int64) (mq : Nat → Int32) (mz : Nat → Int32) (me : Nat → Int32) (x01 : Int32) (o : Int32 × Int32) (hF : f_X8_takes m1 m3 m4 mb x01 = some o) : zMv l yX8_takes wsX8_takes (zR 2) G cy st [.ref (a 0), .int x01] (wMo cy a m0 m1 m2 m3 m4 m5 m6 m7 m8 m9 mb ms md mp mf mi mo mw mn mk mt mq mz me) (wMo cy a m0 m1 m2 o.1 o.2 m5 m6 m7 m8 m9 mb ms md mp mf mi mo mw mn mk mt mq mz me) := by
  refine zM_of (cc := cX8_takes) (maxL := 2) (ret := none) (Qc := fun A => zQv G cy A (wMo cy a m0 m1 m2 o.1 o.2 m5 m6 m7 m8 m9 mb ms md mp mf mi mo mw mn mk mt mq mz me)) (by decide) rfl (Nat.le_of_ble_eq_true rfl) ?_
  intro p e s m below meth c A ls hx hb hml hr hlocks hown hts hK hSE hA hP hD hS hl
  have hown : s.vm.findClass RX8 = some m.cls := hown
  have hl : lv_has ls 2 [(0, .ref (a 0)), (1, .int x01)] := hl
  have k77 := hts (.fieldLink RX8 77 "TapCascadeModel" "isSo" "Z") (by decide +kernel)
  have iX8 : ∀ w ∈ wsX80, w ∈ wsX8_takes := fun w h => List.mem_cons_of_mem _ (List.mem_append_right _ h)
  have k70 := hts (.fieldLink RX8 70 "TapCascadeModel" "at" "I") (by decide +kernel)
  unfold f_X8_takes at hF
  refine lv_aload_n hx hb dX8_takes_0 rfl (lv_at hl 0 rfl) ?_
  refine lv_iload_n hx hb dX8_takes_1 rfl (lv_at hl 1 rfl) ?_
  refine z_cVi (b := a 0) (As := [.int x01]) (rest := []) (wc := (wMo cy a m0 m1 m2 m3 m4 m5 m6 m7 m8 m9 mb ms md mp mf mi mo mw mn mk mt mq mz me)) (wcf := fun o' => (wMo cy a m0 m1 m2 m3 m4 m5 m6 m7 m8 m9 mb ms md mp mf mi mo mw mn mk mt mq mz me)) (wf := fun o' => (wMo cy a m0 m1 m2 m3 m4 m5 m6 m7 m8 m9 mb ms md mp mf mi mo mw mn mk mt mq mz me)) (rf := fun o' => o') hF (fun o' hz => c_X8_isHere l G cy st a m0 m1 m2 m3 m4 m5 m6 m7 m8 m9 mb ms md mp mf mi mo mw mn mk mt mq mz me x01 o' hz) (fun o' => zCut_all) ⟨hx, hb, hml, hown, hts⟩ (cwV 1 hts gX8_takes_X8_isHere rfl rfl rfl (by decide +kernel) ⟨by decide, by decide⟩) (ci := 8) (q0 := 0) rfl (wMo_at0 cy a m0 m1 m2 m3 m4 m5 m6 m7 m8 m9 mb ms md mp mf mi mo mw mn mk mt mq mz me) hK hSE hA hP hD hS rfl hl.1 rfl (Nat.le_of_ble_eq_true rfl) dX8_takes_2 ⟨Nat.le_refl _, Nat.le_refl _⟩ (fun o1 hF H locs hP hD hS => ?_)
  refine zf_eq (tgt := 21) hx hb hF dX8_takes_5 (by decide) (fun hF => ?_) (fun hF => ?_)
  · refine lv_aload_n hx hb dX8_takes_21 rfl (lv_at hl 0 rfl) ?_
    refine lv_iconst (v := 0) hx hb dX8_takes_22 (by decide) ?_
    refine z_putz (ci := 8) (C := RX8) (T := TX8) (N := 24) (fs := (zMo a m0 m1 m2 m3 m4 m5 m6 m7 m8 m9)) (x := 0) (wf := (fun y => (wMo cy a m0 m1 m2 m3 y m5 m6 m7 m8 m9 mb ms md mp mf mi mo mw mn mk mt mq mz me))) hx hb hts iX8 tyX8 tyX8_ok nmX8 hown hK hP hD hS _ 8 (wMo_foc0_8 cy a m0 m1 m2 m3 m4 m5 m6 m7 m8 m9 mb ms md mp mf mi mo mw mn mk mt mq mz me 0) rfl (by decide) k77 (fun _ h9 => h9) rfl (by decide +kernel) (Nat.le_of_ble_eq_true rfl) hF dX8_takes_23 (fun m_2 hF H locs hP hD hS => ?_)
    refine z_vret (o := o) (o1 := (m3, m_2)) (wf := (fun o => (wMo cy a m0 m1 m2 o.1 o.2 m5 m6 m7 m8 m9 mb ms md mp mf mi mo mw mn mk mt mq mz me))) hx hb hr hlocks hK ?_ ?_ hS ?_ dX8_takes_26
    · exact hP
    · exact hD
    · exact hF
  · refine lv_aload_n hx hb dX8_takes_8 rfl (lv_at hl 0 rfl) ?_
    refine lv_dup hx hb dX8_takes_9 rfl ?_
    refine va_get (ci := 8) (C := RX8) (T := TX8) (N := 24) (fs := (zMo a m0 m1 m2 m3 m4 m5 m6 m7 m8 m9)) (v := .int m3) hx hb hts iX8 hown hK hP _ (wMo_at0 cy a m0 m1 m2 m3 m4 m5 m6 m7 m8 m9 mb ms md mp mf mi mo mw mn mk mt mq mz me) rfl 7 (by decide) k70 (fun _ h9 => h9) rfl dX8_takes_10 ?_
    refine lv_iconst (v := 1) hx hb dX8_takes_13 (by decide) ?_
    refine lv_iadd hx hb dX8_takes_14 ?_
    refine z_puti (ci := 8) (C := RX8) (T := TX8) (N := 24) (fs := (zMo a m0 m1 m2 m3 m4 m5 m6 m7 m8 m9)) (x := (m3 + 1)) (wf := (fun y => (wMo cy a m0 m1 m2 y m4 m5 m6 m7 m8 m9 mb ms md mp mf mi mo mw mn mk mt mq mz me))) hx hb hts iX8 tyX8 tyX8_ok nmX8 hown hK hP hD hS _ 7 (wMo_foc0_7 cy a m0 m1 m2 m3 m4 m5 m6 m7 m8 m9 mb ms md mp mf mi mo mw mn mk mt mq mz me (m3 + 1)) rfl (by decide) k70 (fun _ h9 => h9) rfl (by decide +kernel) (Nat.le_of_ble_eq_true rfl) hF dX8_takes_15 (fun m_3 hF H locs hP hD hS => ?_)
    refine lv_goto (tgt := 26) hx hb dX8_takes_18 (by decide) ?_
    refine z_vret (o := o) (o1 := (m_3, m4)) (wf := (fun o => (wMo cy a m0 m1 m2 o.1 o.2 m5 m6 m7 m8 m9 mb ms md mp mf mi mo mw mn mk mt mq mz me))) hx hb hr hlocks hK ?_ ?_ hS ?_ dX8_takes_26
    · exact hP
    · exact hD
    · exact hF
def j_X8_takesNumber_182 (m_6 : Int32) (t9 : Int32) (t10 : Int32) : Option (Int32 × Int32 × Int32) :=
zg (zbo t10) (
zlet t10 fun m_11 =>
some (t9, m_6, m_11))
def j_X8_takesNumber_181 (m_6 : Int32) (t9 : Int32) : Option (Int32 × Int32 × Int32) :=
j_X8_takesNumber_182 m_6 t9 0
def j_X8_takesNumber_157 (x01 : Int32) (x02 : Int32) (m_6 : Int32) (m_8 : Int32) (t9 : Int32) : Option (Int32 × Int32 × Int32) :=
if m_8 = 0 then (
j_X8_takesNumber_181 m_6 t9) else (
zbd (f_X8_in t9 x01 x02) fun o12 =>
if o12 = 0 then (
j_X8_takesNumber_181 m_6 t9) else (
j_X8_takesNumber_182 m_6 t9 1))
def j_X8_takesNumber_142 (x01 : Int32) (x02 : Int32) (t1 : Int32) (y4 : Int32) (m_6 : Int32) (t7 : Int32) : Option (Int32 × Int32 × Int32) :=
zg (zbo t7) (
zlet t7 fun m_8 =>
if t1 = 0 then (
j_X8_takesNumber_157 x01 x02 m_6 m_8 y4) else (
j_X8_takesNumber_157 x01 x02 m_6 m_8 (-y4)))
def j_X8_takesNumber_141 (x01 : Int32) (x02 : Int32) (t1 : Int32) (y4 : Int32) (m_6 : Int32) : Option (Int32 × Int32 × Int32) :=
j_X8_takesNumber_142 x01 x02 t1 y4 m_6 0
def j_X8_takesNumber_137 (x01 : Int32) (x02 : Int32) (t1 : Int32) (y4 : Int32) (m_6 : Int32) : Option (Int32 × Int32 × Int32) :=
j_X8_takesNumber_142 x01 x02 t1 y4 m_6 1
def j_X8_takesNumber_115 (m4 : Int32) (x01 : Int32) (x02 : Int32) (t1 : Int32) (y4 : Int32) (y5 : Int32) (m_6 : Int32) : Option (Int32 × Int32 × Int32) :=
if m4 = 0 then (
j_X8_takesNumber_141 x01 x02 t1 y4 m_6) else (
if y5 ≤ 0 then (
j_X8_takesNumber_141 x01 x02 t1 y4 m_6) else (
if t1 = 0 then (
j_X8_takesNumber_137 x01 x02 t1 y4 m_6) else (
if y4 = 0 then (
j_X8_takesNumber_141 x01 x02 t1 y4 m_6) else (
j_X8_takesNumber_137 x01 x02 t1 y4 m_6))))
def b_X8_takesNumber_43 (m1 : Int32) (m4 : Int32) (mb : Nat → Int32) (x01 : Int32) (x02 : Int32) (t1 : Int32) (rc43 : (Int32 × Int32 × Int32) → Option (Int32 × Int32 × Int32)) (s43 : Int32 × Int32 × Int32) : Option (Int32 × Int32 × Int32) :=
if m1 ≤ s43.2.2 then (
j_X8_takesNumber_115 m4 x01 x02 t1 s43.1 s43.2.1 s43.2.2) else (
zg (zin s43.2.2 200) (
zbd (f_X8_in (mb (zn s43.2.2)) 48 57) fun o13 =>
if o13 = 0 then (
j_X8_takesNumber_115 m4 x01 x02 t1 s43.1 s43.2.1 s43.2.2) else (
if (4 : Int32) ≤ s43.2.1 then (
j_X8_takesNumber_115 m4 x01 x02 t1 s43.1 s43.2.1 s43.2.2) else (
zg (zin s43.2.2 200) (
zlet (((10 * s43.1) + (mb (zn s43.2.2))) - 48) fun x14 =>
zlet (s43.2.1 + 1) fun x15 =>
zlet (s43.2.2 + 1) fun m_16 =>
rc43 (x14, x15, m_16))))))
def j_X8_takesNumber_33 (m1 : Int32) (m3 : Int32) (m4 : Int32) (mb : Nat → Int32) (x01 : Int32) (x02 : Int32) (t1 : Int32) (t2 : Int32) : Option (Int32 × Int32 × Int32) :=
zlet (m3 + t2) fun m_3 =>
zloop (b_X8_takesNumber_43 m1 m4 mb x01 x02 t1) 1000 (0, 0, m_3)
def j_X8_takesNumber_18 (m1 : Int32) (m3 : Int32) (m4 : Int32) (mb : Nat → Int32) (x01 : Int32) (x02 : Int32) (t1 : Int32) : Option (Int32 × Int32 × Int32) :=
if t1 = 0 then (
j_X8_takesNumber_33 m1 m3 m4 mb x01 x02 t1 0) else (
j_X8_takesNumber_33 m1 m3 m4 mb x01 x02 t1 1)
def j_X8_takesNumber_17 (m1 : Int32) (m3 : Int32) (m4 : Int32) (mb : Nat → Int32) (x01 : Int32) (x02 : Int32) : Option (Int32 × Int32 × Int32) :=
j_X8_takesNumber_18 m1 m3 m4 mb x01 x02 0
def f_X8_takesNumber (m1 : Int32) (m3 : Int32) (m4 : Int32) (mb : Nat → Int32) (x01 : Int32) (x02 : Int32) : Option (Int32 × Int32 × Int32) :=
if 0 ≤ x01 then (
j_X8_takesNumber_17 m1 m3 m4 mb x01 x02) else (
zbd (f_X8_isHere m1 m3 mb 45) fun o17 =>
if o17 = 0 then (
j_X8_takesNumber_17 m1 m3 m4 mb x01 x02) else (
j_X8_takesNumber_18 m1 m3 m4 mb x01 x02 1))
set_option maxHeartbeats 4000000 in
set_option maxRecDepth 100000 in
theorem c_X8_takesNumber (l : Launch) (G : va_G) (cy : Nat → ClassId) (st : Nat → Nat) (a : Nat → Nat) (m0 : Int32) (m1 : Int32) (m2 : Int32) (m3 : Int32) (m4 : Int32) (m5 : Int32) (m6 : Int32) (m7 : Int32) (m8 : Int32) (m9 : Int32) (mb : Nat → Int32) (ms : Nat → Int32) (md : Nat → Int32) (mp : Nat → Int32) (mf : Nat → Int32) (mi : Nat → Int32) (mo : Nat → Int32) (mw : Nat → Int32) (mn : Nat → Int32) (mk : Nat → Int32) (mt : Nat → Int64) (mq : Nat → Int32) (mz : Nat → Int32) (me : Nat → Int32) (x01 : Int32) (x02 : Int32) (o : Int32 × Int32 × Int32) (hF : f_X8_takesNumber m1 m3 m4 mb x01 x02 = some o) : zMi l yX8_takesNumber wsX8_takesNumber (zR 2) G cy st [.ref (a 0), .int x01, .int x02] (wMo cy a m0 m1 m2 m3 m4 m5 m6 m7 m8 m9 mb ms md mp mf mi mo mw mn mk mt mq mz me) (wMo cy a m0 m1 m2 o.2.1 o.2.2 m5 m6 m7 m8 m9 mb ms md mp mf mi mo mw mn mk mt mq mz me) o.1 := by
  refine zM_of (cc := cX8_takesNumber) (maxL := 6) (ret := (some .int)) (Qc := fun A => zQi G cy A (wMo cy a m0 m1 m2 o.2.1 o.2.2 m5 m6 m7 m8 m9 mb ms md mp mf mi mo mw mn mk mt mq mz me) o.1) (by decide) rfl (Nat.le_of_ble_eq_true rfl) ?_
  intro p e s m below meth c A ls hx hb hml hr hlocks hown hts hK hSE hA hP hD hS hl
  have hown : s.vm.findClass RX8 = some m.cls := hown
  have hl : lv_has ls 6 [(0, .ref (a 0)), (1, .int x01), (2, .int x02)] := hl
  have k70 := hts (.fieldLink RX8 70 "TapCascadeModel" "at" "I") (by decide +kernel)
  have iX8 : ∀ w ∈ wsX80, w ∈ wsX8_takesNumber := fun w h => List.mem_cons_of_mem _ (List.mem_append_right _ h)
  have k77 := hts (.fieldLink RX8 77 "TapCascadeModel" "isSo" "Z") (by decide +kernel)
  have k67 := hts (.fieldLink RX8 67 "TapCascadeModel" "letters" "I") (by decide +kernel)
  have k7 := hts (.fieldLink RX8 7 "TapCascadeModel" "text" "[B") (by decide +kernel)
  unfold f_X8_takesNumber at hF
  refine lv_iload_n hx hb dX8_takesNumber_0 rfl (lv_at hl 1 rfl) ?_
  have J18 : ∀ (t1 : Int32) (H : Heap) (locs : List Loc) (ls : Array Slot), va_P G vwCl (wMo cy a m0 m1 m2 m3 m4 m5 m6 m7 m8 m9 mb ms md mp mf mi mo mw mn mk mt mq mz me) H → va_D A (wMo cy a m0 m1 m2 m3 m4 m5 m6 m7 m8 m9 mb ms md mp mf mi mo mw mn mk mt mq mz me) → va_S A s.heap H locs → lv_has ls 6 [(0, .ref (a 0)), (1, .int x01), (2, .int x02)] → j_X8_takesNumber_18 m1 m3 m4 mb x01 x02 t1 = some o → W p l e (zR 2) s m ([.ref (a 0), .int x01, .int x02] : List Value).toArray below meth c H locs 0 0 (MQ below (zQi G cy A (wMo cy a m0 m1 m2 o.2.1 o.2.2 m5 m6 m7 m8 m9 mb ms md mp mf mi mo mw mn mk mt mq mz me) o.1) ([.ref (a 0), .int x01, .int x02] : List Value).toArray s 0 0 A) (F0 m 18 ls [.int t1]) := by
    intro t1 H locs ls hP hD hS hl hF
    unfold j_X8_takesNumber_18 at hF
    refine lv_istore_n (lv' := [(3, .int t1), (0, .ref (a 0)), (1, .int x01), (2, .int x02)]) hx hb dX8_takesNumber_18 rfl hl (by decide) rfl (fun ls hl => ?_)
    refine lv_aload_n hx hb dX8_takesNumber_19 rfl (lv_at hl 1 rfl) ?_
    refine lv_dup hx hb dX8_takesNumber_20 rfl ?_
    refine va_get (ci := 8) (C := RX8) (T := TX8) (N := 24) (fs := (zMo a m0 m1 m2 m3 m4 m5 m6 m7 m8 m9)) (v := .int m3) hx hb hts iX8 hown hK hP _ (wMo_at0 cy a m0 m1 m2 m3 m4 m5 m6 m7 m8 m9 mb ms md mp mf mi mo mw mn mk mt mq mz me) rfl 7 (by decide) k70 (fun _ h9 => h9) rfl dX8_takesNumber_21 ?_
    refine lv_iload_n hx hb dX8_takesNumber_24 rfl (lv_at hl 0 rfl) ?_
    have J33 : ∀ (t2 : Int32) (H : Heap) (locs : List Loc) (ls : Array Slot), va_P G vwCl (wMo cy a m0 m1 m2 m3 m4 m5 m6 m7 m8 m9 mb ms md mp mf mi mo mw mn mk mt mq mz me) H → va_D A (wMo cy a m0 m1 m2 m3 m4 m5 m6 m7 m8 m9 mb ms md mp mf mi mo mw mn mk mt mq mz me) → va_S A s.heap H locs → lv_has ls 6 [(0, .ref (a 0)), (1, .int x01), (2, .int x02), (3, .int t1)] → j_X8_takesNumber_33 m1 m3 m4 mb x01 x02 t1 t2 = some o → W p l e (zR 2) s m ([.ref (a 0), .int x01, .int x02] : List Value).toArray below meth c H locs 0 0 (MQ below (zQi G cy A (wMo cy a m0 m1 m2 o.2.1 o.2.2 m5 m6 m7 m8 m9 mb ms md mp mf mi mo mw mn mk mt mq mz me) o.1) ([.ref (a 0), .int x01, .int x02] : List Value).toArray s 0 0 A) (F0 m 33 ls [.int t2, .int m3, .ref (a 0)]) := by
      intro t2 H locs ls hP hD hS hl hF
      unfold j_X8_takesNumber_33 at hF
      refine lv_iadd hx hb dX8_takesNumber_33 ?_
      refine z_puti (ci := 8) (C := RX8) (T := TX8) (N := 24) (fs := (zMo a m0 m1 m2 m3 m4 m5 m6 m7 m8 m9)) (x := (m3 + t2)) (wf := (fun y => (wMo cy a m0 m1 m2 y m4 m5 m6 m7 m8 m9 mb ms md mp mf mi mo mw mn mk mt mq mz me))) hx hb hts iX8 tyX8 tyX8_ok nmX8 hown hK hP hD hS _ 7 (wMo_foc0_7 cy a m0 m1 m2 m3 m4 m5 m6 m7 m8 m9 mb ms md mp mf mi mo mw mn mk mt mq mz me (m3 + t2)) rfl (by decide) k70 (fun _ h9 => h9) rfl (by decide +kernel) (Nat.le_of_ble_eq_true rfl) hF dX8_takesNumber_34 (fun m_3 hF H locs hP hD hS => ?_)
      refine lv_iconst (v := 0) hx hb dX8_takesNumber_37 (by decide) ?_
      refine lv_istore (lv' := [(4, .int 0), (0, .ref (a 0)), (1, .int x01), (2, .int x02), (3, .int t1)]) hx hb dX8_takesNumber_38 hl (by decide) rfl (fun ls hl => ?_)
      refine lv_iconst (v := 0) hx hb dX8_takesNumber_40 (by decide) ?_
      refine lv_istore (lv' := [(5, .int 0), (4, .int 0), (0, .ref (a 0)), (1, .int x01), (2, .int x02), (3, .int t1)]) hx hb dX8_takesNumber_41 hl (by decide) rfl (fun ls hl => ?_)
      have J115 : ∀ (y4 : Int32) (y5 : Int32) (m_6 : Int32) (H : Heap) (locs : List Loc) (ls : Array Slot), va_P G vwCl (wMo cy a m0 m1 m2 m_6 m4 m5 m6 m7 m8 m9 mb ms md mp mf mi mo mw mn mk mt mq mz me) H → va_D A (wMo cy a m0 m1 m2 m_6 m4 m5 m6 m7 m8 m9 mb ms md mp mf mi mo mw mn mk mt mq mz me) → va_S A s.heap H locs → lv_has ls 6 [(0, .ref (a 0)), (1, .int x01), (2, .int x02), (3, .int t1), (4, .int y4), (5, .int y5)] → j_X8_takesNumber_115 m4 x01 x02 t1 y4 y5 m_6 = some o → W p l e (zR 2) s m ([.ref (a 0), .int x01, .int x02] : List Value).toArray below meth c H locs 0 0 (MQ below (zQi G cy A (wMo cy a m0 m1 m2 o.2.1 o.2.2 m5 m6 m7 m8 m9 mb ms md mp mf mi mo mw mn mk mt mq mz me) o.1) ([.ref (a 0), .int x01, .int x02] : List Value).toArray s 0 0 A) (F0 m 115 ls []) := by
        intro y4 y5 m_6 H locs ls hP hD hS hl hF
        unfold j_X8_takesNumber_115 at hF
        refine lv_aload_n hx hb dX8_takesNumber_115 rfl (lv_at hl 0 rfl) ?_
        refine lv_aload_n hx hb dX8_takesNumber_116 rfl (lv_at hl 0 rfl) ?_
        refine va_get (ci := 8) (C := RX8) (T := TX8) (N := 24) (fs := (zMo a m0 m1 m2 m_6 m4 m5 m6 m7 m8 m9)) (v := .int m4) hx hb hts iX8 hown hK hP _ (wMo_at0 cy a m0 m1 m2 m_6 m4 m5 m6 m7 m8 m9 mb ms md mp mf mi mo mw mn mk mt mq mz me) rfl 8 (by decide) k77 (fun _ h9 => h9) rfl dX8_takesNumber_117 ?_
        have J142 : ∀ (t7 : Int32) (H : Heap) (locs : List Loc) (ls : Array Slot), va_P G vwCl (wMo cy a m0 m1 m2 m_6 m4 m5 m6 m7 m8 m9 mb ms md mp mf mi mo mw mn mk mt mq mz me) H → va_D A (wMo cy a m0 m1 m2 m_6 m4 m5 m6 m7 m8 m9 mb ms md mp mf mi mo mw mn mk mt mq mz me) → va_S A s.heap H locs → lv_has ls 6 [(0, .ref (a 0)), (1, .int x01), (2, .int x02), (3, .int t1), (4, .int y4)] → j_X8_takesNumber_142 x01 x02 t1 y4 m_6 t7 = some o → W p l e (zR 2) s m ([.ref (a 0), .int x01, .int x02] : List Value).toArray below meth c H locs 0 0 (MQ below (zQi G cy A (wMo cy a m0 m1 m2 o.2.1 o.2.2 m5 m6 m7 m8 m9 mb ms md mp mf mi mo mw mn mk mt mq mz me) o.1) ([.ref (a 0), .int x01, .int x02] : List Value).toArray s 0 0 A) (F0 m 142 ls [.int t7, .ref (a 0)]) := by
          intro t7 H locs ls hP hD hS hl hF
          unfold j_X8_takesNumber_142 at hF
          refine z_putz (ci := 8) (C := RX8) (T := TX8) (N := 24) (fs := (zMo a m0 m1 m2 m_6 m4 m5 m6 m7 m8 m9)) (x := t7) (wf := (fun y => (wMo cy a m0 m1 m2 m_6 y m5 m6 m7 m8 m9 mb ms md mp mf mi mo mw mn mk mt mq mz me))) hx hb hts iX8 tyX8 tyX8_ok nmX8 hown hK hP hD hS _ 8 (wMo_foc0_8 cy a m0 m1 m2 m_6 m4 m5 m6 m7 m8 m9 mb ms md mp mf mi mo mw mn mk mt mq mz me t7) rfl (by decide) k77 (fun _ h9 => h9) rfl (by decide +kernel) (Nat.le_of_ble_eq_true rfl) hF dX8_takesNumber_142 (fun m_8 hF H locs hP hD hS => ?_)
          refine lv_iload_n hx hb dX8_takesNumber_145 rfl (lv_at hl 3 rfl) ?_
          have J157 : ∀ (t9 : Int32) (H : Heap) (locs : List Loc) (ls : Array Slot), va_P G vwCl (wMo cy a m0 m1 m2 m_6 m_8 m5 m6 m7 m8 m9 mb ms md mp mf mi mo mw mn mk mt mq mz me) H → va_D A (wMo cy a m0 m1 m2 m_6 m_8 m5 m6 m7 m8 m9 mb ms md mp mf mi mo mw mn mk mt mq mz me) → va_S A s.heap H locs → lv_has ls 6 [(0, .ref (a 0)), (1, .int x01), (2, .int x02)] → j_X8_takesNumber_157 x01 x02 m_6 m_8 t9 = some o → W p l e (zR 2) s m ([.ref (a 0), .int x01, .int x02] : List Value).toArray below meth c H locs 0 0 (MQ below (zQi G cy A (wMo cy a m0 m1 m2 o.2.1 o.2.2 m5 m6 m7 m8 m9 mb ms md mp mf mi mo mw mn mk mt mq mz me) o.1) ([.ref (a 0), .int x01, .int x02] : List Value).toArray s 0 0 A) (F0 m 157 ls [.int t9]) := by
            intro t9 H locs ls hP hD hS hl hF
            unfold j_X8_takesNumber_157 at hF
            refine lv_istore (lv' := [(4, .int t9), (0, .ref (a 0)), (1, .int x01), (2, .int x02)]) hx hb dX8_takesNumber_157 hl (by decide) rfl (fun ls hl => ?_)
            refine lv_aload_n hx hb dX8_takesNumber_159 rfl (lv_at hl 1 rfl) ?_
            refine lv_aload_n hx hb dX8_takesNumber_160 rfl (lv_at hl 1 rfl) ?_
            refine va_get (ci := 8) (C := RX8) (T := TX8) (N := 24) (fs := (zMo a m0 m1 m2 m_6 m_8 m5 m6 m7 m8 m9)) (v := .int m_8) hx hb hts iX8 hown hK hP _ (wMo_at0 cy a m0 m1 m2 m_6 m_8 m5 m6 m7 m8 m9 mb ms md mp mf mi mo mw mn mk mt mq mz me) rfl 8 (by decide) k77 (fun _ h9 => h9) rfl dX8_takesNumber_161 ?_
            have J182 : ∀ (t10 : Int32) (H : Heap) (locs : List Loc) (ls : Array Slot), va_P G vwCl (wMo cy a m0 m1 m2 m_6 m_8 m5 m6 m7 m8 m9 mb ms md mp mf mi mo mw mn mk mt mq mz me) H → va_D A (wMo cy a m0 m1 m2 m_6 m_8 m5 m6 m7 m8 m9 mb ms md mp mf mi mo mw mn mk mt mq mz me) → va_S A s.heap H locs → lv_has ls 6 [(4, .int t9)] → j_X8_takesNumber_182 m_6 t9 t10 = some o → W p l e (zR 2) s m ([.ref (a 0), .int x01, .int x02] : List Value).toArray below meth c H locs 0 0 (MQ below (zQi G cy A (wMo cy a m0 m1 m2 o.2.1 o.2.2 m5 m6 m7 m8 m9 mb ms md mp mf mi mo mw mn mk mt mq mz me) o.1) ([.ref (a 0), .int x01, .int x02] : List Value).toArray s 0 0 A) (F0 m 182 ls [.int t10, .ref (a 0)]) := by
              intro t10 H locs ls hP hD hS hl hF
              unfold j_X8_takesNumber_182 at hF
              refine z_putz (ci := 8) (C := RX8) (T := TX8) (N := 24) (fs := (zMo a m0 m1 m2 m_6 m_8 m5 m6 m7 m8 m9)) (x := t10) (wf := (fun y => (wMo cy a m0 m1 m2 m_6 y m5 m6 m7 m8 m9 mb ms md mp mf mi mo mw mn mk mt mq mz me))) hx hb hts iX8 tyX8 tyX8_ok nmX8 hown hK hP hD hS _ 8 (wMo_foc0_8 cy a m0 m1 m2 m_6 m_8 m5 m6 m7 m8 m9 mb ms md mp mf mi mo mw mn mk mt mq mz me t10) rfl (by decide) k77 (fun _ h9 => h9) rfl (by decide +kernel) (Nat.le_of_ble_eq_true rfl) hF dX8_takesNumber_182 (fun m_11 hF H locs hP hD hS => ?_)
              refine lv_iload hx hb dX8_takesNumber_185 (lv_at hl 0 rfl) ?_
              refine z_iret (o := o) (o1 := (t9, m_6, m_11)) (v := t9) (wf := (fun o => (wMo cy a m0 m1 m2 o.2.1 o.2.2 m5 m6 m7 m8 m9 mb ms md mp mf mi mo mw mn mk mt mq mz me))) (rf := fun o => o.1) hx hb hr hlocks hK ?_ ?_ hS ?_ rfl dX8_takesNumber_187
              · exact hP
              · exact hD
              · exact hF
            have J181 : ∀ (H : Heap) (locs : List Loc) (ls : Array Slot), va_P G vwCl (wMo cy a m0 m1 m2 m_6 m_8 m5 m6 m7 m8 m9 mb ms md mp mf mi mo mw mn mk mt mq mz me) H → va_D A (wMo cy a m0 m1 m2 m_6 m_8 m5 m6 m7 m8 m9 mb ms md mp mf mi mo mw mn mk mt mq mz me) → va_S A s.heap H locs → lv_has ls 6 [(4, .int t9)] → j_X8_takesNumber_181 m_6 t9 = some o → W p l e (zR 2) s m ([.ref (a 0), .int x01, .int x02] : List Value).toArray below meth c H locs 0 0 (MQ below (zQi G cy A (wMo cy a m0 m1 m2 o.2.1 o.2.2 m5 m6 m7 m8 m9 mb ms md mp mf mi mo mw mn mk mt mq mz me) o.1) ([.ref (a 0), .int x01, .int x02] : List Value).toArray s 0 0 A) (F0 m 181 ls [.ref (a 0)]) := by
              intro H locs ls hP hD hS hl hF
              unfold j_X8_takesNumber_181 at hF
              refine lv_iconst (v := 0) hx hb dX8_takesNumber_181 (by decide) ?_
              exact J182 0 _ _ ls hP hD hS (lv_sub hl [0] rfl) hF
            refine zf_eq (tgt := 181) hx hb hF dX8_takesNumber_164 (by decide) (fun hF => ?_) (fun hF => ?_)
            · exact J181 _ _ ls hP hD hS (lv_sub hl [0] rfl) hF
            · refine lv_iload hx hb dX8_takesNumber_167 (lv_at hl 0 rfl) ?_
              refine lv_iload_n hx hb dX8_takesNumber_169 rfl (lv_at hl 2 rfl) ?_
              refine lv_iload_n hx hb dX8_takesNumber_170 rfl (lv_at hl 3 rfl) ?_
              refine z_cSi (As := [.int t9, .int x01, .int x02]) (rest := [.ref (a 0)]) (wc := ([] : va_W)) (wcf := fun o' => ([] : va_W)) (wf := fun o' => (wMo cy a m0 m1 m2 m_6 m_8 m5 m6 m7 m8 m9 mb ms md mp mf mi mo mw mn mk mt mq mz me)) (rf := fun o' => o') hF (fun o' hz => c_X8_in l G cy st t9 x01 x02 o' hz) (fun o' => zCut_nil) ⟨hx, hb, hml, hown, hts⟩ (va_cwS 3 hts gX8_takesNumber_X8_in rfl rfl rfl (by decide +kernel) ⟨by decide, by decide⟩) hK hSE hA hP hD hS rfl hl.1 rfl (Nat.le_of_ble_eq_true rfl) dX8_takesNumber_171 ⟨Nat.le_refl _, Nat.le_refl _⟩ (fun o12 hF H locs hP hD hS => ?_)
              refine zf_eq (tgt := 181) hx hb hF dX8_takesNumber_174 (by decide) (fun hF => ?_) (fun hF => ?_)
              · exact J181 _ _ ls hP hD hS (lv_sub hl [0] rfl) hF
              · refine lv_iconst (v := 1) hx hb dX8_takesNumber_177 (by decide) ?_
                refine lv_goto (tgt := 182) hx hb dX8_takesNumber_178 (by decide) ?_
                exact J182 1 _ _ ls hP hD hS (lv_sub hl [0] rfl) hF
          refine zf_eq (tgt := 155) hx hb hF dX8_takesNumber_146 (by decide) (fun hF => ?_) (fun hF => ?_)
          · refine lv_iload hx hb dX8_takesNumber_155 (lv_at hl 4 rfl) ?_
            exact J157 y4 _ _ ls hP hD hS (lv_sub hl [0, 1, 2] rfl) hF
          · refine lv_iload hx hb dX8_takesNumber_149 (lv_at hl 4 rfl) ?_
            refine lv_ineg hx hb dX8_takesNumber_151 ?_
            refine lv_goto (tgt := 157) hx hb dX8_takesNumber_152 (by decide) ?_
            exact J157 (-y4) _ _ ls hP hD hS (lv_sub hl [0, 1, 2] rfl) hF
        have J141 : ∀ (H : Heap) (locs : List Loc) (ls : Array Slot), va_P G vwCl (wMo cy a m0 m1 m2 m_6 m4 m5 m6 m7 m8 m9 mb ms md mp mf mi mo mw mn mk mt mq mz me) H → va_D A (wMo cy a m0 m1 m2 m_6 m4 m5 m6 m7 m8 m9 mb ms md mp mf mi mo mw mn mk mt mq mz me) → va_S A s.heap H locs → lv_has ls 6 [(0, .ref (a 0)), (1, .int x01), (2, .int x02), (3, .int t1), (4, .int y4)] → j_X8_takesNumber_141 x01 x02 t1 y4 m_6 = some o → W p l e (zR 2) s m ([.ref (a 0), .int x01, .int x02] : List Value).toArray below meth c H locs 0 0 (MQ below (zQi G cy A (wMo cy a m0 m1 m2 o.2.1 o.2.2 m5 m6 m7 m8 m9 mb ms md mp mf mi mo mw mn mk mt mq mz me) o.1) ([.ref (a 0), .int x01, .int x02] : List Value).toArray s 0 0 A) (F0 m 141 ls [.ref (a 0)]) := by
          intro H locs ls hP hD hS hl hF
          unfold j_X8_takesNumber_141 at hF
          refine lv_iconst (v := 0) hx hb dX8_takesNumber_141 (by decide) ?_
          exact J142 0 _ _ ls hP hD hS (lv_sub hl [0, 1, 2, 3, 4] rfl) hF
        refine zf_eq (tgt := 141) hx hb hF dX8_takesNumber_120 (by decide) (fun hF => ?_) (fun hF => ?_)
        · exact J141 _ _ ls hP hD hS (lv_sub hl [0, 1, 2, 3, 4] rfl) hF
        · refine lv_iload hx hb dX8_takesNumber_123 (lv_at hl 5 rfl) ?_
          refine zf_le (tgt := 141) hx hb hF dX8_takesNumber_125 (by decide) (fun hF => ?_) (fun hF => ?_)
          · exact J141 _ _ ls hP hD hS (lv_sub hl [0, 1, 2, 3, 4] rfl) hF
          · refine lv_iload_n hx hb dX8_takesNumber_128 rfl (lv_at hl 3 rfl) ?_
            have J137 : ∀ (H : Heap) (locs : List Loc) (ls : Array Slot), va_P G vwCl (wMo cy a m0 m1 m2 m_6 m4 m5 m6 m7 m8 m9 mb ms md mp mf mi mo mw mn mk mt mq mz me) H → va_D A (wMo cy a m0 m1 m2 m_6 m4 m5 m6 m7 m8 m9 mb ms md mp mf mi mo mw mn mk mt mq mz me) → va_S A s.heap H locs → lv_has ls 6 [(0, .ref (a 0)), (1, .int x01), (2, .int x02), (3, .int t1), (4, .int y4)] → j_X8_takesNumber_137 x01 x02 t1 y4 m_6 = some o → W p l e (zR 2) s m ([.ref (a 0), .int x01, .int x02] : List Value).toArray below meth c H locs 0 0 (MQ below (zQi G cy A (wMo cy a m0 m1 m2 o.2.1 o.2.2 m5 m6 m7 m8 m9 mb ms md mp mf mi mo mw mn mk mt mq mz me) o.1) ([.ref (a 0), .int x01, .int x02] : List Value).toArray s 0 0 A) (F0 m 137 ls [.ref (a 0)]) := by
              intro H locs ls hP hD hS hl hF
              unfold j_X8_takesNumber_137 at hF
              refine lv_iconst (v := 1) hx hb dX8_takesNumber_137 (by decide) ?_
              refine lv_goto (tgt := 142) hx hb dX8_takesNumber_138 (by decide) ?_
              exact J142 1 _ _ ls hP hD hS (lv_sub hl [0, 1, 2, 3, 4] rfl) hF
            refine zf_eq (tgt := 137) hx hb hF dX8_takesNumber_129 (by decide) (fun hF => ?_) (fun hF => ?_)
            · exact J137 _ _ ls hP hD hS (lv_sub hl [0, 1, 2, 3, 4] rfl) hF
            · refine lv_iload hx hb dX8_takesNumber_132 (lv_at hl 4 rfl) ?_
              refine zf_eq (tgt := 141) hx hb hF dX8_takesNumber_134 (by decide) (fun hF => ?_) (fun hF => ?_)
              · exact J141 _ _ ls hP hD hS (lv_sub hl [0, 1, 2, 3, 4] rfl) hF
              · exact J137 _ _ ls hP hD hS (lv_sub hl [0, 1, 2, 3, 4] rfl) hF
      have L43 : ∀ (n : Nat) (s43 : Int32 × Int32 × Int32) (H : Heap) (locs : List Loc) (ls : Array Slot), va_P G vwCl (wMo cy a m0 m1 m2 s43.2.2 m4 m5 m6 m7 m8 m9 mb ms md mp mf mi mo mw mn mk mt mq mz me) H → va_D A (wMo cy a m0 m1 m2 s43.2.2 m4 m5 m6 m7 m8 m9 mb ms md mp mf mi mo mw mn mk mt mq mz me) → va_S A s.heap H locs → lv_has ls 6 [(0, .ref (a 0)), (1, .int x01), (2, .int x02), (3, .int t1), (4, .int s43.1), (5, .int s43.2.1)] → zloop (b_X8_takesNumber_43 m1 m4 mb x01 x02 t1) n s43 = some o → W p l e (zR 2) s m ([.ref (a 0), .int x01, .int x02] : List Value).toArray below meth c H locs 0 0 (MQ below (zQi G cy A (wMo cy a m0 m1 m2 o.2.1 o.2.2 m5 m6 m7 m8 m9 mb ms md mp mf mi mo mw mn mk mt mq mz me) o.1) ([.ref (a 0), .int x01, .int x02] : List Value).toArray s 0 0 A) (F0 m 43 ls []) := by
        intro n
        induction n with
        | zero => exact fun s43 H locs ls _ _ _ _ hF => (zloop_0 hF).elim
        | succ n ih43 =>
          intro s43 H locs ls hP hD hS hl hF
          have hF : b_X8_takesNumber_43 m1 m4 mb x01 x02 t1 (zloop (b_X8_takesNumber_43 m1 m4 mb x01 x02 t1) n) s43 = some o := hF
          generalize zloop (b_X8_takesNumber_43 m1 m4 mb x01 x02 t1) n = rc43 at ih43 hF
          unfold b_X8_takesNumber_43 at hF
          refine lv_aload_n hx hb dX8_takesNumber_43 rfl (lv_at hl 0 rfl) ?_
          refine va_get (ci := 8) (C := RX8) (T := TX8) (N := 24) (fs := (zMo a m0 m1 m2 s43.2.2 m4 m5 m6 m7 m8 m9)) (v := .int s43.2.2) hx hb hts iX8 hown hK hP _ (wMo_at0 cy a m0 m1 m2 s43.2.2 m4 m5 m6 m7 m8 m9 mb ms md mp mf mi mo mw mn mk mt mq mz me) rfl 7 (by decide) k70 (fun _ h9 => h9) rfl dX8_takesNumber_44 ?_
          refine lv_aload_n hx hb dX8_takesNumber_47 rfl (lv_at hl 0 rfl) ?_
          refine va_get (ci := 8) (C := RX8) (T := TX8) (N := 24) (fs := (zMo a m0 m1 m2 s43.2.2 m4 m5 m6 m7 m8 m9)) (v := .int m1) hx hb hts iX8 hown hK hP _ (wMo_at0 cy a m0 m1 m2 s43.2.2 m4 m5 m6 m7 m8 m9 mb ms md mp mf mi mo mw mn mk mt mq mz me) rfl 2 (by decide) k67 (fun _ h9 => h9) rfl dX8_takesNumber_48 ?_
          refine zi_ge (tgt := 115) hx hb hF dX8_takesNumber_51 (by decide) (fun hF => ?_) (fun hF => ?_)
          · exact J115 s43.1 s43.2.1 s43.2.2 _ _ ls hP hD hS (lv_sub hl [0, 1, 2, 3, 4, 5] rfl) hF
          · refine lv_aload_n hx hb dX8_takesNumber_54 rfl (lv_at hl 0 rfl) ?_
            refine va_get (ci := 8) (C := RX8) (T := TX8) (N := 24) (fs := (zMo a m0 m1 m2 s43.2.2 m4 m5 m6 m7 m8 m9)) (v := .ref (a 1)) hx hb hts iX8 hown hK hP _ (wMo_at0 cy a m0 m1 m2 s43.2.2 m4 m5 m6 m7 m8 m9 mb ms md mp mf mi mo mw mn mk mt mq mz me) rfl 1 (by decide) k7 (fun _ h9 => h9) rfl dX8_takesNumber_55 ?_
            refine lv_aload_n hx hb dX8_takesNumber_58 rfl (lv_at hl 0 rfl) ?_
            refine va_get (ci := 8) (C := RX8) (T := TX8) (N := 24) (fs := (zMo a m0 m1 m2 s43.2.2 m4 m5 m6 m7 m8 m9)) (v := .int s43.2.2) hx hb hts iX8 hown hK hP _ (wMo_at0 cy a m0 m1 m2 s43.2.2 m4 m5 m6 m7 m8 m9 mb ms md mp mf mi mo mw mn mk mt mq mz me) rfl 7 (by decide) k70 (fun _ h9 => h9) rfl dX8_takesNumber_59 ?_
            refine z_bald (n := 200) (f := mb) hx hb hK hP _ 0 (wMo_at1 cy a m0 m1 m2 s43.2.2 m4 m5 m6 m7 m8 m9 mb ms md mp mf mi mo mw mn mk mt mq mz me) rfl hF dX8_takesNumber_62 (fun hF => ?_)
            refine lv_bipush (v := 48) hx hb dX8_takesNumber_63 (by decide) ?_
            refine lv_bipush (v := 57) hx hb dX8_takesNumber_65 (by decide) ?_
            refine z_cSi (As := [.int (mb (zn s43.2.2)), .int 48, .int 57]) (rest := []) (wc := ([] : va_W)) (wcf := fun o' => ([] : va_W)) (wf := fun o' => (wMo cy a m0 m1 m2 s43.2.2 m4 m5 m6 m7 m8 m9 mb ms md mp mf mi mo mw mn mk mt mq mz me)) (rf := fun o' => o') hF (fun o' hz => c_X8_in l G cy st (mb (zn s43.2.2)) 48 57 o' hz) (fun o' => zCut_nil) ⟨hx, hb, hml, hown, hts⟩ (va_cwS 3 hts gX8_takesNumber_X8_in rfl rfl rfl (by decide +kernel) ⟨by decide, by decide⟩) hK hSE hA hP hD hS rfl hl.1 rfl (Nat.le_of_ble_eq_true rfl) dX8_takesNumber_67 ⟨Nat.le_refl _, Nat.le_refl _⟩ (fun o13 hF H locs hP hD hS => ?_)
            refine zf_eq (tgt := 115) hx hb hF dX8_takesNumber_70 (by decide) (fun hF => ?_) (fun hF => ?_)
            · exact J115 s43.1 s43.2.1 s43.2.2 _ _ ls hP hD hS (lv_sub hl [0, 1, 2, 3, 4, 5] rfl) hF
            · refine lv_iload hx hb dX8_takesNumber_73 (lv_at hl 5 rfl) ?_
              refine lv_iconst (v := 4) hx hb dX8_takesNumber_75 (by decide) ?_
              refine zi_ge (tgt := 115) hx hb hF dX8_takesNumber_76 (by decide) (fun hF => ?_) (fun hF => ?_)
              · exact J115 s43.1 s43.2.1 s43.2.2 _ _ ls hP hD hS (lv_sub hl [0, 1, 2, 3, 4, 5] rfl) hF
              · refine lv_bipush (v := 10) hx hb dX8_takesNumber_79 (by decide) ?_
                refine lv_iload hx hb dX8_takesNumber_81 (lv_at hl 4 rfl) ?_
                refine lv_imul hx hb dX8_takesNumber_83 ?_
                refine lv_aload_n hx hb dX8_takesNumber_84 rfl (lv_at hl 0 rfl) ?_
                refine va_get (ci := 8) (C := RX8) (T := TX8) (N := 24) (fs := (zMo a m0 m1 m2 s43.2.2 m4 m5 m6 m7 m8 m9)) (v := .ref (a 1)) hx hb hts iX8 hown hK hP _ (wMo_at0 cy a m0 m1 m2 s43.2.2 m4 m5 m6 m7 m8 m9 mb ms md mp mf mi mo mw mn mk mt mq mz me) rfl 1 (by decide) k7 (fun _ h9 => h9) rfl dX8_takesNumber_85 ?_
                refine lv_aload_n hx hb dX8_takesNumber_88 rfl (lv_at hl 0 rfl) ?_
                refine va_get (ci := 8) (C := RX8) (T := TX8) (N := 24) (fs := (zMo a m0 m1 m2 s43.2.2 m4 m5 m6 m7 m8 m9)) (v := .int s43.2.2) hx hb hts iX8 hown hK hP _ (wMo_at0 cy a m0 m1 m2 s43.2.2 m4 m5 m6 m7 m8 m9 mb ms md mp mf mi mo mw mn mk mt mq mz me) rfl 7 (by decide) k70 (fun _ h9 => h9) rfl dX8_takesNumber_89 ?_
                refine z_bald (n := 200) (f := mb) hx hb hK hP _ 0 (wMo_at1 cy a m0 m1 m2 s43.2.2 m4 m5 m6 m7 m8 m9 mb ms md mp mf mi mo mw mn mk mt mq mz me) rfl hF dX8_takesNumber_92 (fun hF => ?_)
                refine lv_iadd hx hb dX8_takesNumber_93 ?_
                refine lv_bipush (v := 48) hx hb dX8_takesNumber_94 (by decide) ?_
                refine lv_isub hx hb dX8_takesNumber_96 ?_
                refine z_leti hF (fun x14 hF => ?_)
                refine lv_istore (lv' := [(4, .int x14), (0, .ref (a 0)), (1, .int x01), (2, .int x02), (3, .int t1), (5, .int s43.2.1)]) hx hb dX8_takesNumber_97 hl (by decide) rfl (fun ls hl => ?_)
                refine z_name hF (fun x15 ex15 hF => ?_)
                refine lv_iinc (v := x15) (lv' := [(5, .int x15), (4, .int x14), (0, .ref (a 0)), (1, .int x01), (2, .int x02), (3, .int t1)]) hx hb dX8_takesNumber_99 hl (k := 5) rfl (by rw [ex15]; rfl) (by decide) rfl (fun ls hl => ?_)
                refine lv_aload_n hx hb dX8_takesNumber_102 rfl (lv_at hl 2 rfl) ?_
                refine lv_dup hx hb dX8_takesNumber_103 rfl ?_
                refine va_get (ci := 8) (C := RX8) (T := TX8) (N := 24) (fs := (zMo a m0 m1 m2 s43.2.2 m4 m5 m6 m7 m8 m9)) (v := .int s43.2.2) hx hb hts iX8 hown hK hP _ (wMo_at0 cy a m0 m1 m2 s43.2.2 m4 m5 m6 m7 m8 m9 mb ms md mp mf mi mo mw mn mk mt mq mz me) rfl 7 (by decide) k70 (fun _ h9 => h9) rfl dX8_takesNumber_104 ?_
                refine lv_iconst (v := 1) hx hb dX8_takesNumber_107 (by decide) ?_
                refine lv_iadd hx hb dX8_takesNumber_108 ?_
                refine z_puti (ci := 8) (C := RX8) (T := TX8) (N := 24) (fs := (zMo a m0 m1 m2 s43.2.2 m4 m5 m6 m7 m8 m9)) (x := (s43.2.2 + 1)) (wf := (fun y => (wMo cy a m0 m1 m2 y m4 m5 m6 m7 m8 m9 mb ms md mp mf mi mo mw mn mk mt mq mz me))) hx hb hts iX8 tyX8 tyX8_ok nmX8 hown hK hP hD hS _ 7 (wMo_foc0_7 cy a m0 m1 m2 s43.2.2 m4 m5 m6 m7 m8 m9 mb ms md mp mf mi mo mw mn mk mt mq mz me (s43.2.2 + 1)) rfl (by decide) k70 (fun _ h9 => h9) rfl (by decide +kernel) (Nat.le_of_ble_eq_true rfl) hF dX8_takesNumber_109 (fun m_16 hF H locs hP hD hS => ?_)
                refine lv_goto (tgt := 43) hx hb dX8_takesNumber_112 (by decide) ?_
                exact ih43 (x14, x15, m_16) _ _ ls hP hD hS (lv_sub hl [2, 3, 4, 5, 1, 0] rfl) hF
      exact L43 1000 (0, 0, m_3) _ _ ls hP hD hS (lv_sub hl [2, 3, 4, 5, 1, 0] rfl) hF
    refine zf_eq (tgt := 32) hx hb hF dX8_takesNumber_25 (by decide) (fun hF => ?_) (fun hF => ?_)
    · refine lv_iconst (v := 0) hx hb dX8_takesNumber_32 (by decide) ?_
      exact J33 0 _ _ ls hP hD hS (lv_sub hl [1, 2, 3, 0] rfl) hF
    · refine lv_iconst (v := 1) hx hb dX8_takesNumber_28 (by decide) ?_
      refine lv_goto (tgt := 33) hx hb dX8_takesNumber_29 (by decide) ?_
      exact J33 1 _ _ ls hP hD hS (lv_sub hl [1, 2, 3, 0] rfl) hF
  have J17 : ∀ (H : Heap) (locs : List Loc) (ls : Array Slot), va_P G vwCl (wMo cy a m0 m1 m2 m3 m4 m5 m6 m7 m8 m9 mb ms md mp mf mi mo mw mn mk mt mq mz me) H → va_D A (wMo cy a m0 m1 m2 m3 m4 m5 m6 m7 m8 m9 mb ms md mp mf mi mo mw mn mk mt mq mz me) → va_S A s.heap H locs → lv_has ls 6 [(0, .ref (a 0)), (1, .int x01), (2, .int x02)] → j_X8_takesNumber_17 m1 m3 m4 mb x01 x02 = some o → W p l e (zR 2) s m ([.ref (a 0), .int x01, .int x02] : List Value).toArray below meth c H locs 0 0 (MQ below (zQi G cy A (wMo cy a m0 m1 m2 o.2.1 o.2.2 m5 m6 m7 m8 m9 mb ms md mp mf mi mo mw mn mk mt mq mz me) o.1) ([.ref (a 0), .int x01, .int x02] : List Value).toArray s 0 0 A) (F0 m 17 ls []) := by
    intro H locs ls hP hD hS hl hF
    unfold j_X8_takesNumber_17 at hF
    refine lv_iconst (v := 0) hx hb dX8_takesNumber_17 (by decide) ?_
    exact J18 0 _ _ ls hP hD hS (lv_sub hl [0, 1, 2] rfl) hF
  refine zf_ge (tgt := 17) hx hb hF dX8_takesNumber_1 (by decide) (fun hF => ?_) (fun hF => ?_)
  · exact J17 _ _ ls hP hD hS (lv_sub hl [0, 1, 2] rfl) hF
  · refine lv_aload_n hx hb dX8_takesNumber_4 rfl (lv_at hl 0 rfl) ?_
    refine lv_bipush (v := 45) hx hb dX8_takesNumber_5 (by decide) ?_
    refine z_cVi (b := a 0) (As := [.int 45]) (rest := []) (wc := (wMo cy a m0 m1 m2 m3 m4 m5 m6 m7 m8 m9 mb ms md mp mf mi mo mw mn mk mt mq mz me)) (wcf := fun o' => (wMo cy a m0 m1 m2 m3 m4 m5 m6 m7 m8 m9 mb ms md mp mf mi mo mw mn mk mt mq mz me)) (wf := fun o' => (wMo cy a m0 m1 m2 m3 m4 m5 m6 m7 m8 m9 mb ms md mp mf mi mo mw mn mk mt mq mz me)) (rf := fun o' => o') hF (fun o' hz => c_X8_isHere l G cy st a m0 m1 m2 m3 m4 m5 m6 m7 m8 m9 mb ms md mp mf mi mo mw mn mk mt mq mz me 45 o' hz) (fun o' => zCut_all) ⟨hx, hb, hml, hown, hts⟩ (cwV 1 hts gX8_takesNumber_X8_isHere rfl rfl rfl (by decide +kernel) ⟨by decide, by decide⟩) (ci := 8) (q0 := 0) rfl (wMo_at0 cy a m0 m1 m2 m3 m4 m5 m6 m7 m8 m9 mb ms md mp mf mi mo mw mn mk mt mq mz me) hK hSE hA hP hD hS rfl hl.1 rfl (Nat.le_of_ble_eq_true rfl) dX8_takesNumber_7 ⟨Nat.le_refl _, Nat.le_refl _⟩ (fun o17 hF H locs hP hD hS => ?_)
    refine zf_eq (tgt := 17) hx hb hF dX8_takesNumber_10 (by decide) (fun hF => ?_) (fun hF => ?_)
    · exact J17 _ _ ls hP hD hS (lv_sub hl [0, 1, 2] rfl) hF
    · refine lv_iconst (v := 1) hx hb dX8_takesNumber_13 (by decide) ?_
      refine lv_goto (tgt := 18) hx hb dX8_takesNumber_14 (by decide) ?_
      exact J18 1 _ _ ls hP hD hS (lv_sub hl [0, 1, 2] rfl) hF
def j_X8_lowOf_14 : Option (Int32) :=
some 1
def f_X8_lowOf (x01 : Int32) : Option (Int32) :=
if x01 = 0 then (
j_X8_lowOf_14) else (
if x01 = (2 : Int32) then (
j_X8_lowOf_14) else (
if x01 = (3 : Int32) then (
j_X8_lowOf_14) else (
if x01 = (1 : Int32) then (
some 800) else (
if x01 = (5 : Int32) then (
some (-50)) else (
some 0)))))
set_option maxHeartbeats 4000000 in
set_option maxRecDepth 100000 in
theorem c_X8_lowOf (l : Launch) (G : va_G) (cy : Nat → ClassId) (st : Nat → Nat) (x01 : Int32) (o : Int32) (hF : f_X8_lowOf x01 = some o) : zMi l yX8_lowOf wsX8_lowOf (zR 1) G cy st [.int x01] ([] : va_W) ([] : va_W) o := by
  refine zM_of (cc := cX8_lowOf) (maxL := 1) (ret := (some .int)) (Qc := fun A => zQi G cy A ([] : va_W) o) (by decide) rfl (Nat.le_of_ble_eq_true rfl) ?_
  intro p e s m below meth c A ls hx hb hml hr hlocks hown hts hK hSE hA hP hD hS hl
  have hown : s.vm.findClass RX8 = some m.cls := hown
  have hl : lv_has ls 1 [(0, .int x01)] := hl
  unfold f_X8_lowOf at hF
  refine lv_iload_n hx hb dX8_lowOf_0 rfl (lv_at hl 0 rfl) ?_
  have J14 : ∀ (H : Heap) (locs : List Loc) (ls : Array Slot), va_P G vwCl ([] : va_W) H → va_D A ([] : va_W) → va_S A s.heap H locs → lv_has ls 1 [] → j_X8_lowOf_14 = some o → W p l e (zR 1) s m ([.int x01] : List Value).toArray below meth c H locs 0 0 (MQ below (zQi G cy A ([] : va_W) o) ([.int x01] : List Value).toArray s 0 0 A) (F0 m 14 ls []) := by
    intro H locs ls hP hD hS hl hF
    unfold j_X8_lowOf_14 at hF
    refine lv_iconst (v := 1) hx hb dX8_lowOf_14 (by decide) ?_
    refine lv_goto (tgt := 40) hx hb dX8_lowOf_15 (by decide) ?_
    refine z_iret (o := o) (o1 := 1) (v := 1) (wf := (fun o => ([] : va_W))) (rf := fun o => o) hx hb hr hlocks hK ?_ ?_ hS ?_ rfl dX8_lowOf_40
    · exact hP
    · exact hD
    · exact hF
  refine zf_eq (tgt := 14) hx hb hF dX8_lowOf_1 (by decide) (fun hF => ?_) (fun hF => ?_)
  · exact J14 _ _ ls hP hD hS (lv_sub hl [] rfl) hF
  · refine lv_iload_n hx hb dX8_lowOf_4 rfl (lv_at hl 0 rfl) ?_
    refine lv_iconst (v := 2) hx hb dX8_lowOf_5 (by decide) ?_
    refine zi_eq (tgt := 14) hx hb hF dX8_lowOf_6 (by decide) (fun hF => ?_) (fun hF => ?_)
    · exact J14 _ _ ls hP hD hS (lv_sub hl [] rfl) hF
    · refine lv_iload_n hx hb dX8_lowOf_9 rfl (lv_at hl 0 rfl) ?_
      refine lv_iconst (v := 3) hx hb dX8_lowOf_10 (by decide) ?_
      refine zi_ne (tgt := 18) hx hb hF dX8_lowOf_11 (by decide) (fun hF => ?_) (fun hF => ?_)
      · refine lv_iload_n hx hb dX8_lowOf_18 rfl (lv_at hl 0 rfl) ?_
        refine lv_iconst (v := 1) hx hb dX8_lowOf_19 (by decide) ?_
        refine zi_ne (tgt := 29) hx hb hF dX8_lowOf_20 (by decide) (fun hF => ?_) (fun hF => ?_)
        · refine lv_iload_n hx hb dX8_lowOf_29 rfl (lv_at hl 0 rfl) ?_
          refine lv_iconst (v := 5) hx hb dX8_lowOf_30 (by decide) ?_
          refine zi_ne (tgt := 39) hx hb hF dX8_lowOf_31 (by decide) (fun hF => ?_) (fun hF => ?_)
          · refine lv_iconst (v := 0) hx hb dX8_lowOf_39 (by decide) ?_
            refine z_iret (o := o) (o1 := 0) (v := 0) (wf := (fun o => ([] : va_W))) (rf := fun o => o) hx hb hr hlocks hK ?_ ?_ hS ?_ rfl dX8_lowOf_40
            · exact hP
            · exact hD
            · exact hF
          · refine lv_bipush (v := (-50)) hx hb dX8_lowOf_34 (by decide) ?_
            refine lv_goto (tgt := 40) hx hb dX8_lowOf_36 (by decide) ?_
            refine z_iret (o := o) (o1 := (-50)) (v := (-50)) (wf := (fun o => ([] : va_W))) (rf := fun o => o) hx hb hr hlocks hK ?_ ?_ hS ?_ rfl dX8_lowOf_40
            · exact hP
            · exact hD
            · exact hF
        · refine lv_sipush (v := 800) hx hb dX8_lowOf_23 (by decide) ?_
          refine lv_goto (tgt := 40) hx hb dX8_lowOf_26 (by decide) ?_
          refine z_iret (o := o) (o1 := 800) (v := 800) (wf := (fun o => ([] : va_W))) (rf := fun o => o) hx hb hr hlocks hK ?_ ?_ hS ?_ rfl dX8_lowOf_40
          · exact hP
          · exact hD
          · exact hF
      · exact J14 _ _ ls hP hD hS (lv_sub hl [] rfl) hF
def f_X8_highOf (x01 : Int32) : Option (Int32) :=
if x01 = 0 then (
some 50) else (
if x01 = 1 then (
some 1200) else (
if x01 = 2 then (
some 99) else (
if x01 = 3 then (
some 9) else (
if x01 = 4 then (
some 2) else (
if x01 = 5 then (
some 50) else (
some 9))))))
set_option maxHeartbeats 4000000 in
set_option maxRecDepth 100000 in
theorem c_X8_highOf (l : Launch) (G : va_G) (cy : Nat → ClassId) (st : Nat → Nat) (x01 : Int32) (o : Int32) (hF : f_X8_highOf x01 = some o) : zMi l yX8_highOf wsX8_highOf (zR 1) G cy st [.int x01] ([] : va_W) ([] : va_W) o := by
  refine zM_of (cc := cX8_highOf) (maxL := 1) (ret := (some .int)) (Qc := fun A => zQi G cy A ([] : va_W) o) (by decide) rfl (Nat.le_of_ble_eq_true rfl) ?_
  intro p e s m below meth c A ls hx hb hml hr hlocks hown hts hK hSE hA hP hD hS hl
  have hown : s.vm.findClass RX8 = some m.cls := hown
  have hl : lv_has ls 1 [(0, .int x01)] := hl
  unfold f_X8_highOf at hF
  refine lv_iload_n hx hb dX8_highOf_0 rfl (lv_at hl 0 rfl) ?_
  by_cases h1 : x01 = 0
  · have hF := (if_pos h1).symm.trans hF
    refine lv_tableIn (off := 39) (tgt := 40) hx hb dX8_highOf_1 (by rw [h1]; decide) (by rw [h1]; decide) (by rw [h1]; decide) (by decide) ?_
    refine lv_bipush (v := 50) hx hb dX8_highOf_40 (by decide) ?_
    refine z_iret (o := o) (o1 := 50) (v := 50) (wf := (fun o => ([] : va_W))) (rf := fun o => o) hx hb hr hlocks hK ?_ ?_ hS ?_ rfl dX8_highOf_42
    · exact hP
    · exact hD
    · exact hF
  have hF := (if_neg h1).symm.trans hF
  by_cases h2 : x01 = 1
  · have hF := (if_pos h2).symm.trans hF
    refine lv_tableIn (off := 42) (tgt := 43) hx hb dX8_highOf_1 (by rw [h2]; decide) (by rw [h2]; decide) (by rw [h2]; decide) (by decide) ?_
    refine lv_sipush (v := 1200) hx hb dX8_highOf_43 (by decide) ?_
    refine z_iret (o := o) (o1 := 1200) (v := 1200) (wf := (fun o => ([] : va_W))) (rf := fun o => o) hx hb hr hlocks hK ?_ ?_ hS ?_ rfl dX8_highOf_46
    · exact hP
    · exact hD
    · exact hF
  have hF := (if_neg h2).symm.trans hF
  by_cases h3 : x01 = 2
  · have hF := (if_pos h3).symm.trans hF
    refine lv_tableIn (off := 46) (tgt := 47) hx hb dX8_highOf_1 (by rw [h3]; decide) (by rw [h3]; decide) (by rw [h3]; decide) (by decide) ?_
    refine lv_bipush (v := 99) hx hb dX8_highOf_47 (by decide) ?_
    refine z_iret (o := o) (o1 := 99) (v := 99) (wf := (fun o => ([] : va_W))) (rf := fun o => o) hx hb hr hlocks hK ?_ ?_ hS ?_ rfl dX8_highOf_49
    · exact hP
    · exact hD
    · exact hF
  have hF := (if_neg h3).symm.trans hF
  by_cases h4 : x01 = 3
  · have hF := (if_pos h4).symm.trans hF
    refine lv_tableIn (off := 51) (tgt := 52) hx hb dX8_highOf_1 (by rw [h4]; decide) (by rw [h4]; decide) (by rw [h4]; decide) (by decide) ?_
    refine lv_bipush (v := 9) hx hb dX8_highOf_52 (by decide) ?_
    refine z_iret (o := o) (o1 := 9) (v := 9) (wf := (fun o => ([] : va_W))) (rf := fun o => o) hx hb hr hlocks hK ?_ ?_ hS ?_ rfl dX8_highOf_54
    · exact hP
    · exact hD
    · exact hF
  have hF := (if_neg h4).symm.trans hF
  by_cases h5 : x01 = 4
  · have hF := (if_pos h5).symm.trans hF
    refine lv_tableIn (off := 49) (tgt := 50) hx hb dX8_highOf_1 (by rw [h5]; decide) (by rw [h5]; decide) (by rw [h5]; decide) (by decide) ?_
    refine lv_iconst (v := 2) hx hb dX8_highOf_50 (by decide) ?_
    refine z_iret (o := o) (o1 := 2) (v := 2) (wf := (fun o => ([] : va_W))) (rf := fun o => o) hx hb hr hlocks hK ?_ ?_ hS ?_ rfl dX8_highOf_51
    · exact hP
    · exact hD
    · exact hF
  have hF := (if_neg h5).symm.trans hF
  by_cases h6 : x01 = 5
  · have hF := (if_pos h6).symm.trans hF
    refine lv_tableIn (off := 39) (tgt := 40) hx hb dX8_highOf_1 (by rw [h6]; decide) (by rw [h6]; decide) (by rw [h6]; decide) (by decide) ?_
    refine lv_bipush (v := 50) hx hb dX8_highOf_40 (by decide) ?_
    refine z_iret (o := o) (o1 := 50) (v := 50) (wf := (fun o => ([] : va_W))) (rf := fun o => o) hx hb hr hlocks hK ?_ ?_ hS ?_ rfl dX8_highOf_42
    · exact hP
    · exact hD
    · exact hF
  have hF := (if_neg h6).symm.trans hF
  refine lv_tableOut (x := x01) (tgt := 52) hx hb dX8_highOf_1 (by have q0 := lv_neT (a := 0) h1 (by decide); have q1 := lv_neT (a := 1) h2 (by decide); have q2 := lv_neT (a := 2) h3 (by decide); have q3 := lv_neT (a := 3) h4 (by decide); have q4 := lv_neT (a := 4) h5 (by decide); have q5 := lv_neT (a := 5) h6 (by decide); omega) (by decide) ?_
  refine lv_bipush (v := 9) hx hb dX8_highOf_52 (by decide) ?_
  refine z_iret (o := o) (o1 := 9) (v := 9) (wf := (fun o => ([] : va_W))) (rf := fun o => o) hx hb hr hlocks hK ?_ ?_ hS ?_ rfl dX8_highOf_54
  · exact hP
  · exact hD
  · exact hF
def j_X8_takesStage_115 (md_6 : Nat → Int32) (o7 : Int32 × Int32) (t8 : Int32) : Option (Int32 × Int32 × (Nat → Int32)) :=
zg (zin 0 114) (
zlet (upd md_6 (zn 0) ((md_6 (zn 0)) + t8)) fun md_9 =>
some (o7.1, o7.2, md_9))
def j_X8_takesStage_90 (m1 : Int32) (mb : Nat → Int32) (m_4 : Int32) (m_5 : Int32) (md_6 : Nat → Int32) : Option (Int32 × Int32 × (Nat → Int32)) :=
zbd (f_X8_takes m1 m_4 m_5 mb 59) fun o7 =>
zg (zin 0 114) (
if o7.2 = 0 then (
j_X8_takesStage_115 md_6 o7 0) else (
j_X8_takesStage_115 md_6 o7 1))
def j_X8_takesStage_64 (m1 : Int32) (mb : Nat → Int32) (x3 : Int32) (rc41 : (Int32 × Int32 × Int32 × (Nat → Int32)) → Option (Int32 × Int32 × (Nat → Int32))) (s41 : Int32 × Int32 × Int32 × (Nat → Int32)) (m_10 : Int32) (m_11 : Int32) : Option (Int32 × Int32 × (Nat → Int32)) :=
zbd (f_X8_lowOf s41.1) fun o12 =>
zbd (f_X8_highOf s41.1) fun o13 =>
zbd (f_X8_takesNumber m1 m_10 m_11 mb o12 o13) fun o14 =>
zg (zin (x3 + s41.1) 114) (
zlet (upd s41.2.2.2 (zn (x3 + s41.1)) o14.1) fun md_15 =>
zlet (s41.1 + 1) fun x16 =>
rc41 (x16, o14.2.1, o14.2.2, md_15))
def b_X8_takesStage_41 (m1 : Int32) (mb : Nat → Int32) (x3 : Int32) (rc41 : (Int32 × Int32 × Int32 × (Nat → Int32)) → Option (Int32 × Int32 × (Nat → Int32))) (s41 : Int32 × Int32 × Int32 × (Nat → Int32)) : Option (Int32 × Int32 × (Nat → Int32)) :=
if (7 : Int32) ≤ s41.1 then (
j_X8_takesStage_90 m1 mb s41.2.1 s41.2.2.1 s41.2.2.2) else (
if s41.2.2.1 = 0 then (
j_X8_takesStage_90 m1 mb s41.2.1 s41.2.2.1 s41.2.2.2) else (
if s41.1 ≤ 0 then (
j_X8_takesStage_64 m1 mb x3 rc41 s41 s41.2.1 s41.2.2.1) else (
zbd (f_X8_takes m1 s41.2.1 s41.2.2.1 mb 44) fun o17 =>
j_X8_takesStage_64 m1 mb x3 rc41 s41 o17.1 o17.2)))
def j_X8_takesStage_23 (m1 : Int32) (m3 : Int32) (mb : Nat → Int32) (md : Nat → Int32) (t1 : Int32) : Option (Int32 × Int32 × (Nat → Int32)) :=
zg (zbo t1) (
zlet t1 fun m_2 =>
zg (zin 0 114) (
zlet (6 + (12 * (md (zn 0)))) fun x3 =>
zloop (b_X8_takesStage_41 m1 mb x3) 1000 (0, m3, m_2, md)))
def j_X8_takesStage_22 (m1 : Int32) (m3 : Int32) (mb : Nat → Int32) (md : Nat → Int32) : Option (Int32 × Int32 × (Nat → Int32)) :=
j_X8_takesStage_23 m1 m3 mb md 0
def f_X8_takesStage (m1 : Int32) (m3 : Int32) (m4 : Int32) (mb : Nat → Int32) (md : Nat → Int32) : Option (Int32 × Int32 × (Nat → Int32)) :=
if m4 = 0 then (
j_X8_takesStage_22 m1 m3 mb md) else (
zg (zin 0 114) (
if (4 : Int32) ≤ (md (zn 0)) then (
j_X8_takesStage_22 m1 m3 mb md) else (
j_X8_takesStage_23 m1 m3 mb md 1)))
set_option maxHeartbeats 4000000 in
set_option maxRecDepth 100000 in
theorem c_X8_takesStage (l : Launch) (G : va_G) (cy : Nat → ClassId) (st : Nat → Nat) (a : Nat → Nat) (m0 : Int32) (m1 : Int32) (m2 : Int32) (m3 : Int32) (m4 : Int32) (m5 : Int32) (m6 : Int32) (m7 : Int32) (m8 : Int32) (m9 : Int32) (mb : Nat → Int32) (ms : Nat → Int32) (md : Nat → Int32) (mp : Nat → Int32) (mf : Nat → Int32) (mi : Nat → Int32) (mo : Nat → Int32) (mw : Nat → Int32) (mn : Nat → Int32) (mk : Nat → Int32) (mt : Nat → Int64) (mq : Nat → Int32) (mz : Nat → Int32) (me : Nat → Int32) (o : Int32 × Int32 × (Nat → Int32)) (hF : f_X8_takesStage m1 m3 m4 mb md = some o) : zMv l yX8_takesStage wsX8_takesStage (zR 3) G cy st [.ref (a 0)] (wMo cy a m0 m1 m2 m3 m4 m5 m6 m7 m8 m9 mb ms md mp mf mi mo mw mn mk mt mq mz me) (wMo cy a m0 m1 m2 o.1 o.2.1 m5 m6 m7 m8 m9 mb ms o.2.2 mp mf mi mo mw mn mk mt mq mz me) := by
  refine zM_of (cc := cX8_takesStage) (maxL := 3) (ret := none) (Qc := fun A => zQv G cy A (wMo cy a m0 m1 m2 o.1 o.2.1 m5 m6 m7 m8 m9 mb ms o.2.2 mp mf mi mo mw mn mk mt mq mz me)) (by decide) rfl (Nat.le_of_ble_eq_true rfl) ?_
  intro p e s m below meth c A ls hx hb hml hr hlocks hown hts hK hSE hA hP hD hS hl
  have hown : s.vm.findClass RX8 = some m.cls := hown
  have hl : lv_has ls 3 [(0, .ref (a 0))] := hl
  have k77 := hts (.fieldLink RX8 77 "TapCascadeModel" "isSo" "Z") (by decide +kernel)
  have iX8 : ∀ w ∈ wsX80, w ∈ wsX8_takesStage := fun w h => List.mem_cons_of_mem _ (List.mem_append_right _ h)
  have k17 := hts (.fieldLink RX8 17 "TapCascadeModel" "draft" "[I") (by decide +kernel)
  unfold f_X8_takesStage at hF
  refine lv_aload_n hx hb dX8_takesStage_0 rfl (lv_at hl 0 rfl) ?_
  refine lv_aload_n hx hb dX8_takesStage_1 rfl (lv_at hl 0 rfl) ?_
  refine va_get (ci := 8) (C := RX8) (T := TX8) (N := 24) (fs := (zMo a m0 m1 m2 m3 m4 m5 m6 m7 m8 m9)) (v := .int m4) hx hb hts iX8 hown hK hP _ (wMo_at0 cy a m0 m1 m2 m3 m4 m5 m6 m7 m8 m9 mb ms md mp mf mi mo mw mn mk mt mq mz me) rfl 8 (by decide) k77 (fun _ h9 => h9) rfl dX8_takesStage_2 ?_
  have J23 : ∀ (t1 : Int32) (H : Heap) (locs : List Loc) (ls : Array Slot), va_P G vwCl (wMo cy a m0 m1 m2 m3 m4 m5 m6 m7 m8 m9 mb ms md mp mf mi mo mw mn mk mt mq mz me) H → va_D A (wMo cy a m0 m1 m2 m3 m4 m5 m6 m7 m8 m9 mb ms md mp mf mi mo mw mn mk mt mq mz me) → va_S A s.heap H locs → lv_has ls 3 [(0, .ref (a 0))] → j_X8_takesStage_23 m1 m3 mb md t1 = some o → W p l e (zR 3) s m ([.ref (a 0)] : List Value).toArray below meth c H locs 0 0 (MQ below (zQv G cy A (wMo cy a m0 m1 m2 o.1 o.2.1 m5 m6 m7 m8 m9 mb ms o.2.2 mp mf mi mo mw mn mk mt mq mz me)) ([.ref (a 0)] : List Value).toArray s 0 0 A) (F0 m 23 ls [.int t1, .ref (a 0)]) := by
    intro t1 H locs ls hP hD hS hl hF
    unfold j_X8_takesStage_23 at hF
    refine z_putz (ci := 8) (C := RX8) (T := TX8) (N := 24) (fs := (zMo a m0 m1 m2 m3 m4 m5 m6 m7 m8 m9)) (x := t1) (wf := (fun y => (wMo cy a m0 m1 m2 m3 y m5 m6 m7 m8 m9 mb ms md mp mf mi mo mw mn mk mt mq mz me))) hx hb hts iX8 tyX8 tyX8_ok nmX8 hown hK hP hD hS _ 8 (wMo_foc0_8 cy a m0 m1 m2 m3 m4 m5 m6 m7 m8 m9 mb ms md mp mf mi mo mw mn mk mt mq mz me t1) rfl (by decide) k77 (fun _ h9 => h9) rfl (by decide +kernel) (Nat.le_of_ble_eq_true rfl) hF dX8_takesStage_23 (fun m_2 hF H locs hP hD hS => ?_)
    refine lv_bipush (v := 6) hx hb dX8_takesStage_26 (by decide) ?_
    refine lv_bipush (v := 12) hx hb dX8_takesStage_28 (by decide) ?_
    refine lv_aload_n hx hb dX8_takesStage_30 rfl (lv_at hl 0 rfl) ?_
    refine va_get (ci := 8) (C := RX8) (T := TX8) (N := 24) (fs := (zMo a m0 m1 m2 m3 m_2 m5 m6 m7 m8 m9)) (v := .ref (a 3)) hx hb hts iX8 hown hK hP _ (wMo_at0 cy a m0 m1 m2 m3 m_2 m5 m6 m7 m8 m9 mb ms md mp mf mi mo mw mn mk mt mq mz me) rfl 4 (by decide) k17 (fun _ h9 => h9) rfl dX8_takesStage_31 ?_
    refine lv_iconst (v := 0) hx hb dX8_takesStage_34 (by decide) ?_
    refine z_iald (n := 114) (f := md) hx hb hK hP _ 1 (wMo_at3 cy a m0 m1 m2 m3 m_2 m5 m6 m7 m8 m9 mb ms md mp mf mi mo mw mn mk mt mq mz me) rfl hF dX8_takesStage_35 (fun hF => ?_)
    refine lv_imul hx hb dX8_takesStage_36 ?_
    refine lv_iadd hx hb dX8_takesStage_37 ?_
    refine z_leti hF (fun x3 hF => ?_)
    refine lv_istore_n (lv' := [(1, .int x3), (0, .ref (a 0))]) hx hb dX8_takesStage_38 rfl hl (by decide) rfl (fun ls hl => ?_)
    refine lv_iconst (v := 0) hx hb dX8_takesStage_39 (by decide) ?_
    refine lv_istore_n (lv' := [(2, .int 0), (1, .int x3), (0, .ref (a 0))]) hx hb dX8_takesStage_40 rfl hl (by decide) rfl (fun ls hl => ?_)
    have J90 : ∀ (m_4 : Int32) (m_5 : Int32) (md_6 : Nat → Int32) (H : Heap) (locs : List Loc) (ls : Array Slot), va_P G vwCl (wMo cy a m0 m1 m2 m_4 m_5 m5 m6 m7 m8 m9 mb ms md_6 mp mf mi mo mw mn mk mt mq mz me) H → va_D A (wMo cy a m0 m1 m2 m_4 m_5 m5 m6 m7 m8 m9 mb ms md_6 mp mf mi mo mw mn mk mt mq mz me) → va_S A s.heap H locs → lv_has ls 3 [(0, .ref (a 0))] → j_X8_takesStage_90 m1 mb m_4 m_5 md_6 = some o → W p l e (zR 3) s m ([.ref (a 0)] : List Value).toArray below meth c H locs 0 0 (MQ below (zQv G cy A (wMo cy a m0 m1 m2 o.1 o.2.1 m5 m6 m7 m8 m9 mb ms o.2.2 mp mf mi mo mw mn mk mt mq mz me)) ([.ref (a 0)] : List Value).toArray s 0 0 A) (F0 m 90 ls []) := by
      intro m_4 m_5 md_6 H locs ls hP hD hS hl hF
      unfold j_X8_takesStage_90 at hF
      refine lv_aload_n hx hb dX8_takesStage_90 rfl (lv_at hl 0 rfl) ?_
      refine lv_bipush (v := 59) hx hb dX8_takesStage_91 (by decide) ?_
      refine z_cVv (b := a 0) (As := [.int 59]) (rest := []) (wc := (wMo cy a m0 m1 m2 m_4 m_5 m5 m6 m7 m8 m9 mb ms md_6 mp mf mi mo mw mn mk mt mq mz me)) (wcf := fun o' => (wMo cy a m0 m1 m2 o'.1 o'.2 m5 m6 m7 m8 m9 mb ms md_6 mp mf mi mo mw mn mk mt mq mz me)) (wf := fun o' => (wMo cy a m0 m1 m2 o'.1 o'.2 m5 m6 m7 m8 m9 mb ms md_6 mp mf mi mo mw mn mk mt mq mz me)) hF (fun o' hz => c_X8_takes l G cy st a m0 m1 m2 m_4 m_5 m5 m6 m7 m8 m9 mb ms md_6 mp mf mi mo mw mn mk mt mq mz me 59 o' hz) (fun o' => zCut_all) ⟨hx, hb, hml, hown, hts⟩ (cwV 1 hts gX8_takesStage_X8_takes rfl rfl rfl (by decide +kernel) ⟨by decide, by decide⟩) (ci := 8) (q0 := 0) rfl (wMo_at0 cy a m0 m1 m2 m_4 m_5 m5 m6 m7 m8 m9 mb ms md_6 mp mf mi mo mw mn mk mt mq mz me) hK hSE hA hP hD hS rfl hl.1 rfl (Nat.le_of_ble_eq_true rfl) dX8_takesStage_93 ⟨Nat.le_refl _, Nat.le_refl _⟩ (fun o7 hF H locs hP hD hS => ?_)
      refine lv_aload_n hx hb dX8_takesStage_96 rfl (lv_at hl 0 rfl) ?_
      refine va_get (ci := 8) (C := RX8) (T := TX8) (N := 24) (fs := (zMo a m0 m1 m2 o7.1 o7.2 m5 m6 m7 m8 m9)) (v := .ref (a 3)) hx hb hts iX8 hown hK hP _ (wMo_at0 cy a m0 m1 m2 o7.1 o7.2 m5 m6 m7 m8 m9 mb ms md_6 mp mf mi mo mw mn mk mt mq mz me) rfl 4 (by decide) k17 (fun _ h9 => h9) rfl dX8_takesStage_97 ?_
      refine lv_iconst (v := 0) hx hb dX8_takesStage_100 (by decide) ?_
      refine lv_dup2_11 hx hb dX8_takesStage_101 rfl rfl ?_
      refine z_iald (n := 114) (f := md_6) hx hb hK hP _ 1 (wMo_at3 cy a m0 m1 m2 o7.1 o7.2 m5 m6 m7 m8 m9 mb ms md_6 mp mf mi mo mw mn mk mt mq mz me) rfl hF dX8_takesStage_102 (fun hF => ?_)
      refine lv_aload_n hx hb dX8_takesStage_103 rfl (lv_at hl 0 rfl) ?_
      refine va_get (ci := 8) (C := RX8) (T := TX8) (N := 24) (fs := (zMo a m0 m1 m2 o7.1 o7.2 m5 m6 m7 m8 m9)) (v := .int o7.2) hx hb hts iX8 hown hK hP _ (wMo_at0 cy a m0 m1 m2 o7.1 o7.2 m5 m6 m7 m8 m9 mb ms md_6 mp mf mi mo mw mn mk mt mq mz me) rfl 8 (by decide) k77 (fun _ h9 => h9) rfl dX8_takesStage_104 ?_
      have J115 : ∀ (t8 : Int32) (H : Heap) (locs : List Loc) (ls : Array Slot), va_P G vwCl (wMo cy a m0 m1 m2 o7.1 o7.2 m5 m6 m7 m8 m9 mb ms md_6 mp mf mi mo mw mn mk mt mq mz me) H → va_D A (wMo cy a m0 m1 m2 o7.1 o7.2 m5 m6 m7 m8 m9 mb ms md_6 mp mf mi mo mw mn mk mt mq mz me) → va_S A s.heap H locs → lv_has ls 3 [] → j_X8_takesStage_115 md_6 o7 t8 = some o → W p l e (zR 3) s m ([.ref (a 0)] : List Value).toArray below meth c H locs 0 0 (MQ below (zQv G cy A (wMo cy a m0 m1 m2 o.1 o.2.1 m5 m6 m7 m8 m9 mb ms o.2.2 mp mf mi mo mw mn mk mt mq mz me)) ([.ref (a 0)] : List Value).toArray s 0 0 A) (F0 m 115 ls [.int t8, .int (md_6 (zn 0)), .int 0, .ref (a 3)]) := by
        intro t8 H locs ls hP hD hS hl hF
        unfold j_X8_takesStage_115 at hF
        refine lv_iadd hx hb dX8_takesStage_115 ?_
        refine z_iast (n := 114) (f := md_6) (i := 0) (x := ((md_6 (zn 0)) + t8)) (wf := (fun y => (wMo cy a m0 m1 m2 o7.1 o7.2 m5 m6 m7 m8 m9 mb ms y mp mf mi mo mw mn mk mt mq mz me))) hx hb hK hP hD hS _ 1 (wMo_foc3 cy a m0 m1 m2 o7.1 o7.2 m5 m6 m7 m8 m9 mb ms md_6 mp mf mi mo mw mn mk mt mq mz me _) rfl hF dX8_takesStage_116 (fun md_9 hF H locs hP hD hS => ?_)
        refine z_vret (o := o) (o1 := (o7.1, o7.2, md_9)) (wf := (fun o => (wMo cy a m0 m1 m2 o.1 o.2.1 m5 m6 m7 m8 m9 mb ms o.2.2 mp mf mi mo mw mn mk mt mq mz me))) hx hb hr hlocks hK ?_ ?_ hS ?_ dX8_takesStage_117
        · exact hP
        · exact hD
        · exact hF
      refine zf_eq (tgt := 114) hx hb hF dX8_takesStage_107 (by decide) (fun hF => ?_) (fun hF => ?_)
      · refine lv_iconst (v := 0) hx hb dX8_takesStage_114 (by decide) ?_
        exact J115 0 _ _ ls hP hD hS (lv_sub hl [] rfl) hF
      · refine lv_iconst (v := 1) hx hb dX8_takesStage_110 (by decide) ?_
        refine lv_goto (tgt := 115) hx hb dX8_takesStage_111 (by decide) ?_
        exact J115 1 _ _ ls hP hD hS (lv_sub hl [] rfl) hF
    have L41 : ∀ (n : Nat) (s41 : Int32 × Int32 × Int32 × (Nat → Int32)) (H : Heap) (locs : List Loc) (ls : Array Slot), va_P G vwCl (wMo cy a m0 m1 m2 s41.2.1 s41.2.2.1 m5 m6 m7 m8 m9 mb ms s41.2.2.2 mp mf mi mo mw mn mk mt mq mz me) H → va_D A (wMo cy a m0 m1 m2 s41.2.1 s41.2.2.1 m5 m6 m7 m8 m9 mb ms s41.2.2.2 mp mf mi mo mw mn mk mt mq mz me) → va_S A s.heap H locs → lv_has ls 3 [(0, .ref (a 0)), (1, .int x3), (2, .int s41.1)] → zloop (b_X8_takesStage_41 m1 mb x3) n s41 = some o → W p l e (zR 3) s m ([.ref (a 0)] : List Value).toArray below meth c H locs 0 0 (MQ below (zQv G cy A (wMo cy a m0 m1 m2 o.1 o.2.1 m5 m6 m7 m8 m9 mb ms o.2.2 mp mf mi mo mw mn mk mt mq mz me)) ([.ref (a 0)] : List Value).toArray s 0 0 A) (F0 m 41 ls []) := by
      intro n
      induction n with
      | zero => exact fun s41 H locs ls _ _ _ _ hF => (zloop_0 hF).elim
      | succ n ih41 =>
        intro s41 H locs ls hP hD hS hl hF
        have hF : b_X8_takesStage_41 m1 mb x3 (zloop (b_X8_takesStage_41 m1 mb x3) n) s41 = some o := hF
        generalize zloop (b_X8_takesStage_41 m1 mb x3) n = rc41 at ih41 hF
        unfold b_X8_takesStage_41 at hF
        refine lv_iload_n hx hb dX8_takesStage_41 rfl (lv_at hl 2 rfl) ?_
        refine lv_bipush (v := 7) hx hb dX8_takesStage_42 (by decide) ?_
        refine zi_ge (tgt := 90) hx hb hF dX8_takesStage_44 (by decide) (fun hF => ?_) (fun hF => ?_)
        · exact J90 s41.2.1 s41.2.2.1 s41.2.2.2 _ _ ls hP hD hS (lv_sub hl [0] rfl) hF
        · refine lv_aload_n hx hb dX8_takesStage_47 rfl (lv_at hl 0 rfl) ?_
          refine va_get (ci := 8) (C := RX8) (T := TX8) (N := 24) (fs := (zMo a m0 m1 m2 s41.2.1 s41.2.2.1 m5 m6 m7 m8 m9)) (v := .int s41.2.2.1) hx hb hts iX8 hown hK hP _ (wMo_at0 cy a m0 m1 m2 s41.2.1 s41.2.2.1 m5 m6 m7 m8 m9 mb ms s41.2.2.2 mp mf mi mo mw mn mk mt mq mz me) rfl 8 (by decide) k77 (fun _ h9 => h9) rfl dX8_takesStage_48 ?_
          refine zf_eq (tgt := 90) hx hb hF dX8_takesStage_51 (by decide) (fun hF => ?_) (fun hF => ?_)
          · exact J90 s41.2.1 s41.2.2.1 s41.2.2.2 _ _ ls hP hD hS (lv_sub hl [0] rfl) hF
          · refine lv_iload_n hx hb dX8_takesStage_54 rfl (lv_at hl 2 rfl) ?_
            have J64 : ∀ (m_10 : Int32) (m_11 : Int32) (H : Heap) (locs : List Loc) (ls : Array Slot), va_P G vwCl (wMo cy a m0 m1 m2 m_10 m_11 m5 m6 m7 m8 m9 mb ms s41.2.2.2 mp mf mi mo mw mn mk mt mq mz me) H → va_D A (wMo cy a m0 m1 m2 m_10 m_11 m5 m6 m7 m8 m9 mb ms s41.2.2.2 mp mf mi mo mw mn mk mt mq mz me) → va_S A s.heap H locs → lv_has ls 3 [(0, .ref (a 0)), (1, .int x3), (2, .int s41.1)] → j_X8_takesStage_64 m1 mb x3 rc41 s41 m_10 m_11 = some o → W p l e (zR 3) s m ([.ref (a 0)] : List Value).toArray below meth c H locs 0 0 (MQ below (zQv G cy A (wMo cy a m0 m1 m2 o.1 o.2.1 m5 m6 m7 m8 m9 mb ms o.2.2 mp mf mi mo mw mn mk mt mq mz me)) ([.ref (a 0)] : List Value).toArray s 0 0 A) (F0 m 64 ls []) := by
              intro m_10 m_11 H locs ls hP hD hS hl hF
              unfold j_X8_takesStage_64 at hF
              refine lv_aload_n hx hb dX8_takesStage_64 rfl (lv_at hl 0 rfl) ?_
              refine va_get (ci := 8) (C := RX8) (T := TX8) (N := 24) (fs := (zMo a m0 m1 m2 m_10 m_11 m5 m6 m7 m8 m9)) (v := .ref (a 3)) hx hb hts iX8 hown hK hP _ (wMo_at0 cy a m0 m1 m2 m_10 m_11 m5 m6 m7 m8 m9 mb ms s41.2.2.2 mp mf mi mo mw mn mk mt mq mz me) rfl 4 (by decide) k17 (fun _ h9 => h9) rfl dX8_takesStage_65 ?_
              refine lv_iload_n hx hb dX8_takesStage_68 rfl (lv_at hl 1 rfl) ?_
              refine lv_iload_n hx hb dX8_takesStage_69 rfl (lv_at hl 2 rfl) ?_
              refine lv_iadd hx hb dX8_takesStage_70 ?_
              refine lv_aload_n hx hb dX8_takesStage_71 rfl (lv_at hl 0 rfl) ?_
              refine lv_iload_n hx hb dX8_takesStage_72 rfl (lv_at hl 2 rfl) ?_
              refine z_cSi (As := [.int s41.1]) (rest := [.ref (a 0), .int (x3 + s41.1), .ref (a 3)]) (wc := ([] : va_W)) (wcf := fun o' => ([] : va_W)) (wf := fun o' => (wMo cy a m0 m1 m2 m_10 m_11 m5 m6 m7 m8 m9 mb ms s41.2.2.2 mp mf mi mo mw mn mk mt mq mz me)) (rf := fun o' => o') hF (fun o' hz => c_X8_lowOf l G cy st s41.1 o' hz) (fun o' => zCut_nil) ⟨hx, hb, hml, hown, hts⟩ (va_cwS 1 hts gX8_takesStage_X8_lowOf rfl rfl rfl (by decide +kernel) ⟨by decide, by decide⟩) hK hSE hA hP hD hS rfl hl.1 rfl (Nat.le_of_ble_eq_true rfl) dX8_takesStage_73 ⟨Nat.le_refl _, Nat.le_refl _⟩ (fun o12 hF H locs hP hD hS => ?_)
              refine lv_iload_n hx hb dX8_takesStage_76 rfl (lv_at hl 2 rfl) ?_
              refine z_cSi (As := [.int s41.1]) (rest := [.int o12, .ref (a 0), .int (x3 + s41.1), .ref (a 3)]) (wc := ([] : va_W)) (wcf := fun o' => ([] : va_W)) (wf := fun o' => (wMo cy a m0 m1 m2 m_10 m_11 m5 m6 m7 m8 m9 mb ms s41.2.2.2 mp mf mi mo mw mn mk mt mq mz me)) (rf := fun o' => o') hF (fun o' hz => c_X8_highOf l G cy st s41.1 o' hz) (fun o' => zCut_nil) ⟨hx, hb, hml, hown, hts⟩ (va_cwS 1 hts gX8_takesStage_X8_highOf rfl rfl rfl (by decide +kernel) ⟨by decide, by decide⟩) hK hSE hA hP hD hS rfl hl.1 rfl (Nat.le_of_ble_eq_true rfl) dX8_takesStage_77 ⟨Nat.le_refl _, Nat.le_refl _⟩ (fun o13 hF H locs hP hD hS => ?_)
              refine z_cVi (b := a 0) (As := [.int o12, .int o13]) (rest := [.int (x3 + s41.1), .ref (a 3)]) (wc := (wMo cy a m0 m1 m2 m_10 m_11 m5 m6 m7 m8 m9 mb ms s41.2.2.2 mp mf mi mo mw mn mk mt mq mz me)) (wcf := fun o' => (wMo cy a m0 m1 m2 o'.2.1 o'.2.2 m5 m6 m7 m8 m9 mb ms s41.2.2.2 mp mf mi mo mw mn mk mt mq mz me)) (wf := fun o' => (wMo cy a m0 m1 m2 o'.2.1 o'.2.2 m5 m6 m7 m8 m9 mb ms s41.2.2.2 mp mf mi mo mw mn mk mt mq mz me)) (rf := fun o' => o'.1) hF (fun o' hz => c_X8_takesNumber l G cy st a m0 m1 m2 m_10 m_11 m5 m6 m7 m8 m9 mb ms s41.2.2.2 mp mf mi mo mw mn mk mt mq mz me o12 o13 o' hz) (fun o' => zCut_all) ⟨hx, hb, hml, hown, hts⟩ (cwV 2 hts gX8_takesStage_X8_takesNumber rfl rfl rfl (by decide +kernel) ⟨by decide, by decide⟩) (ci := 8) (q0 := 0) rfl (wMo_at0 cy a m0 m1 m2 m_10 m_11 m5 m6 m7 m8 m9 mb ms s41.2.2.2 mp mf mi mo mw mn mk mt mq mz me) hK hSE hA hP hD hS rfl hl.1 rfl (Nat.le_of_ble_eq_true rfl) dX8_takesStage_80 ⟨Nat.le_refl _, Nat.le_refl _⟩ (fun o14 hF H locs hP hD hS => ?_)
              refine z_iast (n := 114) (f := s41.2.2.2) (i := (x3 + s41.1)) (x := o14.1) (wf := (fun y => (wMo cy a m0 m1 m2 o14.2.1 o14.2.2 m5 m6 m7 m8 m9 mb ms y mp mf mi mo mw mn mk mt mq mz me))) hx hb hK hP hD hS _ 1 (wMo_foc3 cy a m0 m1 m2 o14.2.1 o14.2.2 m5 m6 m7 m8 m9 mb ms s41.2.2.2 mp mf mi mo mw mn mk mt mq mz me _) rfl hF dX8_takesStage_83 (fun md_15 hF H locs hP hD hS => ?_)
              refine z_name hF (fun x16 ex16 hF => ?_)
              refine lv_iinc (v := x16) (lv' := [(2, .int x16), (0, .ref (a 0)), (1, .int x3)]) hx hb dX8_takesStage_84 hl (k := 2) rfl (by rw [ex16]; rfl) (by decide) rfl (fun ls hl => ?_)
              refine lv_goto (tgt := 41) hx hb dX8_takesStage_87 (by decide) ?_
              exact ih41 (x16, o14.2.1, o14.2.2, md_15) _ _ ls hP hD hS (lv_sub hl [1, 2, 0] rfl) hF
            refine zf_le (tgt := 64) hx hb hF dX8_takesStage_55 (by decide) (fun hF => ?_) (fun hF => ?_)
            · exact J64 s41.2.1 s41.2.2.1 _ _ ls hP hD hS (lv_sub hl [0, 1, 2] rfl) hF
            · refine lv_aload_n hx hb dX8_takesStage_58 rfl (lv_at hl 0 rfl) ?_
              refine lv_bipush (v := 44) hx hb dX8_takesStage_59 (by decide) ?_
              refine z_cVv (b := a 0) (As := [.int 44]) (rest := []) (wc := (wMo cy a m0 m1 m2 s41.2.1 s41.2.2.1 m5 m6 m7 m8 m9 mb ms s41.2.2.2 mp mf mi mo mw mn mk mt mq mz me)) (wcf := fun o' => (wMo cy a m0 m1 m2 o'.1 o'.2 m5 m6 m7 m8 m9 mb ms s41.2.2.2 mp mf mi mo mw mn mk mt mq mz me)) (wf := fun o' => (wMo cy a m0 m1 m2 o'.1 o'.2 m5 m6 m7 m8 m9 mb ms s41.2.2.2 mp mf mi mo mw mn mk mt mq mz me)) hF (fun o' hz => c_X8_takes l G cy st a m0 m1 m2 s41.2.1 s41.2.2.1 m5 m6 m7 m8 m9 mb ms s41.2.2.2 mp mf mi mo mw mn mk mt mq mz me 44 o' hz) (fun o' => zCut_all) ⟨hx, hb, hml, hown, hts⟩ (cwV 1 hts gX8_takesStage_X8_takes rfl rfl rfl (by decide +kernel) ⟨by decide, by decide⟩) (ci := 8) (q0 := 0) rfl (wMo_at0 cy a m0 m1 m2 s41.2.1 s41.2.2.1 m5 m6 m7 m8 m9 mb ms s41.2.2.2 mp mf mi mo mw mn mk mt mq mz me) hK hSE hA hP hD hS rfl hl.1 rfl (Nat.le_of_ble_eq_true rfl) dX8_takesStage_61 ⟨Nat.le_refl _, Nat.le_refl _⟩ (fun o17 hF H locs hP hD hS => ?_)
              exact J64 o17.1 o17.2 _ _ ls hP hD hS (lv_sub hl [0, 1, 2] rfl) hF
    exact L41 1000 (0, m3, m_2, md) _ _ ls hP hD hS (lv_sub hl [2, 1, 0] rfl) hF
  have J22 : ∀ (H : Heap) (locs : List Loc) (ls : Array Slot), va_P G vwCl (wMo cy a m0 m1 m2 m3 m4 m5 m6 m7 m8 m9 mb ms md mp mf mi mo mw mn mk mt mq mz me) H → va_D A (wMo cy a m0 m1 m2 m3 m4 m5 m6 m7 m8 m9 mb ms md mp mf mi mo mw mn mk mt mq mz me) → va_S A s.heap H locs → lv_has ls 3 [(0, .ref (a 0))] → j_X8_takesStage_22 m1 m3 mb md = some o → W p l e (zR 3) s m ([.ref (a 0)] : List Value).toArray below meth c H locs 0 0 (MQ below (zQv G cy A (wMo cy a m0 m1 m2 o.1 o.2.1 m5 m6 m7 m8 m9 mb ms o.2.2 mp mf mi mo mw mn mk mt mq mz me)) ([.ref (a 0)] : List Value).toArray s 0 0 A) (F0 m 22 ls [.ref (a 0)]) := by
    intro H locs ls hP hD hS hl hF
    unfold j_X8_takesStage_22 at hF
    refine lv_iconst (v := 0) hx hb dX8_takesStage_22 (by decide) ?_
    exact J23 0 _ _ ls hP hD hS (lv_sub hl [0] rfl) hF
  refine zf_eq (tgt := 22) hx hb hF dX8_takesStage_5 (by decide) (fun hF => ?_) (fun hF => ?_)
  · exact J22 _ _ ls hP hD hS (lv_sub hl [0] rfl) hF
  · refine lv_aload_n hx hb dX8_takesStage_8 rfl (lv_at hl 0 rfl) ?_
    refine va_get (ci := 8) (C := RX8) (T := TX8) (N := 24) (fs := (zMo a m0 m1 m2 m3 m4 m5 m6 m7 m8 m9)) (v := .ref (a 3)) hx hb hts iX8 hown hK hP _ (wMo_at0 cy a m0 m1 m2 m3 m4 m5 m6 m7 m8 m9 mb ms md mp mf mi mo mw mn mk mt mq mz me) rfl 4 (by decide) k17 (fun _ h9 => h9) rfl dX8_takesStage_9 ?_
    refine lv_iconst (v := 0) hx hb dX8_takesStage_12 (by decide) ?_
    refine z_iald (n := 114) (f := md) hx hb hK hP _ 1 (wMo_at3 cy a m0 m1 m2 m3 m4 m5 m6 m7 m8 m9 mb ms md mp mf mi mo mw mn mk mt mq mz me) rfl hF dX8_takesStage_13 (fun hF => ?_)
    refine lv_iconst (v := 4) hx hb dX8_takesStage_14 (by decide) ?_
    refine zi_ge (tgt := 22) hx hb hF dX8_takesStage_15 (by decide) (fun hF => ?_) (fun hF => ?_)
    · exact J22 _ _ ls hP hD hS (lv_sub hl [0] rfl) hF
    · refine lv_iconst (v := 1) hx hb dX8_takesStage_18 (by decide) ?_
      refine lv_goto (tgt := 23) hx hb dX8_takesStage_19 (by decide) ?_
      exact J23 1 _ _ ls hP hD hS (lv_sub hl [0] rfl) hF
def j_X8_reads_149 (rc35 : (Int32 × Int32 × (Nat → Int32)) → Option (Int32 × Int32 × Int32 × (Nat → Int32))) (s35 : Int32 × Int32 × (Nat → Int32)) (m_6 : Int32) (m_7 : Int32) (md_8 : Nat → Int32) : Option (Int32 × Int32 × Int32 × (Nat → Int32)) :=
if m_7 = 0 then (
some (s35.1, m_6, m_7, md_8)) else (
rc35 (m_6, m_7, md_8))
def j_X8_reads_114 (rc35 : (Int32 × Int32 × (Nat → Int32)) → Option (Int32 × Int32 × Int32 × (Nat → Int32))) (s35 : Int32 × Int32 × (Nat → Int32)) (o15 : Int32 × Int32) (t16 : Int32) : Option (Int32 × Int32 × Int32 × (Nat → Int32)) :=
zg (zin 1 114) (
zlet (upd s35.2.2 (zn 1) t16) fun md_17 =>
j_X8_reads_149 rc35 s35 o15.1 o15.2 md_17)
def b_X8_reads_35 (m1 : Int32) (mb : Nat → Int32) (rc35 : (Int32 × Int32 × (Nat → Int32)) → Option (Int32 × Int32 × Int32 × (Nat → Int32))) (s35 : Int32 × Int32 × (Nat → Int32)) : Option (Int32 × Int32 × Int32 × (Nat → Int32)) :=
if m1 ≤ s35.1 then (
some ((-4), s35.1, s35.2.1, s35.2.2)) else (
zg (zbo 1) (
zlet 1 fun m_4 =>
zbd (f_X8_isHere m1 s35.1 mb 118) fun o5 =>
if o5 = 0 then (
zbd (f_X8_isHere m1 s35.1 mb 115) fun o9 =>
if o9 = 0 then (
zg (zbo 0) (
zlet 0 fun m_10 =>
j_X8_reads_149 rc35 s35 s35.1 m_10 s35.2.2)) else (
zlet (s35.1 + 1) fun m_11 =>
zbd (f_X8_takesStage m1 m_11 m_4 mb s35.2.2) fun o12 =>
j_X8_reads_149 rc35 s35 o12.1 o12.2.1 o12.2.2)) else (
zlet (s35.1 + 1) fun m_13 =>
zbd (f_X8_takesNumber m1 m_13 m_4 mb 800 1200) fun o14 =>
zbd (f_X8_takes m1 o14.2.1 o14.2.2 mb 59) fun o15 =>
if o15.2 = 0 then (
zg (zin 1 114) (
j_X8_reads_114 rc35 s35 o15 (s35.2.2 (zn 1)))) else (
j_X8_reads_114 rc35 s35 o15 o14.1))))
def j_X8_reads_21 (m1 : Int32) (m4 : Int32) (mb : Nat → Int32) (md_1 : Nat → Int32) : Option (Int32 × Int32 × Int32 × (Nat → Int32)) :=
zg (zin 1 114) (
zlet (upd md_1 (zn 1) 1000) fun md_2 =>
zlet 0 fun m_3 =>
zloop (b_X8_reads_35 m1 mb) 1000 (m_3, m4, md_2))
def b_X8_reads_2 (m1 : Int32) (m4 : Int32) (mb : Nat → Int32) (rc2 : (Int32 × (Nat → Int32)) → Option (Int32 × Int32 × Int32 × (Nat → Int32))) (s2 : Int32 × (Nat → Int32)) : Option (Int32 × Int32 × Int32 × (Nat → Int32)) :=
if (114 : Int32) ≤ s2.1 then (
j_X8_reads_21 m1 m4 mb s2.2) else (
zg (zin s2.1 114) (
zlet (upd s2.2 (zn s2.1) 0) fun md_18 =>
zlet (s2.1 + 1) fun x19 =>
rc2 (x19, md_18)))
def f_X8_reads (m1 : Int32) (m4 : Int32) (mb : Nat → Int32) (md : Nat → Int32) : Option (Int32 × Int32 × Int32 × (Nat → Int32)) :=
zloop (b_X8_reads_2 m1 m4 mb) 1000 (0, md)
set_option maxHeartbeats 4000000 in
set_option maxRecDepth 100000 in
theorem c_X8_reads (l : Launch) (G : va_G) (cy : Nat → ClassId) (st : Nat → Nat) (a : Nat → Nat) (m0 : Int32) (m1 : Int32) (m2 : Int32) (m3 : Int32) (m4 : Int32) (m5 : Int32) (m6 : Int32) (m7 : Int32) (m8 : Int32) (m9 : Int32) (mb : Nat → Int32) (ms : Nat → Int32) (md : Nat → Int32) (mp : Nat → Int32) (mf : Nat → Int32) (mi : Nat → Int32) (mo : Nat → Int32) (mw : Nat → Int32) (mn : Nat → Int32) (mk : Nat → Int32) (mt : Nat → Int64) (mq : Nat → Int32) (mz : Nat → Int32) (me : Nat → Int32) (o : Int32 × Int32 × Int32 × (Nat → Int32)) (hF : f_X8_reads m1 m4 mb md = some o) : zMi l yX8_reads wsX8_reads (zR 4) G cy st [.ref (a 0)] (wMo cy a m0 m1 m2 m3 m4 m5 m6 m7 m8 m9 mb ms md mp mf mi mo mw mn mk mt mq mz me) (wMo cy a m0 m1 m2 o.2.1 o.2.2.1 m5 m6 m7 m8 m9 mb ms o.2.2.2 mp mf mi mo mw mn mk mt mq mz me) o.1 := by
  refine zM_of (cc := cX8_reads) (maxL := 3) (ret := (some .int)) (Qc := fun A => zQi G cy A (wMo cy a m0 m1 m2 o.2.1 o.2.2.1 m5 m6 m7 m8 m9 mb ms o.2.2.2 mp mf mi mo mw mn mk mt mq mz me) o.1) (by decide) rfl (Nat.le_of_ble_eq_true rfl) ?_
  intro p e s m below meth c A ls hx hb hml hr hlocks hown hts hK hSE hA hP hD hS hl
  have hown : s.vm.findClass RX8 = some m.cls := hown
  have hl : lv_has ls 3 [(0, .ref (a 0))] := hl
  have k17 := hts (.fieldLink RX8 17 "TapCascadeModel" "draft" "[I") (by decide +kernel)
  have iX8 : ∀ w ∈ wsX80, w ∈ wsX8_reads := fun w h => List.mem_cons_of_mem _ (List.mem_append_right _ h)
  have k70 := hts (.fieldLink RX8 70 "TapCascadeModel" "at" "I") (by decide +kernel)
  have k67 := hts (.fieldLink RX8 67 "TapCascadeModel" "letters" "I") (by decide +kernel)
  have k77 := hts (.fieldLink RX8 77 "TapCascadeModel" "isSo" "Z") (by decide +kernel)
  unfold f_X8_reads at hF
  refine lv_iconst (v := 0) hx hb dX8_reads_0 (by decide) ?_
  refine lv_istore_n (lv' := [(1, .int 0), (0, .ref (a 0))]) hx hb dX8_reads_1 rfl hl (by decide) rfl (fun ls hl => ?_)
  have J21 : ∀ (md_1 : Nat → Int32) (H : Heap) (locs : List Loc) (ls : Array Slot), va_P G vwCl (wMo cy a m0 m1 m2 m3 m4 m5 m6 m7 m8 m9 mb ms md_1 mp mf mi mo mw mn mk mt mq mz me) H → va_D A (wMo cy a m0 m1 m2 m3 m4 m5 m6 m7 m8 m9 mb ms md_1 mp mf mi mo mw mn mk mt mq mz me) → va_S A s.heap H locs → lv_has ls 3 [(0, .ref (a 0))] → j_X8_reads_21 m1 m4 mb md_1 = some o → W p l e (zR 4) s m ([.ref (a 0)] : List Value).toArray below meth c H locs 0 0 (MQ below (zQi G cy A (wMo cy a m0 m1 m2 o.2.1 o.2.2.1 m5 m6 m7 m8 m9 mb ms o.2.2.2 mp mf mi mo mw mn mk mt mq mz me) o.1) ([.ref (a 0)] : List Value).toArray s 0 0 A) (F0 m 21 ls []) := by
    intro md_1 H locs ls hP hD hS hl hF
    unfold j_X8_reads_21 at hF
    refine lv_aload_n hx hb dX8_reads_21 rfl (lv_at hl 0 rfl) ?_
    refine va_get (ci := 8) (C := RX8) (T := TX8) (N := 24) (fs := (zMo a m0 m1 m2 m3 m4 m5 m6 m7 m8 m9)) (v := .ref (a 3)) hx hb hts iX8 hown hK hP _ (wMo_at0 cy a m0 m1 m2 m3 m4 m5 m6 m7 m8 m9 mb ms md_1 mp mf mi mo mw mn mk mt mq mz me) rfl 4 (by decide) k17 (fun _ h9 => h9) rfl dX8_reads_22 ?_
    refine lv_iconst (v := 1) hx hb dX8_reads_25 (by decide) ?_
    refine lv_sipush (v := 1000) hx hb dX8_reads_26 (by decide) ?_
    refine z_iast (n := 114) (f := md_1) (i := 1) (x := 1000) (wf := (fun y => (wMo cy a m0 m1 m2 m3 m4 m5 m6 m7 m8 m9 mb ms y mp mf mi mo mw mn mk mt mq mz me))) hx hb hK hP hD hS _ 1 (wMo_foc3 cy a m0 m1 m2 m3 m4 m5 m6 m7 m8 m9 mb ms md_1 mp mf mi mo mw mn mk mt mq mz me _) rfl hF dX8_reads_29 (fun md_2 hF H locs hP hD hS => ?_)
    refine lv_aload_n hx hb dX8_reads_30 rfl (lv_at hl 0 rfl) ?_
    refine lv_iconst (v := 0) hx hb dX8_reads_31 (by decide) ?_
    refine z_puti (ci := 8) (C := RX8) (T := TX8) (N := 24) (fs := (zMo a m0 m1 m2 m3 m4 m5 m6 m7 m8 m9)) (x := 0) (wf := (fun y => (wMo cy a m0 m1 m2 y m4 m5 m6 m7 m8 m9 mb ms md_2 mp mf mi mo mw mn mk mt mq mz me))) hx hb hts iX8 tyX8 tyX8_ok nmX8 hown hK hP hD hS _ 7 (wMo_foc0_7 cy a m0 m1 m2 m3 m4 m5 m6 m7 m8 m9 mb ms md_2 mp mf mi mo mw mn mk mt mq mz me 0) rfl (by decide) k70 (fun _ h9 => h9) rfl (by decide +kernel) (Nat.le_of_ble_eq_true rfl) hF dX8_reads_32 (fun m_3 hF H locs hP hD hS => ?_)
    have L35 : ∀ (n : Nat) (s35 : Int32 × Int32 × (Nat → Int32)) (H : Heap) (locs : List Loc) (ls : Array Slot), va_P G vwCl (wMo cy a m0 m1 m2 s35.1 s35.2.1 m5 m6 m7 m8 m9 mb ms s35.2.2 mp mf mi mo mw mn mk mt mq mz me) H → va_D A (wMo cy a m0 m1 m2 s35.1 s35.2.1 m5 m6 m7 m8 m9 mb ms s35.2.2 mp mf mi mo mw mn mk mt mq mz me) → va_S A s.heap H locs → lv_has ls 3 [(0, .ref (a 0))] → zloop (b_X8_reads_35 m1 mb) n s35 = some o → W p l e (zR 4) s m ([.ref (a 0)] : List Value).toArray below meth c H locs 0 0 (MQ below (zQi G cy A (wMo cy a m0 m1 m2 o.2.1 o.2.2.1 m5 m6 m7 m8 m9 mb ms o.2.2.2 mp mf mi mo mw mn mk mt mq mz me) o.1) ([.ref (a 0)] : List Value).toArray s 0 0 A) (F0 m 35 ls []) := by
      intro n
      induction n with
      | zero => exact fun s35 H locs ls _ _ _ _ hF => (zloop_0 hF).elim
      | succ n ih35 =>
        intro s35 H locs ls hP hD hS hl hF
        have hF : b_X8_reads_35 m1 mb (zloop (b_X8_reads_35 m1 mb) n) s35 = some o := hF
        generalize zloop (b_X8_reads_35 m1 mb) n = rc35 at ih35 hF
        unfold b_X8_reads_35 at hF
        refine lv_aload_n hx hb dX8_reads_35 rfl (lv_at hl 0 rfl) ?_
        refine va_get (ci := 8) (C := RX8) (T := TX8) (N := 24) (fs := (zMo a m0 m1 m2 s35.1 s35.2.1 m5 m6 m7 m8 m9)) (v := .int s35.1) hx hb hts iX8 hown hK hP _ (wMo_at0 cy a m0 m1 m2 s35.1 s35.2.1 m5 m6 m7 m8 m9 mb ms s35.2.2 mp mf mi mo mw mn mk mt mq mz me) rfl 7 (by decide) k70 (fun _ h9 => h9) rfl dX8_reads_36 ?_
        refine lv_aload_n hx hb dX8_reads_39 rfl (lv_at hl 0 rfl) ?_
        refine va_get (ci := 8) (C := RX8) (T := TX8) (N := 24) (fs := (zMo a m0 m1 m2 s35.1 s35.2.1 m5 m6 m7 m8 m9)) (v := .int m1) hx hb hts iX8 hown hK hP _ (wMo_at0 cy a m0 m1 m2 s35.1 s35.2.1 m5 m6 m7 m8 m9 mb ms s35.2.2 mp mf mi mo mw mn mk mt mq mz me) rfl 2 (by decide) k67 (fun _ h9 => h9) rfl dX8_reads_40 ?_
        refine zi_ge (tgt := 161) hx hb hF dX8_reads_43 (by decide) (fun hF => ?_) (fun hF => ?_)
        · refine lv_bipush (v := (-4)) hx hb dX8_reads_161 (by decide) ?_
          refine z_iret (o := o) (o1 := ((-4), s35.1, s35.2.1, s35.2.2)) (v := (-4)) (wf := (fun o => (wMo cy a m0 m1 m2 o.2.1 o.2.2.1 m5 m6 m7 m8 m9 mb ms o.2.2.2 mp mf mi mo mw mn mk mt mq mz me))) (rf := fun o => o.1) hx hb hr hlocks hK ?_ ?_ hS ?_ rfl dX8_reads_163
          · exact hP
          · exact hD
          · exact hF
        · refine lv_aload_n hx hb dX8_reads_46 rfl (lv_at hl 0 rfl) ?_
          refine va_get (ci := 8) (C := RX8) (T := TX8) (N := 24) (fs := (zMo a m0 m1 m2 s35.1 s35.2.1 m5 m6 m7 m8 m9)) (v := .int s35.1) hx hb hts iX8 hown hK hP _ (wMo_at0 cy a m0 m1 m2 s35.1 s35.2.1 m5 m6 m7 m8 m9 mb ms s35.2.2 mp mf mi mo mw mn mk mt mq mz me) rfl 7 (by decide) k70 (fun _ h9 => h9) rfl dX8_reads_47 ?_
          refine lv_istore_n (lv' := [(1, .int s35.1), (0, .ref (a 0))]) hx hb dX8_reads_50 rfl hl (by decide) rfl (fun ls hl => ?_)
          refine lv_aload_n hx hb dX8_reads_51 rfl (lv_at hl 1 rfl) ?_
          refine lv_iconst (v := 1) hx hb dX8_reads_52 (by decide) ?_
          refine z_putz (ci := 8) (C := RX8) (T := TX8) (N := 24) (fs := (zMo a m0 m1 m2 s35.1 s35.2.1 m5 m6 m7 m8 m9)) (x := 1) (wf := (fun y => (wMo cy a m0 m1 m2 s35.1 y m5 m6 m7 m8 m9 mb ms s35.2.2 mp mf mi mo mw mn mk mt mq mz me))) hx hb hts iX8 tyX8 tyX8_ok nmX8 hown hK hP hD hS _ 8 (wMo_foc0_8 cy a m0 m1 m2 s35.1 s35.2.1 m5 m6 m7 m8 m9 mb ms s35.2.2 mp mf mi mo mw mn mk mt mq mz me 1) rfl (by decide) k77 (fun _ h9 => h9) rfl (by decide +kernel) (Nat.le_of_ble_eq_true rfl) hF dX8_reads_53 (fun m_4 hF H locs hP hD hS => ?_)
          refine lv_aload_n hx hb dX8_reads_56 rfl (lv_at hl 1 rfl) ?_
          refine lv_bipush (v := 118) hx hb dX8_reads_57 (by decide) ?_
          refine z_cVi (b := a 0) (As := [.int 118]) (rest := []) (wc := (wMo cy a m0 m1 m2 s35.1 m_4 m5 m6 m7 m8 m9 mb ms s35.2.2 mp mf mi mo mw mn mk mt mq mz me)) (wcf := fun o' => (wMo cy a m0 m1 m2 s35.1 m_4 m5 m6 m7 m8 m9 mb ms s35.2.2 mp mf mi mo mw mn mk mt mq mz me)) (wf := fun o' => (wMo cy a m0 m1 m2 s35.1 m_4 m5 m6 m7 m8 m9 mb ms s35.2.2 mp mf mi mo mw mn mk mt mq mz me)) (rf := fun o' => o') hF (fun o' hz => c_X8_isHere l G cy st a m0 m1 m2 s35.1 m_4 m5 m6 m7 m8 m9 mb ms s35.2.2 mp mf mi mo mw mn mk mt mq mz me 118 o' hz) (fun o' => zCut_all) ⟨hx, hb, hml, hown, hts⟩ (cwV 1 hts gX8_reads_X8_isHere rfl rfl rfl (by decide +kernel) ⟨by decide, by decide⟩) (ci := 8) (q0 := 0) rfl (wMo_at0 cy a m0 m1 m2 s35.1 m_4 m5 m6 m7 m8 m9 mb ms s35.2.2 mp mf mi mo mw mn mk mt mq mz me) hK hSE hA hP hD hS rfl hl.1 rfl (Nat.le_of_ble_eq_true rfl) dX8_reads_59 ⟨Nat.le_refl _, Nat.le_refl _⟩ (fun o5 hF H locs hP hD hS => ?_)
          have J149 : ∀ (m_6 : Int32) (m_7 : Int32) (md_8 : Nat → Int32) (H : Heap) (locs : List Loc) (ls : Array Slot), va_P G vwCl (wMo cy a m0 m1 m2 m_6 m_7 m5 m6 m7 m8 m9 mb ms md_8 mp mf mi mo mw mn mk mt mq mz me) H → va_D A (wMo cy a m0 m1 m2 m_6 m_7 m5 m6 m7 m8 m9 mb ms md_8 mp mf mi mo mw mn mk mt mq mz me) → va_S A s.heap H locs → lv_has ls 3 [(0, .ref (a 0)), (1, .int s35.1)] → j_X8_reads_149 rc35 s35 m_6 m_7 md_8 = some o → W p l e (zR 4) s m ([.ref (a 0)] : List Value).toArray below meth c H locs 0 0 (MQ below (zQi G cy A (wMo cy a m0 m1 m2 o.2.1 o.2.2.1 m5 m6 m7 m8 m9 mb ms o.2.2.2 mp mf mi mo mw mn mk mt mq mz me) o.1) ([.ref (a 0)] : List Value).toArray s 0 0 A) (F0 m 149 ls []) := by
            intro m_6 m_7 md_8 H locs ls hP hD hS hl hF
            unfold j_X8_reads_149 at hF
            refine lv_aload_n hx hb dX8_reads_149 rfl (lv_at hl 0 rfl) ?_
            refine va_get (ci := 8) (C := RX8) (T := TX8) (N := 24) (fs := (zMo a m0 m1 m2 m_6 m_7 m5 m6 m7 m8 m9)) (v := .int m_7) hx hb hts iX8 hown hK hP _ (wMo_at0 cy a m0 m1 m2 m_6 m_7 m5 m6 m7 m8 m9 mb ms md_8 mp mf mi mo mw mn mk mt mq mz me) rfl 8 (by decide) k77 (fun _ h9 => h9) rfl dX8_reads_150 ?_
            refine zf_ne (tgt := 158) hx hb hF dX8_reads_153 (by decide) (fun hF => ?_) (fun hF => ?_)
            · refine lv_goto (tgt := 35) hx hb dX8_reads_158 (by decide) ?_
              exact ih35 (m_6, m_7, md_8) _ _ ls hP hD hS (lv_sub hl [0] rfl) hF
            · refine lv_iload_n hx hb dX8_reads_156 rfl (lv_at hl 1 rfl) ?_
              refine z_iret (o := o) (o1 := (s35.1, m_6, m_7, md_8)) (v := s35.1) (wf := (fun o => (wMo cy a m0 m1 m2 o.2.1 o.2.2.1 m5 m6 m7 m8 m9 mb ms o.2.2.2 mp mf mi mo mw mn mk mt mq mz me))) (rf := fun o => o.1) hx hb hr hlocks hK ?_ ?_ hS ?_ rfl dX8_reads_157
              · exact hP
              · exact hD
              · exact hF
          refine zf_eq (tgt := 118) hx hb hF dX8_reads_62 (by decide) (fun hF => ?_) (fun hF => ?_)
          · refine lv_aload_n hx hb dX8_reads_118 rfl (lv_at hl 1 rfl) ?_
            refine lv_bipush (v := 115) hx hb dX8_reads_119 (by decide) ?_
            refine z_cVi (b := a 0) (As := [.int 115]) (rest := []) (wc := (wMo cy a m0 m1 m2 s35.1 m_4 m5 m6 m7 m8 m9 mb ms s35.2.2 mp mf mi mo mw mn mk mt mq mz me)) (wcf := fun o' => (wMo cy a m0 m1 m2 s35.1 m_4 m5 m6 m7 m8 m9 mb ms s35.2.2 mp mf mi mo mw mn mk mt mq mz me)) (wf := fun o' => (wMo cy a m0 m1 m2 s35.1 m_4 m5 m6 m7 m8 m9 mb ms s35.2.2 mp mf mi mo mw mn mk mt mq mz me)) (rf := fun o' => o') hF (fun o' hz => c_X8_isHere l G cy st a m0 m1 m2 s35.1 m_4 m5 m6 m7 m8 m9 mb ms s35.2.2 mp mf mi mo mw mn mk mt mq mz me 115 o' hz) (fun o' => zCut_all) ⟨hx, hb, hml, hown, hts⟩ (cwV 1 hts gX8_reads_X8_isHere rfl rfl rfl (by decide +kernel) ⟨by decide, by decide⟩) (ci := 8) (q0 := 0) rfl (wMo_at0 cy a m0 m1 m2 s35.1 m_4 m5 m6 m7 m8 m9 mb ms s35.2.2 mp mf mi mo mw mn mk mt mq mz me) hK hSE hA hP hD hS rfl hl.1 rfl (Nat.le_of_ble_eq_true rfl) dX8_reads_121 ⟨Nat.le_refl _, Nat.le_refl _⟩ (fun o9 hF H locs hP hD hS => ?_)
            refine zf_eq (tgt := 144) hx hb hF dX8_reads_124 (by decide) (fun hF => ?_) (fun hF => ?_)
            · refine lv_aload_n hx hb dX8_reads_144 rfl (lv_at hl 1 rfl) ?_
              refine lv_iconst (v := 0) hx hb dX8_reads_145 (by decide) ?_
              refine z_putz (ci := 8) (C := RX8) (T := TX8) (N := 24) (fs := (zMo a m0 m1 m2 s35.1 m_4 m5 m6 m7 m8 m9)) (x := 0) (wf := (fun y => (wMo cy a m0 m1 m2 s35.1 y m5 m6 m7 m8 m9 mb ms s35.2.2 mp mf mi mo mw mn mk mt mq mz me))) hx hb hts iX8 tyX8 tyX8_ok nmX8 hown hK hP hD hS _ 8 (wMo_foc0_8 cy a m0 m1 m2 s35.1 m_4 m5 m6 m7 m8 m9 mb ms s35.2.2 mp mf mi mo mw mn mk mt mq mz me 0) rfl (by decide) k77 (fun _ h9 => h9) rfl (by decide +kernel) (Nat.le_of_ble_eq_true rfl) hF dX8_reads_146 (fun m_10 hF H locs hP hD hS => ?_)
              exact J149 s35.1 m_10 s35.2.2 _ _ ls hP hD hS (lv_sub hl [1, 0] rfl) hF
            · refine lv_aload_n hx hb dX8_reads_127 rfl (lv_at hl 1 rfl) ?_
              refine lv_dup hx hb dX8_reads_128 rfl ?_
              refine va_get (ci := 8) (C := RX8) (T := TX8) (N := 24) (fs := (zMo a m0 m1 m2 s35.1 m_4 m5 m6 m7 m8 m9)) (v := .int s35.1) hx hb hts iX8 hown hK hP _ (wMo_at0 cy a m0 m1 m2 s35.1 m_4 m5 m6 m7 m8 m9 mb ms s35.2.2 mp mf mi mo mw mn mk mt mq mz me) rfl 7 (by decide) k70 (fun _ h9 => h9) rfl dX8_reads_129 ?_
              refine lv_iconst (v := 1) hx hb dX8_reads_132 (by decide) ?_
              refine lv_iadd hx hb dX8_reads_133 ?_
              refine z_puti (ci := 8) (C := RX8) (T := TX8) (N := 24) (fs := (zMo a m0 m1 m2 s35.1 m_4 m5 m6 m7 m8 m9)) (x := (s35.1 + 1)) (wf := (fun y => (wMo cy a m0 m1 m2 y m_4 m5 m6 m7 m8 m9 mb ms s35.2.2 mp mf mi mo mw mn mk mt mq mz me))) hx hb hts iX8 tyX8 tyX8_ok nmX8 hown hK hP hD hS _ 7 (wMo_foc0_7 cy a m0 m1 m2 s35.1 m_4 m5 m6 m7 m8 m9 mb ms s35.2.2 mp mf mi mo mw mn mk mt mq mz me (s35.1 + 1)) rfl (by decide) k70 (fun _ h9 => h9) rfl (by decide +kernel) (Nat.le_of_ble_eq_true rfl) hF dX8_reads_134 (fun m_11 hF H locs hP hD hS => ?_)
              refine lv_aload_n hx hb dX8_reads_137 rfl (lv_at hl 1 rfl) ?_
              refine z_cVv (b := a 0) (As := []) (rest := []) (wc := (wMo cy a m0 m1 m2 m_11 m_4 m5 m6 m7 m8 m9 mb ms s35.2.2 mp mf mi mo mw mn mk mt mq mz me)) (wcf := fun o' => (wMo cy a m0 m1 m2 o'.1 o'.2.1 m5 m6 m7 m8 m9 mb ms o'.2.2 mp mf mi mo mw mn mk mt mq mz me)) (wf := fun o' => (wMo cy a m0 m1 m2 o'.1 o'.2.1 m5 m6 m7 m8 m9 mb ms o'.2.2 mp mf mi mo mw mn mk mt mq mz me)) hF (fun o' hz => c_X8_takesStage l G cy st a m0 m1 m2 m_11 m_4 m5 m6 m7 m8 m9 mb ms s35.2.2 mp mf mi mo mw mn mk mt mq mz me o' hz) (fun o' => zCut_all) ⟨hx, hb, hml, hown, hts⟩ (cwV 0 hts gX8_reads_X8_takesStage rfl rfl rfl (by decide +kernel) ⟨by decide, by decide⟩) (ci := 8) (q0 := 0) rfl (wMo_at0 cy a m0 m1 m2 m_11 m_4 m5 m6 m7 m8 m9 mb ms s35.2.2 mp mf mi mo mw mn mk mt mq mz me) hK hSE hA hP hD hS rfl hl.1 rfl (Nat.le_of_ble_eq_true rfl) dX8_reads_138 ⟨Nat.le_refl _, Nat.le_refl _⟩ (fun o12 hF H locs hP hD hS => ?_)
              refine lv_goto (tgt := 149) hx hb dX8_reads_141 (by decide) ?_
              exact J149 o12.1 o12.2.1 o12.2.2 _ _ ls hP hD hS (lv_sub hl [1, 0] rfl) hF
          · refine lv_aload_n hx hb dX8_reads_65 rfl (lv_at hl 1 rfl) ?_
            refine lv_dup hx hb dX8_reads_66 rfl ?_
            refine va_get (ci := 8) (C := RX8) (T := TX8) (N := 24) (fs := (zMo a m0 m1 m2 s35.1 m_4 m5 m6 m7 m8 m9)) (v := .int s35.1) hx hb hts iX8 hown hK hP _ (wMo_at0 cy a m0 m1 m2 s35.1 m_4 m5 m6 m7 m8 m9 mb ms s35.2.2 mp mf mi mo mw mn mk mt mq mz me) rfl 7 (by decide) k70 (fun _ h9 => h9) rfl dX8_reads_67 ?_
            refine lv_iconst (v := 1) hx hb dX8_reads_70 (by decide) ?_
            refine lv_iadd hx hb dX8_reads_71 ?_
            refine z_puti (ci := 8) (C := RX8) (T := TX8) (N := 24) (fs := (zMo a m0 m1 m2 s35.1 m_4 m5 m6 m7 m8 m9)) (x := (s35.1 + 1)) (wf := (fun y => (wMo cy a m0 m1 m2 y m_4 m5 m6 m7 m8 m9 mb ms s35.2.2 mp mf mi mo mw mn mk mt mq mz me))) hx hb hts iX8 tyX8 tyX8_ok nmX8 hown hK hP hD hS _ 7 (wMo_foc0_7 cy a m0 m1 m2 s35.1 m_4 m5 m6 m7 m8 m9 mb ms s35.2.2 mp mf mi mo mw mn mk mt mq mz me (s35.1 + 1)) rfl (by decide) k70 (fun _ h9 => h9) rfl (by decide +kernel) (Nat.le_of_ble_eq_true rfl) hF dX8_reads_72 (fun m_13 hF H locs hP hD hS => ?_)
            refine lv_aload_n hx hb dX8_reads_75 rfl (lv_at hl 1 rfl) ?_
            refine lv_sipush (v := 800) hx hb dX8_reads_76 (by decide) ?_
            refine lv_sipush (v := 1200) hx hb dX8_reads_79 (by decide) ?_
            refine z_cVi (b := a 0) (As := [.int 800, .int 1200]) (rest := []) (wc := (wMo cy a m0 m1 m2 m_13 m_4 m5 m6 m7 m8 m9 mb ms s35.2.2 mp mf mi mo mw mn mk mt mq mz me)) (wcf := fun o' => (wMo cy a m0 m1 m2 o'.2.1 o'.2.2 m5 m6 m7 m8 m9 mb ms s35.2.2 mp mf mi mo mw mn mk mt mq mz me)) (wf := fun o' => (wMo cy a m0 m1 m2 o'.2.1 o'.2.2 m5 m6 m7 m8 m9 mb ms s35.2.2 mp mf mi mo mw mn mk mt mq mz me)) (rf := fun o' => o'.1) hF (fun o' hz => c_X8_takesNumber l G cy st a m0 m1 m2 m_13 m_4 m5 m6 m7 m8 m9 mb ms s35.2.2 mp mf mi mo mw mn mk mt mq mz me 800 1200 o' hz) (fun o' => zCut_all) ⟨hx, hb, hml, hown, hts⟩ (cwV 2 hts gX8_reads_X8_takesNumber rfl rfl rfl (by decide +kernel) ⟨by decide, by decide⟩) (ci := 8) (q0 := 0) rfl (wMo_at0 cy a m0 m1 m2 m_13 m_4 m5 m6 m7 m8 m9 mb ms s35.2.2 mp mf mi mo mw mn mk mt mq mz me) hK hSE hA hP hD hS rfl hl.1 rfl (Nat.le_of_ble_eq_true rfl) dX8_reads_82 ⟨Nat.le_refl _, Nat.le_refl _⟩ (fun o14 hF H locs hP hD hS => ?_)
            refine lv_istore_n (lv' := [(2, .int o14.1), (1, .int s35.1), (0, .ref (a 0))]) hx hb dX8_reads_85 rfl hl (by decide) rfl (fun ls hl => ?_)
            refine lv_aload_n hx hb dX8_reads_86 rfl (lv_at hl 2 rfl) ?_
            refine lv_bipush (v := 59) hx hb dX8_reads_87 (by decide) ?_
            refine z_cVv (b := a 0) (As := [.int 59]) (rest := []) (wc := (wMo cy a m0 m1 m2 o14.2.1 o14.2.2 m5 m6 m7 m8 m9 mb ms s35.2.2 mp mf mi mo mw mn mk mt mq mz me)) (wcf := fun o' => (wMo cy a m0 m1 m2 o'.1 o'.2 m5 m6 m7 m8 m9 mb ms s35.2.2 mp mf mi mo mw mn mk mt mq mz me)) (wf := fun o' => (wMo cy a m0 m1 m2 o'.1 o'.2 m5 m6 m7 m8 m9 mb ms s35.2.2 mp mf mi mo mw mn mk mt mq mz me)) hF (fun o' hz => c_X8_takes l G cy st a m0 m1 m2 o14.2.1 o14.2.2 m5 m6 m7 m8 m9 mb ms s35.2.2 mp mf mi mo mw mn mk mt mq mz me 59 o' hz) (fun o' => zCut_all) ⟨hx, hb, hml, hown, hts⟩ (cwV 1 hts gX8_reads_X8_takes rfl rfl rfl (by decide +kernel) ⟨by decide, by decide⟩) (ci := 8) (q0 := 0) rfl (wMo_at0 cy a m0 m1 m2 o14.2.1 o14.2.2 m5 m6 m7 m8 m9 mb ms s35.2.2 mp mf mi mo mw mn mk mt mq mz me) hK hSE hA hP hD hS rfl hl.1 rfl (Nat.le_of_ble_eq_true rfl) dX8_reads_89 ⟨Nat.le_refl _, Nat.le_refl _⟩ (fun o15 hF H locs hP hD hS => ?_)
            refine lv_aload_n hx hb dX8_reads_92 rfl (lv_at hl 2 rfl) ?_
            refine va_get (ci := 8) (C := RX8) (T := TX8) (N := 24) (fs := (zMo a m0 m1 m2 o15.1 o15.2 m5 m6 m7 m8 m9)) (v := .ref (a 3)) hx hb hts iX8 hown hK hP _ (wMo_at0 cy a m0 m1 m2 o15.1 o15.2 m5 m6 m7 m8 m9 mb ms s35.2.2 mp mf mi mo mw mn mk mt mq mz me) rfl 4 (by decide) k17 (fun _ h9 => h9) rfl dX8_reads_93 ?_
            refine lv_iconst (v := 1) hx hb dX8_reads_96 (by decide) ?_
            refine lv_aload_n hx hb dX8_reads_97 rfl (lv_at hl 2 rfl) ?_
            refine va_get (ci := 8) (C := RX8) (T := TX8) (N := 24) (fs := (zMo a m0 m1 m2 o15.1 o15.2 m5 m6 m7 m8 m9)) (v := .int o15.2) hx hb hts iX8 hown hK hP _ (wMo_at0 cy a m0 m1 m2 o15.1 o15.2 m5 m6 m7 m8 m9 mb ms s35.2.2 mp mf mi mo mw mn mk mt mq mz me) rfl 8 (by decide) k77 (fun _ h9 => h9) rfl dX8_reads_98 ?_
            have J114 : ∀ (t16 : Int32) (H : Heap) (locs : List Loc) (ls : Array Slot), va_P G vwCl (wMo cy a m0 m1 m2 o15.1 o15.2 m5 m6 m7 m8 m9 mb ms s35.2.2 mp mf mi mo mw mn mk mt mq mz me) H → va_D A (wMo cy a m0 m1 m2 o15.1 o15.2 m5 m6 m7 m8 m9 mb ms s35.2.2 mp mf mi mo mw mn mk mt mq mz me) → va_S A s.heap H locs → lv_has ls 3 [(0, .ref (a 0)), (1, .int s35.1)] → j_X8_reads_114 rc35 s35 o15 t16 = some o → W p l e (zR 4) s m ([.ref (a 0)] : List Value).toArray below meth c H locs 0 0 (MQ below (zQi G cy A (wMo cy a m0 m1 m2 o.2.1 o.2.2.1 m5 m6 m7 m8 m9 mb ms o.2.2.2 mp mf mi mo mw mn mk mt mq mz me) o.1) ([.ref (a 0)] : List Value).toArray s 0 0 A) (F0 m 114 ls [.int t16, .int 1, .ref (a 3)]) := by
              intro t16 H locs ls hP hD hS hl hF
              unfold j_X8_reads_114 at hF
              refine z_iast (n := 114) (f := s35.2.2) (i := 1) (x := t16) (wf := (fun y => (wMo cy a m0 m1 m2 o15.1 o15.2 m5 m6 m7 m8 m9 mb ms y mp mf mi mo mw mn mk mt mq mz me))) hx hb hK hP hD hS _ 1 (wMo_foc3 cy a m0 m1 m2 o15.1 o15.2 m5 m6 m7 m8 m9 mb ms s35.2.2 mp mf mi mo mw mn mk mt mq mz me _) rfl hF dX8_reads_114 (fun md_17 hF H locs hP hD hS => ?_)
              refine lv_goto (tgt := 149) hx hb dX8_reads_115 (by decide) ?_
              exact J149 o15.1 o15.2 md_17 _ _ ls hP hD hS (lv_sub hl [0, 1] rfl) hF
            refine zf_eq (tgt := 108) hx hb hF dX8_reads_101 (by decide) (fun hF => ?_) (fun hF => ?_)
            · refine lv_aload_n hx hb dX8_reads_108 rfl (lv_at hl 2 rfl) ?_
              refine va_get (ci := 8) (C := RX8) (T := TX8) (N := 24) (fs := (zMo a m0 m1 m2 o15.1 o15.2 m5 m6 m7 m8 m9)) (v := .ref (a 3)) hx hb hts iX8 hown hK hP _ (wMo_at0 cy a m0 m1 m2 o15.1 o15.2 m5 m6 m7 m8 m9 mb ms s35.2.2 mp mf mi mo mw mn mk mt mq mz me) rfl 4 (by decide) k17 (fun _ h9 => h9) rfl dX8_reads_109 ?_
              refine lv_iconst (v := 1) hx hb dX8_reads_112 (by decide) ?_
              refine z_iald (n := 114) (f := s35.2.2) hx hb hK hP _ 1 (wMo_at3 cy a m0 m1 m2 o15.1 o15.2 m5 m6 m7 m8 m9 mb ms s35.2.2 mp mf mi mo mw mn mk mt mq mz me) rfl hF dX8_reads_113 (fun hF => ?_)
              exact J114 (s35.2.2 (zn 1)) _ _ ls hP hD hS (lv_sub hl [2, 1] rfl) hF
            · refine lv_iload_n hx hb dX8_reads_104 rfl (lv_at hl 0 rfl) ?_
              refine lv_goto (tgt := 114) hx hb dX8_reads_105 (by decide) ?_
              exact J114 o14.1 _ _ ls hP hD hS (lv_sub hl [2, 1] rfl) hF
    exact L35 1000 (m_3, m4, md_2) _ _ ls hP hD hS (lv_sub hl [0] rfl) hF
  have L2 : ∀ (n : Nat) (s2 : Int32 × (Nat → Int32)) (H : Heap) (locs : List Loc) (ls : Array Slot), va_P G vwCl (wMo cy a m0 m1 m2 m3 m4 m5 m6 m7 m8 m9 mb ms s2.2 mp mf mi mo mw mn mk mt mq mz me) H → va_D A (wMo cy a m0 m1 m2 m3 m4 m5 m6 m7 m8 m9 mb ms s2.2 mp mf mi mo mw mn mk mt mq mz me) → va_S A s.heap H locs → lv_has ls 3 [(0, .ref (a 0)), (1, .int s2.1)] → zloop (b_X8_reads_2 m1 m4 mb) n s2 = some o → W p l e (zR 4) s m ([.ref (a 0)] : List Value).toArray below meth c H locs 0 0 (MQ below (zQi G cy A (wMo cy a m0 m1 m2 o.2.1 o.2.2.1 m5 m6 m7 m8 m9 mb ms o.2.2.2 mp mf mi mo mw mn mk mt mq mz me) o.1) ([.ref (a 0)] : List Value).toArray s 0 0 A) (F0 m 2 ls []) := by
    intro n
    induction n with
    | zero => exact fun s2 H locs ls _ _ _ _ hF => (zloop_0 hF).elim
    | succ n ih2 =>
      intro s2 H locs ls hP hD hS hl hF
      have hF : b_X8_reads_2 m1 m4 mb (zloop (b_X8_reads_2 m1 m4 mb) n) s2 = some o := hF
      generalize zloop (b_X8_reads_2 m1 m4 mb) n = rc2 at ih2 hF
      unfold b_X8_reads_2 at hF
      refine lv_iload_n hx hb dX8_reads_2 rfl (lv_at hl 1 rfl) ?_
      refine lv_bipush (v := 114) hx hb dX8_reads_3 (by decide) ?_
      refine zi_ge (tgt := 21) hx hb hF dX8_reads_5 (by decide) (fun hF => ?_) (fun hF => ?_)
      · exact J21 s2.2 _ _ ls hP hD hS (lv_sub hl [0] rfl) hF
      · refine lv_aload_n hx hb dX8_reads_8 rfl (lv_at hl 0 rfl) ?_
        refine va_get (ci := 8) (C := RX8) (T := TX8) (N := 24) (fs := (zMo a m0 m1 m2 m3 m4 m5 m6 m7 m8 m9)) (v := .ref (a 3)) hx hb hts iX8 hown hK hP _ (wMo_at0 cy a m0 m1 m2 m3 m4 m5 m6 m7 m8 m9 mb ms s2.2 mp mf mi mo mw mn mk mt mq mz me) rfl 4 (by decide) k17 (fun _ h9 => h9) rfl dX8_reads_9 ?_
        refine lv_iload_n hx hb dX8_reads_12 rfl (lv_at hl 1 rfl) ?_
        refine lv_iconst (v := 0) hx hb dX8_reads_13 (by decide) ?_
        refine z_iast (n := 114) (f := s2.2) (i := s2.1) (x := 0) (wf := (fun y => (wMo cy a m0 m1 m2 m3 m4 m5 m6 m7 m8 m9 mb ms y mp mf mi mo mw mn mk mt mq mz me))) hx hb hK hP hD hS _ 1 (wMo_foc3 cy a m0 m1 m2 m3 m4 m5 m6 m7 m8 m9 mb ms s2.2 mp mf mi mo mw mn mk mt mq mz me _) rfl hF dX8_reads_14 (fun md_18 hF H locs hP hD hS => ?_)
        refine z_name hF (fun x19 ex19 hF => ?_)
        refine lv_iinc (v := x19) (lv' := [(1, .int x19), (0, .ref (a 0))]) hx hb dX8_reads_15 hl (k := 1) rfl (by rw [ex19]; rfl) (by decide) rfl (fun ls hl => ?_)
        refine lv_goto (tgt := 2) hx hb dX8_reads_18 (by decide) ?_
        exact ih2 (x19, md_18) _ _ ls hP hD hS (lv_sub hl [1, 0] rfl) hF
  exact L2 1000 (0, md) _ _ ls hP hD hS (lv_sub hl [1, 0] rfl) hF
def f_X8_fault (m1 : Int32) (m4 : Int32) (mb : Nat → Int32) (md : Nat → Int32) : Option (Int32 × Int32 × Int32 × Int32 × (Nat → Int32)) :=
zlet 0 fun m_1 =>
zbd (f_X8_reads m1 m4 mb md) fun o2 =>
zlet (o2.1) fun x3 =>
zlet (o2.2.1) fun m_4 =>
zlet (o2.2.2.1) fun m_5 =>
zlet (o2.2.2.2) fun md_6 =>
some (x3, m_1, m_4, m_5, md_6)
set_option maxHeartbeats 4000000 in
set_option maxRecDepth 100000 in
theorem c_X8_fault (l : Launch) (G : va_G) (cy : Nat → ClassId) (st : Nat → Nat) (a : Nat → Nat) (m0 : Int32) (m1 : Int32) (m2 : Int32) (m3 : Int32) (m4 : Int32) (m5 : Int32) (m6 : Int32) (m7 : Int32) (m8 : Int32) (m9 : Int32) (mb : Nat → Int32) (ms : Nat → Int32) (md : Nat → Int32) (mp : Nat → Int32) (mf : Nat → Int32) (mi : Nat → Int32) (mo : Nat → Int32) (mw : Nat → Int32) (mn : Nat → Int32) (mk : Nat → Int32) (mt : Nat → Int64) (mq : Nat → Int32) (mz : Nat → Int32) (me : Nat → Int32) (o : Int32 × Int32 × Int32 × Int32 × (Nat → Int32)) (hF : f_X8_fault m1 m4 mb md = some o) : zMi l yX8_fault wsX8_fault (zR 5) G cy st [.ref (a 0)] (wMo cy a m0 m1 m2 m3 m4 m5 m6 m7 m8 m9 mb ms md mp mf mi mo mw mn mk mt mq mz me) (wMo cy a o.2.1 m1 m2 o.2.2.1 o.2.2.2.1 m5 m6 m7 m8 m9 mb ms o.2.2.2.2 mp mf mi mo mw mn mk mt mq mz me) o.1 := by
  refine zM_of (cc := cX8_fault) (maxL := 1) (ret := (some .int)) (Qc := fun A => zQi G cy A (wMo cy a o.2.1 m1 m2 o.2.2.1 o.2.2.2.1 m5 m6 m7 m8 m9 mb ms o.2.2.2.2 mp mf mi mo mw mn mk mt mq mz me) o.1) (by decide) rfl (Nat.le_of_ble_eq_true rfl) ?_
  intro p e s m below meth c A ls hx hb hml hr hlocks hown hts hK hSE hA hP hD hS hl
  have hown : s.vm.findClass RX8 = some m.cls := hown
  have hl : lv_has ls 1 [(0, .ref (a 0))] := hl
  have k59 := hts (.fieldLink RX8 59 "TapCascadeModel" "thrown" "I") (by decide +kernel)
  have iX8 : ∀ w ∈ wsX80, w ∈ wsX8_fault := fun w h => List.mem_cons_of_mem _ (List.mem_append_right _ h)
  unfold f_X8_fault at hF
  refine lv_aload_n hx hb dX8_fault_0 rfl (lv_at hl 0 rfl) ?_
  refine lv_iconst (v := 0) hx hb dX8_fault_1 (by decide) ?_
  refine z_puti (ci := 8) (C := RX8) (T := TX8) (N := 24) (fs := (zMo a m0 m1 m2 m3 m4 m5 m6 m7 m8 m9)) (x := 0) (wf := (fun y => (wMo cy a y m1 m2 m3 m4 m5 m6 m7 m8 m9 mb ms md mp mf mi mo mw mn mk mt mq mz me))) hx hb hts iX8 tyX8 tyX8_ok nmX8 hown hK hP hD hS _ 0 (wMo_foc0_0 cy a m0 m1 m2 m3 m4 m5 m6 m7 m8 m9 mb ms md mp mf mi mo mw mn mk mt mq mz me 0) rfl (by decide) k59 (fun _ h9 => h9) rfl (by decide +kernel) (Nat.le_of_ble_eq_true rfl) hF dX8_fault_2 (fun m_1 hF H locs hP hD hS => ?_)
  refine lv_aload_n hx hb dX8_fault_5 rfl (lv_at hl 0 rfl) ?_
  refine z_cVi (b := a 0) (As := []) (rest := []) (wc := (wMo cy a m_1 m1 m2 m3 m4 m5 m6 m7 m8 m9 mb ms md mp mf mi mo mw mn mk mt mq mz me)) (wcf := fun o' => (wMo cy a m_1 m1 m2 o'.2.1 o'.2.2.1 m5 m6 m7 m8 m9 mb ms o'.2.2.2 mp mf mi mo mw mn mk mt mq mz me)) (wf := fun o' => (wMo cy a m_1 m1 m2 o'.2.1 o'.2.2.1 m5 m6 m7 m8 m9 mb ms o'.2.2.2 mp mf mi mo mw mn mk mt mq mz me)) (rf := fun o' => o'.1) hF (fun o' hz => c_X8_reads l G cy st a m_1 m1 m2 m3 m4 m5 m6 m7 m8 m9 mb ms md mp mf mi mo mw mn mk mt mq mz me o' hz) (fun o' => zCut_all) ⟨hx, hb, hml, hown, hts⟩ (cwV 0 hts gX8_fault_X8_reads rfl rfl rfl (by decide +kernel) ⟨by decide, by decide⟩) (ci := 8) (q0 := 0) rfl (wMo_at0 cy a m_1 m1 m2 m3 m4 m5 m6 m7 m8 m9 mb ms md mp mf mi mo mw mn mk mt mq mz me) hK hSE hA hP hD hS rfl hl.1 rfl (Nat.le_of_ble_eq_true rfl) dX8_fault_6 ⟨Nat.le_refl _, Nat.le_refl _⟩ (fun o2 hF H locs hP hD hS => ?_)
  refine z_leti hF (fun x3 hF => ?_)
  refine z_nameW (wf := (fun y => (wMo cy a m_1 m1 m2 y o2.2.2.1 m5 m6 m7 m8 m9 mb ms o2.2.2.2 mp mf mi mo mw mn mk mt mq mz me))) hF hP hD (fun m_4 hF hP hD => ?_)
  refine z_nameW (wf := (fun y => (wMo cy a m_1 m1 m2 m_4 y m5 m6 m7 m8 m9 mb ms o2.2.2.2 mp mf mi mo mw mn mk mt mq mz me))) hF hP hD (fun m_5 hF hP hD => ?_)
  refine z_nameW (wf := (fun y => (wMo cy a m_1 m1 m2 m_4 m_5 m5 m6 m7 m8 m9 mb ms y mp mf mi mo mw mn mk mt mq mz me))) hF hP hD (fun md_6 hF hP hD => ?_)
  refine z_iret (o := o) (o1 := (x3, m_1, m_4, m_5, md_6)) (v := x3) (wf := (fun o => (wMo cy a o.2.1 m1 m2 o.2.2.1 o.2.2.2.1 m5 m6 m7 m8 m9 mb ms o.2.2.2.2 mp mf mi mo mw mn mk mt mq mz me))) (rf := fun o => o.1) hx hb hr hlocks hK ?_ ?_ hS ?_ rfl dX8_fault_9
  · exact hP
  · exact hD
  · exact hF
def j_X8_lay_72 (m_1 : Int32) (m_4 : Int32) (m_5 : Int32) (md_6 : Nat → Int32) (ms_7 : Nat → Int32) : Option (Int32 × Int32 × Int32 × Int32 × Int32 × (Nat → Int32) × (Nat → Int32)) :=
zlet 0 fun m_8 =>
zg (zin 0 114) (
some ((ms_7 (zn 0)), m_1, m_8, m_4, m_5, ms_7, md_6))
def j_X8_lay_65 (rc28 : (Int32 × (Nat → Int32)) → Option (Int32 × Int32 × Int32 × Int32 × Int32 × (Nat → Int32) × (Nat → Int32))) (s28 : Int32 × (Nat → Int32)) (t9 : Int32) : Option (Int32 × Int32 × Int32 × Int32 × Int32 × (Nat → Int32) × (Nat → Int32)) :=
zg (zin s28.1 114) (
zlet (upd s28.2 (zn s28.1) t9) fun ms_10 =>
zlet (s28.1 + 1) fun x11 =>
rc28 (x11, ms_10))
def b_X8_lay_28 (m_1 : Int32) (m_4 : Int32) (m_5 : Int32) (md_6 : Nat → Int32) (rc28 : (Int32 × (Nat → Int32)) → Option (Int32 × Int32 × Int32 × Int32 × Int32 × (Nat → Int32) × (Nat → Int32))) (s28 : Int32 × (Nat → Int32)) : Option (Int32 × Int32 × Int32 × Int32 × Int32 × (Nat → Int32) × (Nat → Int32)) :=
if (114 : Int32) ≤ s28.1 then (
j_X8_lay_72 m_1 m_4 m_5 md_6 s28.2) else (
zg (zin 0 114) (
if (6 + (12 * (md_6 (zn 0)))) ≤ s28.1 then (
j_X8_lay_65 rc28 s28 0) else (
zg (zin s28.1 114) (
j_X8_lay_65 rc28 s28 (md_6 (zn s28.1))))))
def f_X8_lay (m1 : Int32) (m2 : Int32) (m4 : Int32) (mb : Nat → Int32) (ms : Nat → Int32) (md : Nat → Int32) : Option (Int32 × Int32 × Int32 × Int32 × Int32 × (Nat → Int32) × (Nat → Int32)) :=
zlet 0 fun m_1 =>
zbd (f_X8_reads m1 m4 mb md) fun o2 =>
zlet (o2.1) fun x3 =>
zlet (o2.2.1) fun m_4 =>
zlet (o2.2.2.1) fun m_5 =>
zlet (o2.2.2.2) fun md_6 =>
if x3 = (-4 : Int32) then (
zg (zin 0 114) (
if (md_6 (zn 0)) = 0 then (
some ((-2), m_1, m2, m_4, m_5, ms, md_6)) else (
zloop (b_X8_lay_28 m_1 m_4 m_5 md_6) 1000 (0, ms)))) else (
some ((-2), m_1, m2, m_4, m_5, ms, md_6))
set_option maxHeartbeats 4000000 in
set_option maxRecDepth 100000 in
theorem c_X8_lay (l : Launch) (G : va_G) (cy : Nat → ClassId) (st : Nat → Nat) (a : Nat → Nat) (m0 : Int32) (m1 : Int32) (m2 : Int32) (m3 : Int32) (m4 : Int32) (m5 : Int32) (m6 : Int32) (m7 : Int32) (m8 : Int32) (m9 : Int32) (mb : Nat → Int32) (ms : Nat → Int32) (md : Nat → Int32) (mp : Nat → Int32) (mf : Nat → Int32) (mi : Nat → Int32) (mo : Nat → Int32) (mw : Nat → Int32) (mn : Nat → Int32) (mk : Nat → Int32) (mt : Nat → Int64) (mq : Nat → Int32) (mz : Nat → Int32) (me : Nat → Int32) (o : Int32 × Int32 × Int32 × Int32 × Int32 × (Nat → Int32) × (Nat → Int32)) (hF : f_X8_lay m1 m2 m4 mb ms md = some o) : zMi l yX8_lay wsX8_lay (zR 5) G cy st [.ref (a 0)] (wMo cy a m0 m1 m2 m3 m4 m5 m6 m7 m8 m9 mb ms md mp mf mi mo mw mn mk mt mq mz me) (wMo cy a o.2.1 m1 o.2.2.1 o.2.2.2.1 o.2.2.2.2.1 m5 m6 m7 m8 m9 mb o.2.2.2.2.2.1 o.2.2.2.2.2.2 mp mf mi mo mw mn mk mt mq mz me) o.1 := by
  refine zM_of (cc := cX8_lay) (maxL := 2) (ret := (some .int)) (Qc := fun A => zQi G cy A (wMo cy a o.2.1 m1 o.2.2.1 o.2.2.2.1 o.2.2.2.2.1 m5 m6 m7 m8 m9 mb o.2.2.2.2.2.1 o.2.2.2.2.2.2 mp mf mi mo mw mn mk mt mq mz me) o.1) (by decide) rfl (Nat.le_of_ble_eq_true rfl) ?_
  intro p e s m below meth c A ls hx hb hml hr hlocks hown hts hK hSE hA hP hD hS hl
  have hown : s.vm.findClass RX8 = some m.cls := hown
  have hl : lv_has ls 2 [(0, .ref (a 0))] := hl
  have k59 := hts (.fieldLink RX8 59 "TapCascadeModel" "thrown" "I") (by decide +kernel)
  have iX8 : ∀ w ∈ wsX80, w ∈ wsX8_lay := fun w h => List.mem_cons_of_mem _ (List.mem_append_right _ h)
  have k17 := hts (.fieldLink RX8 17 "TapCascadeModel" "draft" "[I") (by decide +kernel)
  have k103 := hts (.fieldLink RX8 103 "TapCascadeModel" "undos" "I") (by decide +kernel)
  have k13 := hts (.fieldLink RX8 13 "TapCascadeModel" "s" "[I") (by decide +kernel)
  unfold f_X8_lay at hF
  refine lv_aload_n hx hb dX8_lay_0 rfl (lv_at hl 0 rfl) ?_
  refine lv_iconst (v := 0) hx hb dX8_lay_1 (by decide) ?_
  refine z_puti (ci := 8) (C := RX8) (T := TX8) (N := 24) (fs := (zMo a m0 m1 m2 m3 m4 m5 m6 m7 m8 m9)) (x := 0) (wf := (fun y => (wMo cy a y m1 m2 m3 m4 m5 m6 m7 m8 m9 mb ms md mp mf mi mo mw mn mk mt mq mz me))) hx hb hts iX8 tyX8 tyX8_ok nmX8 hown hK hP hD hS _ 0 (wMo_foc0_0 cy a m0 m1 m2 m3 m4 m5 m6 m7 m8 m9 mb ms md mp mf mi mo mw mn mk mt mq mz me 0) rfl (by decide) k59 (fun _ h9 => h9) rfl (by decide +kernel) (Nat.le_of_ble_eq_true rfl) hF dX8_lay_2 (fun m_1 hF H locs hP hD hS => ?_)
  refine lv_aload_n hx hb dX8_lay_5 rfl (lv_at hl 0 rfl) ?_
  refine z_cVi (b := a 0) (As := []) (rest := []) (wc := (wMo cy a m_1 m1 m2 m3 m4 m5 m6 m7 m8 m9 mb ms md mp mf mi mo mw mn mk mt mq mz me)) (wcf := fun o' => (wMo cy a m_1 m1 m2 o'.2.1 o'.2.2.1 m5 m6 m7 m8 m9 mb ms o'.2.2.2 mp mf mi mo mw mn mk mt mq mz me)) (wf := fun o' => (wMo cy a m_1 m1 m2 o'.2.1 o'.2.2.1 m5 m6 m7 m8 m9 mb ms o'.2.2.2 mp mf mi mo mw mn mk mt mq mz me)) (rf := fun o' => o'.1) hF (fun o' hz => c_X8_reads l G cy st a m_1 m1 m2 m3 m4 m5 m6 m7 m8 m9 mb ms md mp mf mi mo mw mn mk mt mq mz me o' hz) (fun o' => zCut_all) ⟨hx, hb, hml, hown, hts⟩ (cwV 0 hts gX8_lay_X8_reads rfl rfl rfl (by decide +kernel) ⟨by decide, by decide⟩) (ci := 8) (q0 := 0) rfl (wMo_at0 cy a m_1 m1 m2 m3 m4 m5 m6 m7 m8 m9 mb ms md mp mf mi mo mw mn mk mt mq mz me) hK hSE hA hP hD hS rfl hl.1 rfl (Nat.le_of_ble_eq_true rfl) dX8_lay_6 ⟨Nat.le_refl _, Nat.le_refl _⟩ (fun o2 hF H locs hP hD hS => ?_)
  refine z_leti hF (fun x3 hF => ?_)
  refine z_nameW (wf := (fun y => (wMo cy a m_1 m1 m2 y o2.2.2.1 m5 m6 m7 m8 m9 mb ms o2.2.2.2 mp mf mi mo mw mn mk mt mq mz me))) hF hP hD (fun m_4 hF hP hD => ?_)
  refine z_nameW (wf := (fun y => (wMo cy a m_1 m1 m2 m_4 y m5 m6 m7 m8 m9 mb ms o2.2.2.2 mp mf mi mo mw mn mk mt mq mz me))) hF hP hD (fun m_5 hF hP hD => ?_)
  refine z_nameW (wf := (fun y => (wMo cy a m_1 m1 m2 m_4 m_5 m5 m6 m7 m8 m9 mb ms y mp mf mi mo mw mn mk mt mq mz me))) hF hP hD (fun md_6 hF hP hD => ?_)
  refine lv_bipush (v := (-4)) hx hb dX8_lay_9 (by decide) ?_
  refine zi_ne (tgt := 23) hx hb hF dX8_lay_11 (by decide) (fun hF => ?_) (fun hF => ?_)
  · refine lv_bipush (v := (-2)) hx hb dX8_lay_23 (by decide) ?_
    refine z_iret (o := o) (o1 := ((-2), m_1, m2, m_4, m_5, ms, md_6)) (v := (-2)) (wf := (fun o => (wMo cy a o.2.1 m1 o.2.2.1 o.2.2.2.1 o.2.2.2.2.1 m5 m6 m7 m8 m9 mb o.2.2.2.2.2.1 o.2.2.2.2.2.2 mp mf mi mo mw mn mk mt mq mz me))) (rf := fun o => o.1) hx hb hr hlocks hK ?_ ?_ hS ?_ rfl dX8_lay_25
    · exact hP
    · exact hD
    · exact hF
  · refine lv_aload_n hx hb dX8_lay_14 rfl (lv_at hl 0 rfl) ?_
    refine va_get (ci := 8) (C := RX8) (T := TX8) (N := 24) (fs := (zMo a m_1 m1 m2 m_4 m_5 m5 m6 m7 m8 m9)) (v := .ref (a 3)) hx hb hts iX8 hown hK hP _ (wMo_at0 cy a m_1 m1 m2 m_4 m_5 m5 m6 m7 m8 m9 mb ms md_6 mp mf mi mo mw mn mk mt mq mz me) rfl 4 (by decide) k17 (fun _ h9 => h9) rfl dX8_lay_15 ?_
    refine lv_iconst (v := 0) hx hb dX8_lay_18 (by decide) ?_
    refine z_iald (n := 114) (f := md_6) hx hb hK hP _ 1 (wMo_at3 cy a m_1 m1 m2 m_4 m_5 m5 m6 m7 m8 m9 mb ms md_6 mp mf mi mo mw mn mk mt mq mz me) rfl hF dX8_lay_19 (fun hF => ?_)
    refine zf_ne (tgt := 26) hx hb hF dX8_lay_20 (by decide) (fun hF => ?_) (fun hF => ?_)
    · refine lv_iconst (v := 0) hx hb dX8_lay_26 (by decide) ?_
      refine lv_istore_n (lv' := [(1, .int 0), (0, .ref (a 0))]) hx hb dX8_lay_27 rfl hl (by decide) rfl (fun ls hl => ?_)
      have J72 : ∀ (ms_7 : Nat → Int32) (H : Heap) (locs : List Loc) (ls : Array Slot), va_P G vwCl (wMo cy a m_1 m1 m2 m_4 m_5 m5 m6 m7 m8 m9 mb ms_7 md_6 mp mf mi mo mw mn mk mt mq mz me) H → va_D A (wMo cy a m_1 m1 m2 m_4 m_5 m5 m6 m7 m8 m9 mb ms_7 md_6 mp mf mi mo mw mn mk mt mq mz me) → va_S A s.heap H locs → lv_has ls 2 [(0, .ref (a 0))] → j_X8_lay_72 m_1 m_4 m_5 md_6 ms_7 = some o → W p l e (zR 5) s m ([.ref (a 0)] : List Value).toArray below meth c H locs 0 0 (MQ below (zQi G cy A (wMo cy a o.2.1 m1 o.2.2.1 o.2.2.2.1 o.2.2.2.2.1 m5 m6 m7 m8 m9 mb o.2.2.2.2.2.1 o.2.2.2.2.2.2 mp mf mi mo mw mn mk mt mq mz me) o.1) ([.ref (a 0)] : List Value).toArray s 0 0 A) (F0 m 72 ls []) := by
        intro ms_7 H locs ls hP hD hS hl hF
        unfold j_X8_lay_72 at hF
        refine lv_aload_n hx hb dX8_lay_72 rfl (lv_at hl 0 rfl) ?_
        refine lv_iconst (v := 0) hx hb dX8_lay_73 (by decide) ?_
        refine z_puti (ci := 8) (C := RX8) (T := TX8) (N := 24) (fs := (zMo a m_1 m1 m2 m_4 m_5 m5 m6 m7 m8 m9)) (x := 0) (wf := (fun y => (wMo cy a m_1 m1 y m_4 m_5 m5 m6 m7 m8 m9 mb ms_7 md_6 mp mf mi mo mw mn mk mt mq mz me))) hx hb hts iX8 tyX8 tyX8_ok nmX8 hown hK hP hD hS _ 6 (wMo_foc0_6 cy a m_1 m1 m2 m_4 m_5 m5 m6 m7 m8 m9 mb ms_7 md_6 mp mf mi mo mw mn mk mt mq mz me 0) rfl (by decide) k103 (fun _ h9 => h9) rfl (by decide +kernel) (Nat.le_of_ble_eq_true rfl) hF dX8_lay_74 (fun m_8 hF H locs hP hD hS => ?_)
        refine lv_aload_n hx hb dX8_lay_77 rfl (lv_at hl 0 rfl) ?_
        refine va_get (ci := 8) (C := RX8) (T := TX8) (N := 24) (fs := (zMo a m_1 m1 m_8 m_4 m_5 m5 m6 m7 m8 m9)) (v := .ref (a 2)) hx hb hts iX8 hown hK hP _ (wMo_at0 cy a m_1 m1 m_8 m_4 m_5 m5 m6 m7 m8 m9 mb ms_7 md_6 mp mf mi mo mw mn mk mt mq mz me) rfl 3 (by decide) k13 (fun _ h9 => h9) rfl dX8_lay_78 ?_
        refine lv_iconst (v := 0) hx hb dX8_lay_81 (by decide) ?_
        refine z_iald (n := 114) (f := ms_7) hx hb hK hP _ 1 (wMo_at2 cy a m_1 m1 m_8 m_4 m_5 m5 m6 m7 m8 m9 mb ms_7 md_6 mp mf mi mo mw mn mk mt mq mz me) rfl hF dX8_lay_82 (fun hF => ?_)
        refine z_iret (o := o) (o1 := ((ms_7 (zn 0)), m_1, m_8, m_4, m_5, ms_7, md_6)) (v := (ms_7 (zn 0))) (wf := (fun o => (wMo cy a o.2.1 m1 o.2.2.1 o.2.2.2.1 o.2.2.2.2.1 m5 m6 m7 m8 m9 mb o.2.2.2.2.2.1 o.2.2.2.2.2.2 mp mf mi mo mw mn mk mt mq mz me))) (rf := fun o => o.1) hx hb hr hlocks hK ?_ ?_ hS ?_ rfl dX8_lay_83
        · exact hP
        · exact hD
        · exact hF
      have L28 : ∀ (n : Nat) (s28 : Int32 × (Nat → Int32)) (H : Heap) (locs : List Loc) (ls : Array Slot), va_P G vwCl (wMo cy a m_1 m1 m2 m_4 m_5 m5 m6 m7 m8 m9 mb s28.2 md_6 mp mf mi mo mw mn mk mt mq mz me) H → va_D A (wMo cy a m_1 m1 m2 m_4 m_5 m5 m6 m7 m8 m9 mb s28.2 md_6 mp mf mi mo mw mn mk mt mq mz me) → va_S A s.heap H locs → lv_has ls 2 [(0, .ref (a 0)), (1, .int s28.1)] → zloop (b_X8_lay_28 m_1 m_4 m_5 md_6) n s28 = some o → W p l e (zR 5) s m ([.ref (a 0)] : List Value).toArray below meth c H locs 0 0 (MQ below (zQi G cy A (wMo cy a o.2.1 m1 o.2.2.1 o.2.2.2.1 o.2.2.2.2.1 m5 m6 m7 m8 m9 mb o.2.2.2.2.2.1 o.2.2.2.2.2.2 mp mf mi mo mw mn mk mt mq mz me) o.1) ([.ref (a 0)] : List Value).toArray s 0 0 A) (F0 m 28 ls []) := by
        intro n
        induction n with
        | zero => exact fun s28 H locs ls _ _ _ _ hF => (zloop_0 hF).elim
        | succ n ih28 =>
          intro s28 H locs ls hP hD hS hl hF
          have hF : b_X8_lay_28 m_1 m_4 m_5 md_6 (zloop (b_X8_lay_28 m_1 m_4 m_5 md_6) n) s28 = some o := hF
          generalize zloop (b_X8_lay_28 m_1 m_4 m_5 md_6) n = rc28 at ih28 hF
          unfold b_X8_lay_28 at hF
          refine lv_iload_n hx hb dX8_lay_28 rfl (lv_at hl 1 rfl) ?_
          refine lv_bipush (v := 114) hx hb dX8_lay_29 (by decide) ?_
          refine zi_ge (tgt := 72) hx hb hF dX8_lay_31 (by decide) (fun hF => ?_) (fun hF => ?_)
          · exact J72 s28.2 _ _ ls hP hD hS (lv_sub hl [0] rfl) hF
          · refine lv_aload_n hx hb dX8_lay_34 rfl (lv_at hl 0 rfl) ?_
            refine va_get (ci := 8) (C := RX8) (T := TX8) (N := 24) (fs := (zMo a m_1 m1 m2 m_4 m_5 m5 m6 m7 m8 m9)) (v := .ref (a 2)) hx hb hts iX8 hown hK hP _ (wMo_at0 cy a m_1 m1 m2 m_4 m_5 m5 m6 m7 m8 m9 mb s28.2 md_6 mp mf mi mo mw mn mk mt mq mz me) rfl 3 (by decide) k13 (fun _ h9 => h9) rfl dX8_lay_35 ?_
            refine lv_iload_n hx hb dX8_lay_38 rfl (lv_at hl 1 rfl) ?_
            refine lv_iload_n hx hb dX8_lay_39 rfl (lv_at hl 1 rfl) ?_
            refine lv_bipush (v := 6) hx hb dX8_lay_40 (by decide) ?_
            refine lv_bipush (v := 12) hx hb dX8_lay_42 (by decide) ?_
            refine lv_aload_n hx hb dX8_lay_44 rfl (lv_at hl 0 rfl) ?_
            refine va_get (ci := 8) (C := RX8) (T := TX8) (N := 24) (fs := (zMo a m_1 m1 m2 m_4 m_5 m5 m6 m7 m8 m9)) (v := .ref (a 3)) hx hb hts iX8 hown hK hP _ (wMo_at0 cy a m_1 m1 m2 m_4 m_5 m5 m6 m7 m8 m9 mb s28.2 md_6 mp mf mi mo mw mn mk mt mq mz me) rfl 4 (by decide) k17 (fun _ h9 => h9) rfl dX8_lay_45 ?_
            refine lv_iconst (v := 0) hx hb dX8_lay_48 (by decide) ?_
            refine z_iald (n := 114) (f := md_6) hx hb hK hP _ 1 (wMo_at3 cy a m_1 m1 m2 m_4 m_5 m5 m6 m7 m8 m9 mb s28.2 md_6 mp mf mi mo mw mn mk mt mq mz me) rfl hF dX8_lay_49 (fun hF => ?_)
            refine lv_imul hx hb dX8_lay_50 ?_
            refine lv_iadd hx hb dX8_lay_51 ?_
            have J65 : ∀ (t9 : Int32) (H : Heap) (locs : List Loc) (ls : Array Slot), va_P G vwCl (wMo cy a m_1 m1 m2 m_4 m_5 m5 m6 m7 m8 m9 mb s28.2 md_6 mp mf mi mo mw mn mk mt mq mz me) H → va_D A (wMo cy a m_1 m1 m2 m_4 m_5 m5 m6 m7 m8 m9 mb s28.2 md_6 mp mf mi mo mw mn mk mt mq mz me) → va_S A s.heap H locs → lv_has ls 2 [(0, .ref (a 0)), (1, .int s28.1)] → j_X8_lay_65 rc28 s28 t9 = some o → W p l e (zR 5) s m ([.ref (a 0)] : List Value).toArray below meth c H locs 0 0 (MQ below (zQi G cy A (wMo cy a o.2.1 m1 o.2.2.1 o.2.2.2.1 o.2.2.2.2.1 m5 m6 m7 m8 m9 mb o.2.2.2.2.2.1 o.2.2.2.2.2.2 mp mf mi mo mw mn mk mt mq mz me) o.1) ([.ref (a 0)] : List Value).toArray s 0 0 A) (F0 m 65 ls [.int t9, .int s28.1, .ref (a 2)]) := by
              intro t9 H locs ls hP hD hS hl hF
              unfold j_X8_lay_65 at hF
              refine z_iast (n := 114) (f := s28.2) (i := s28.1) (x := t9) (wf := (fun y => (wMo cy a m_1 m1 m2 m_4 m_5 m5 m6 m7 m8 m9 mb y md_6 mp mf mi mo mw mn mk mt mq mz me))) hx hb hK hP hD hS _ 1 (wMo_foc2 cy a m_1 m1 m2 m_4 m_5 m5 m6 m7 m8 m9 mb s28.2 md_6 mp mf mi mo mw mn mk mt mq mz me _) rfl hF dX8_lay_65 (fun ms_10 hF H locs hP hD hS => ?_)
              refine z_name hF (fun x11 ex11 hF => ?_)
              refine lv_iinc (v := x11) (lv' := [(1, .int x11), (0, .ref (a 0))]) hx hb dX8_lay_66 hl (k := 1) rfl (by rw [ex11]; rfl) (by decide) rfl (fun ls hl => ?_)
              refine lv_goto (tgt := 28) hx hb dX8_lay_69 (by decide) ?_
              exact ih28 (x11, ms_10) _ _ ls hP hD hS (lv_sub hl [1, 0] rfl) hF
            refine zi_ge (tgt := 64) hx hb hF dX8_lay_52 (by decide) (fun hF => ?_) (fun hF => ?_)
            · refine lv_iconst (v := 0) hx hb dX8_lay_64 (by decide) ?_
              exact J65 0 _ _ ls hP hD hS (lv_sub hl [0, 1] rfl) hF
            · refine lv_aload_n hx hb dX8_lay_55 rfl (lv_at hl 0 rfl) ?_
              refine va_get (ci := 8) (C := RX8) (T := TX8) (N := 24) (fs := (zMo a m_1 m1 m2 m_4 m_5 m5 m6 m7 m8 m9)) (v := .ref (a 3)) hx hb hts iX8 hown hK hP _ (wMo_at0 cy a m_1 m1 m2 m_4 m_5 m5 m6 m7 m8 m9 mb s28.2 md_6 mp mf mi mo mw mn mk mt mq mz me) rfl 4 (by decide) k17 (fun _ h9 => h9) rfl dX8_lay_56 ?_
              refine lv_iload_n hx hb dX8_lay_59 rfl (lv_at hl 1 rfl) ?_
              refine z_iald (n := 114) (f := md_6) hx hb hK hP _ 1 (wMo_at3 cy a m_1 m1 m2 m_4 m_5 m5 m6 m7 m8 m9 mb s28.2 md_6 mp mf mi mo mw mn mk mt mq mz me) rfl hF dX8_lay_60 (fun hF => ?_)
              refine lv_goto (tgt := 65) hx hb dX8_lay_61 (by decide) ?_
              exact J65 (md_6 (zn s28.1)) _ _ ls hP hD hS (lv_sub hl [0, 1] rfl) hF
      exact L28 1000 (0, ms) _ _ ls hP hD hS (lv_sub hl [1, 0] rfl) hF
    · refine lv_bipush (v := (-2)) hx hb dX8_lay_23 (by decide) ?_
      refine z_iret (o := o) (o1 := ((-2), m_1, m2, m_4, m_5, ms, md_6)) (v := (-2)) (wf := (fun o => (wMo cy a o.2.1 m1 o.2.2.1 o.2.2.2.1 o.2.2.2.2.1 m5 m6 m7 m8 m9 mb o.2.2.2.2.2.1 o.2.2.2.2.2.2 mp mf mi mo mw mn mk mt mq mz me))) (rf := fun o => o.1) hx hb hr hlocks hK ?_ ?_ hS ?_ rfl dX8_lay_25
      · exact hP
      · exact hD
      · exact hF
def f_X8_isStage (ms : Nat → Int32) (x01 : Int32) : Option (Int32) :=
zg (zin 0 114) (
zbd (f_X8_in x01 0 ((ms (zn 0)) - 1)) fun o1 =>
zg (zbo o1) (some o1))
set_option maxHeartbeats 4000000 in
set_option maxRecDepth 100000 in
theorem c_X8_isStage (l : Launch) (G : va_G) (cy : Nat → ClassId) (st : Nat → Nat) (a : Nat → Nat) (m0 : Int32) (m1 : Int32) (m2 : Int32) (m3 : Int32) (m4 : Int32) (m5 : Int32) (m6 : Int32) (m7 : Int32) (m8 : Int32) (m9 : Int32) (mb : Nat → Int32) (ms : Nat → Int32) (md : Nat → Int32) (mp : Nat → Int32) (mf : Nat → Int32) (mi : Nat → Int32) (mo : Nat → Int32) (mw : Nat → Int32) (mn : Nat → Int32) (mk : Nat → Int32) (mt : Nat → Int64) (mq : Nat → Int32) (mz : Nat → Int32) (me : Nat → Int32) (x01 : Int32) (o : Int32) (hF : f_X8_isStage ms x01 = some o) : zMi l yX8_isStage wsX8_isStage (zR 2) G cy st [.ref (a 0), .int x01] (wMo cy a m0 m1 m2 m3 m4 m5 m6 m7 m8 m9 mb ms md mp mf mi mo mw mn mk mt mq mz me) (wMo cy a m0 m1 m2 m3 m4 m5 m6 m7 m8 m9 mb ms md mp mf mi mo mw mn mk mt mq mz me) o := by
  refine zM_of (cc := cX8_isStage) (maxL := 2) (ret := (some .boolean)) (Qc := fun A => zQi G cy A (wMo cy a m0 m1 m2 m3 m4 m5 m6 m7 m8 m9 mb ms md mp mf mi mo mw mn mk mt mq mz me) o) (by decide) rfl (Nat.le_of_ble_eq_true rfl) ?_
  intro p e s m below meth c A ls hx hb hml hr hlocks hown hts hK hSE hA hP hD hS hl
  have hown : s.vm.findClass RX8 = some m.cls := hown
  have hl : lv_has ls 2 [(0, .ref (a 0)), (1, .int x01)] := hl
  have k13 := hts (.fieldLink RX8 13 "TapCascadeModel" "s" "[I") (by decide +kernel)
  have iX8 : ∀ w ∈ wsX80, w ∈ wsX8_isStage := fun w h => List.mem_cons_of_mem _ (List.mem_append_right _ h)
  unfold f_X8_isStage at hF
  refine lv_iload_n hx hb dX8_isStage_0 rfl (lv_at hl 1 rfl) ?_
  refine lv_iconst (v := 0) hx hb dX8_isStage_1 (by decide) ?_
  refine lv_aload_n hx hb dX8_isStage_2 rfl (lv_at hl 0 rfl) ?_
  refine va_get (ci := 8) (C := RX8) (T := TX8) (N := 24) (fs := (zMo a m0 m1 m2 m3 m4 m5 m6 m7 m8 m9)) (v := .ref (a 2)) hx hb hts iX8 hown hK hP _ (wMo_at0 cy a m0 m1 m2 m3 m4 m5 m6 m7 m8 m9 mb ms md mp mf mi mo mw mn mk mt mq mz me) rfl 3 (by decide) k13 (fun _ h9 => h9) rfl dX8_isStage_3 ?_
  refine lv_iconst (v := 0) hx hb dX8_isStage_6 (by decide) ?_
  refine z_iald (n := 114) (f := ms) hx hb hK hP _ 1 (wMo_at2 cy a m0 m1 m2 m3 m4 m5 m6 m7 m8 m9 mb ms md mp mf mi mo mw mn mk mt mq mz me) rfl hF dX8_isStage_7 (fun hF => ?_)
  refine lv_iconst (v := 1) hx hb dX8_isStage_8 (by decide) ?_
  refine lv_isub hx hb dX8_isStage_9 ?_
  refine z_cSi (As := [.int x01, .int 0, .int ((ms (zn 0)) - 1)]) (rest := []) (wc := ([] : va_W)) (wcf := fun o' => ([] : va_W)) (wf := fun o' => (wMo cy a m0 m1 m2 m3 m4 m5 m6 m7 m8 m9 mb ms md mp mf mi mo mw mn mk mt mq mz me)) (rf := fun o' => o') hF (fun o' hz => c_X8_in l G cy st x01 0 ((ms (zn 0)) - 1) o' hz) (fun o' => zCut_nil) ⟨hx, hb, hml, hown, hts⟩ (va_cwS 3 hts gX8_isStage_X8_in rfl rfl rfl (by decide +kernel) ⟨by decide, by decide⟩) hK hSE hA hP hD hS rfl hl.1 rfl (Nat.le_of_ble_eq_true rfl) dX8_isStage_10 ⟨Nat.le_refl _, Nat.le_refl _⟩ (fun o1 hF H locs hP hD hS => ?_)
  obtain ⟨g2, hF⟩ := zg_some hF
  refine z_zret (o := o) (o1 := o1) (v := o1) (wf := (fun o => (wMo cy a m0 m1 m2 m3 m4 m5 m6 m7 m8 m9 mb ms md mp mf mi mo mw mn mk mt mq mz me))) (rf := fun o => o) hx hb hr hlocks hK ?_ ?_ hS ?_ rfl (zbo_n g2) dX8_isStage_13
  · exact hP
  · exact hD
  · exact hF
def f_X8_of (ms : Nat → Int32) (x01 : Int32) (x02 : Int32) : Option (Int32) :=
zg (zin ((6 + (12 * x01)) + x02) 114) (
some (ms (zn ((6 + (12 * x01)) + x02))))
set_option maxHeartbeats 4000000 in
set_option maxRecDepth 100000 in
theorem c_X8_of (l : Launch) (G : va_G) (cy : Nat → ClassId) (st : Nat → Nat) (a : Nat → Nat) (m0 : Int32) (m1 : Int32) (m2 : Int32) (m3 : Int32) (m4 : Int32) (m5 : Int32) (m6 : Int32) (m7 : Int32) (m8 : Int32) (m9 : Int32) (mb : Nat → Int32) (ms : Nat → Int32) (md : Nat → Int32) (mp : Nat → Int32) (mf : Nat → Int32) (mi : Nat → Int32) (mo : Nat → Int32) (mw : Nat → Int32) (mn : Nat → Int32) (mk : Nat → Int32) (mt : Nat → Int64) (mq : Nat → Int32) (mz : Nat → Int32) (me : Nat → Int32) (x01 : Int32) (x02 : Int32) (o : Int32) (hF : f_X8_of ms x01 x02 = some o) : zMi l yX8_of wsX8_of (zR 1) G cy st [.ref (a 0), .int x01, .int x02] (wMo cy a m0 m1 m2 m3 m4 m5 m6 m7 m8 m9 mb ms md mp mf mi mo mw mn mk mt mq mz me) (wMo cy a m0 m1 m2 m3 m4 m5 m6 m7 m8 m9 mb ms md mp mf mi mo mw mn mk mt mq mz me) o := by
  refine zM_of (cc := cX8_of) (maxL := 3) (ret := (some .int)) (Qc := fun A => zQi G cy A (wMo cy a m0 m1 m2 m3 m4 m5 m6 m7 m8 m9 mb ms md mp mf mi mo mw mn mk mt mq mz me) o) (by decide) rfl (Nat.le_of_ble_eq_true rfl) ?_
  intro p e s m below meth c A ls hx hb hml hr hlocks hown hts hK hSE hA hP hD hS hl
  have hown : s.vm.findClass RX8 = some m.cls := hown
  have hl : lv_has ls 3 [(0, .ref (a 0)), (1, .int x01), (2, .int x02)] := hl
  have k13 := hts (.fieldLink RX8 13 "TapCascadeModel" "s" "[I") (by decide +kernel)
  have iX8 : ∀ w ∈ wsX80, w ∈ wsX8_of := fun w h => List.mem_cons_of_mem _ (List.mem_append_right _ h)
  unfold f_X8_of at hF
  refine lv_aload_n hx hb dX8_of_0 rfl (lv_at hl 0 rfl) ?_
  refine va_get (ci := 8) (C := RX8) (T := TX8) (N := 24) (fs := (zMo a m0 m1 m2 m3 m4 m5 m6 m7 m8 m9)) (v := .ref (a 2)) hx hb hts iX8 hown hK hP _ (wMo_at0 cy a m0 m1 m2 m3 m4 m5 m6 m7 m8 m9 mb ms md mp mf mi mo mw mn mk mt mq mz me) rfl 3 (by decide) k13 (fun _ h9 => h9) rfl dX8_of_1 ?_
  refine lv_bipush (v := 6) hx hb dX8_of_4 (by decide) ?_
  refine lv_bipush (v := 12) hx hb dX8_of_6 (by decide) ?_
  refine lv_iload_n hx hb dX8_of_8 rfl (lv_at hl 1 rfl) ?_
  refine lv_imul hx hb dX8_of_9 ?_
  refine lv_iadd hx hb dX8_of_10 ?_
  refine lv_iload_n hx hb dX8_of_11 rfl (lv_at hl 2 rfl) ?_
  refine lv_iadd hx hb dX8_of_12 ?_
  refine z_iald (n := 114) (f := ms) hx hb hK hP _ 1 (wMo_at2 cy a m0 m1 m2 m3 m4 m5 m6 m7 m8 m9 mb ms md mp mf mi mo mw mn mk mt mq mz me) rfl hF dX8_of_13 (fun hF => ?_)
  refine z_iret (o := o) (o1 := (ms (zn ((6 + (12 * x01)) + x02)))) (v := (ms (zn ((6 + (12 * x01)) + x02)))) (wf := (fun o => (wMo cy a m0 m1 m2 m3 m4 m5 m6 m7 m8 m9 mb ms md mp mf mi mo mw mn mk mt mq mz me))) (rf := fun o => o) hx hb hr hlocks hK ?_ ?_ hS ?_ rfl dX8_of_14
  · exact hP
  · exact hD
  · exact hF
def f_X8_puts (ms : Nat → Int32) (x01 : Int32) (x02 : Int32) (x03 : Int32) : Option ((Nat → Int32)) :=
zg (zin ((6 + (12 * x01)) + x02) 114) (
zlet (upd ms (zn ((6 + (12 * x01)) + x02)) x03) fun ms_1 =>
some ms_1)
set_option maxHeartbeats 4000000 in
set_option maxRecDepth 100000 in
theorem c_X8_puts (l : Launch) (G : va_G) (cy : Nat → ClassId) (st : Nat → Nat) (a : Nat → Nat) (m0 : Int32) (m1 : Int32) (m2 : Int32) (m3 : Int32) (m4 : Int32) (m5 : Int32) (m6 : Int32) (m7 : Int32) (m8 : Int32) (m9 : Int32) (mb : Nat → Int32) (ms : Nat → Int32) (md : Nat → Int32) (mp : Nat → Int32) (mf : Nat → Int32) (mi : Nat → Int32) (mo : Nat → Int32) (mw : Nat → Int32) (mn : Nat → Int32) (mk : Nat → Int32) (mt : Nat → Int64) (mq : Nat → Int32) (mz : Nat → Int32) (me : Nat → Int32) (x01 : Int32) (x02 : Int32) (x03 : Int32) (o : (Nat → Int32)) (hF : f_X8_puts ms x01 x02 x03 = some o) : zMv l yX8_puts wsX8_puts (zR 1) G cy st [.ref (a 0), .int x01, .int x02, .int x03] (wMo cy a m0 m1 m2 m3 m4 m5 m6 m7 m8 m9 mb ms md mp mf mi mo mw mn mk mt mq mz me) (wMo cy a m0 m1 m2 m3 m4 m5 m6 m7 m8 m9 mb o md mp mf mi mo mw mn mk mt mq mz me) := by
  refine zM_of (cc := cX8_puts) (maxL := 4) (ret := none) (Qc := fun A => zQv G cy A (wMo cy a m0 m1 m2 m3 m4 m5 m6 m7 m8 m9 mb o md mp mf mi mo mw mn mk mt mq mz me)) (by decide) rfl (Nat.le_of_ble_eq_true rfl) ?_
  intro p e s m below meth c A ls hx hb hml hr hlocks hown hts hK hSE hA hP hD hS hl
  have hown : s.vm.findClass RX8 = some m.cls := hown
  have hl : lv_has ls 4 [(0, .ref (a 0)), (1, .int x01), (2, .int x02), (3, .int x03)] := hl
  have k13 := hts (.fieldLink RX8 13 "TapCascadeModel" "s" "[I") (by decide +kernel)
  have iX8 : ∀ w ∈ wsX80, w ∈ wsX8_puts := fun w h => List.mem_cons_of_mem _ (List.mem_append_right _ h)
  unfold f_X8_puts at hF
  refine lv_aload_n hx hb dX8_puts_0 rfl (lv_at hl 0 rfl) ?_
  refine va_get (ci := 8) (C := RX8) (T := TX8) (N := 24) (fs := (zMo a m0 m1 m2 m3 m4 m5 m6 m7 m8 m9)) (v := .ref (a 2)) hx hb hts iX8 hown hK hP _ (wMo_at0 cy a m0 m1 m2 m3 m4 m5 m6 m7 m8 m9 mb ms md mp mf mi mo mw mn mk mt mq mz me) rfl 3 (by decide) k13 (fun _ h9 => h9) rfl dX8_puts_1 ?_
  refine lv_bipush (v := 6) hx hb dX8_puts_4 (by decide) ?_
  refine lv_bipush (v := 12) hx hb dX8_puts_6 (by decide) ?_
  refine lv_iload_n hx hb dX8_puts_8 rfl (lv_at hl 1 rfl) ?_
  refine lv_imul hx hb dX8_puts_9 ?_
  refine lv_iadd hx hb dX8_puts_10 ?_
  refine lv_iload_n hx hb dX8_puts_11 rfl (lv_at hl 2 rfl) ?_
  refine lv_iadd hx hb dX8_puts_12 ?_
  refine lv_iload_n hx hb dX8_puts_13 rfl (lv_at hl 3 rfl) ?_
  refine z_iast (n := 114) (f := ms) (i := ((6 + (12 * x01)) + x02)) (x := x03) (wf := (fun y => (wMo cy a m0 m1 m2 m3 m4 m5 m6 m7 m8 m9 mb y md mp mf mi mo mw mn mk mt mq mz me))) hx hb hK hP hD hS _ 1 (wMo_foc2 cy a m0 m1 m2 m3 m4 m5 m6 m7 m8 m9 mb ms md mp mf mi mo mw mn mk mt mq mz me _) rfl hF dX8_puts_14 (fun ms_1 hF H locs hP hD hS => ?_)
  refine z_vret (o := o) (o1 := ms_1) (wf := (fun o => (wMo cy a m0 m1 m2 m3 m4 m5 m6 m7 m8 m9 mb o md mp mf mi mo mw mn mk mt mq mz me))) hx hb hr hlocks hK ?_ ?_ hS ?_ dX8_puts_15
  · exact hP
  · exact hD
  · exact hF
def f_X8_way (x01 : Int32) : Option (Int32) :=
if x01 = (1 : Int32) then (
some 1) else (
if x01 = (2 : Int32) then (
some (-1)) else (
some 0))
set_option maxHeartbeats 4000000 in
set_option maxRecDepth 100000 in
theorem c_X8_way (l : Launch) (G : va_G) (cy : Nat → ClassId) (st : Nat → Nat) (x01 : Int32) (o : Int32) (hF : f_X8_way x01 = some o) : zMi l yX8_way wsX8_way (zR 1) G cy st [.int x01] ([] : va_W) ([] : va_W) o := by
  refine zM_of (cc := cX8_way) (maxL := 1) (ret := (some .int)) (Qc := fun A => zQi G cy A ([] : va_W) o) (by decide) rfl (Nat.le_of_ble_eq_true rfl) ?_
  intro p e s m below meth c A ls hx hb hml hr hlocks hown hts hK hSE hA hP hD hS hl
  have hown : s.vm.findClass RX8 = some m.cls := hown
  have hl : lv_has ls 1 [(0, .int x01)] := hl
  unfold f_X8_way at hF
  refine lv_iload_n hx hb dX8_way_0 rfl (lv_at hl 0 rfl) ?_
  refine lv_iconst (v := 1) hx hb dX8_way_1 (by decide) ?_
  refine zi_ne (tgt := 9) hx hb hF dX8_way_2 (by decide) (fun hF => ?_) (fun hF => ?_)
  · refine lv_iload_n hx hb dX8_way_9 rfl (lv_at hl 0 rfl) ?_
    refine lv_iconst (v := 2) hx hb dX8_way_10 (by decide) ?_
    refine zi_ne (tgt := 18) hx hb hF dX8_way_11 (by decide) (fun hF => ?_) (fun hF => ?_)
    · refine lv_iconst (v := 0) hx hb dX8_way_18 (by decide) ?_
      refine z_iret (o := o) (o1 := 0) (v := 0) (wf := (fun o => ([] : va_W))) (rf := fun o => o) hx hb hr hlocks hK ?_ ?_ hS ?_ rfl dX8_way_19
      · exact hP
      · exact hD
      · exact hF
    · refine lv_iconst (v := (-1)) hx hb dX8_way_14 (by decide) ?_
      refine lv_goto (tgt := 19) hx hb dX8_way_15 (by decide) ?_
      refine z_iret (o := o) (o1 := (-1)) (v := (-1)) (wf := (fun o => ([] : va_W))) (rf := fun o => o) hx hb hr hlocks hK ?_ ?_ hS ?_ rfl dX8_way_19
      · exact hP
      · exact hD
      · exact hF
  · refine lv_iconst (v := 1) hx hb dX8_way_5 (by decide) ?_
    refine lv_goto (tgt := 19) hx hb dX8_way_6 (by decide) ?_
    refine z_iret (o := o) (o1 := 1) (v := 1) (wf := (fun o => ([] : va_W))) (rf := fun o => o) hx hb hr hlocks hK ?_ ?_ hS ?_ rfl dX8_way_19
    · exact hP
    · exact hD
    · exact hF
def f_X8_goodOf (ms : Nat → Int32) (mo : Nat → Int32) (x01 : Int32) : Option (Int32) :=
zg (zin x01 4) (
zbd (f_X8_of ms x01 1) fun o1 =>
zbd (f_X8_of ms x01 2) fun o2 =>
if (o1 - o2) ≤ (mo (zn x01)) then (
zg (zin x01 4) (
zbd (f_X8_of ms x01 1) fun o3 =>
zbd (f_X8_of ms x01 2) fun o4 =>
if (mo (zn x01)) ≤ (o3 + o4) then (
some 0) else (
some 2))) else (
some 1))
set_option maxHeartbeats 4000000 in
set_option maxRecDepth 100000 in
theorem c_X8_goodOf (l : Launch) (G : va_G) (cy : Nat → ClassId) (st : Nat → Nat) (a : Nat → Nat) (m0 : Int32) (m1 : Int32) (m2 : Int32) (m3 : Int32) (m4 : Int32) (m5 : Int32) (m6 : Int32) (m7 : Int32) (m8 : Int32) (m9 : Int32) (mb : Nat → Int32) (ms : Nat → Int32) (md : Nat → Int32) (mp : Nat → Int32) (mf : Nat → Int32) (mi : Nat → Int32) (mo : Nat → Int32) (mw : Nat → Int32) (mn : Nat → Int32) (mk : Nat → Int32) (mt : Nat → Int64) (mq : Nat → Int32) (mz : Nat → Int32) (me : Nat → Int32) (x01 : Int32) (o : Int32) (hF : f_X8_goodOf ms mo x01 = some o) : zMi l yX8_goodOf wsX8_goodOf (zR 2) G cy st [.ref (a 0), .int x01] (wMo cy a m0 m1 m2 m3 m4 m5 m6 m7 m8 m9 mb ms md mp mf mi mo mw mn mk mt mq mz me) (wMo cy a m0 m1 m2 m3 m4 m5 m6 m7 m8 m9 mb ms md mp mf mi mo mw mn mk mt mq mz me) o := by
  refine zM_of (cc := cX8_goodOf) (maxL := 2) (ret := (some .int)) (Qc := fun A => zQi G cy A (wMo cy a m0 m1 m2 m3 m4 m5 m6 m7 m8 m9 mb ms md mp mf mi mo mw mn mk mt mq mz me) o) (by decide) rfl (Nat.le_of_ble_eq_true rfl) ?_
  intro p e s m below meth c A ls hx hb hml hr hlocks hown hts hK hSE hA hP hD hS hl
  have hown : s.vm.findClass RX8 = some m.cls := hown
  have hl : lv_has ls 2 [(0, .ref (a 0)), (1, .int x01)] := hl
  have k29 := hts (.fieldLink RX8 29 "TapCascadeModel" "goesOut" "[I") (by decide +kernel)
  have iX8 : ∀ w ∈ wsX80, w ∈ wsX8_goodOf := fun w h => List.mem_cons_of_mem _ (List.mem_append_right _ h)
  unfold f_X8_goodOf at hF
  refine lv_aload_n hx hb dX8_goodOf_0 rfl (lv_at hl 0 rfl) ?_
  refine va_get (ci := 8) (C := RX8) (T := TX8) (N := 24) (fs := (zMo a m0 m1 m2 m3 m4 m5 m6 m7 m8 m9)) (v := .ref (a 7)) hx hb hts iX8 hown hK hP _ (wMo_at0 cy a m0 m1 m2 m3 m4 m5 m6 m7 m8 m9 mb ms md mp mf mi mo mw mn mk mt mq mz me) rfl 11 (by decide) k29 (fun _ h9 => h9) rfl dX8_goodOf_1 ?_
  refine lv_iload_n hx hb dX8_goodOf_4 rfl (lv_at hl 1 rfl) ?_
  refine z_iald (n := 4) (f := mo) hx hb hK hP _ 1 (wMo_at7 cy a m0 m1 m2 m3 m4 m5 m6 m7 m8 m9 mb ms md mp mf mi mo mw mn mk mt mq mz me) rfl hF dX8_goodOf_5 (fun hF => ?_)
  refine lv_aload_n hx hb dX8_goodOf_6 rfl (lv_at hl 0 rfl) ?_
  refine lv_iload_n hx hb dX8_goodOf_7 rfl (lv_at hl 1 rfl) ?_
  refine lv_iconst (v := 1) hx hb dX8_goodOf_8 (by decide) ?_
  refine z_cVi (b := a 0) (As := [.int x01, .int 1]) (rest := [.int (mo (zn x01))]) (wc := (wMo cy a m0 m1 m2 m3 m4 m5 m6 m7 m8 m9 mb ms md mp mf mi mo mw mn mk mt mq mz me)) (wcf := fun o' => (wMo cy a m0 m1 m2 m3 m4 m5 m6 m7 m8 m9 mb ms md mp mf mi mo mw mn mk mt mq mz me)) (wf := fun o' => (wMo cy a m0 m1 m2 m3 m4 m5 m6 m7 m8 m9 mb ms md mp mf mi mo mw mn mk mt mq mz me)) (rf := fun o' => o') hF (fun o' hz => c_X8_of l G cy st a m0 m1 m2 m3 m4 m5 m6 m7 m8 m9 mb ms md mp mf mi mo mw mn mk mt mq mz me x01 1 o' hz) (fun o' => zCut_all) ⟨hx, hb, hml, hown, hts⟩ (cwV 2 hts gX8_goodOf_X8_of rfl rfl rfl (by decide +kernel) ⟨by decide, by decide⟩) (ci := 8) (q0 := 0) rfl (wMo_at0 cy a m0 m1 m2 m3 m4 m5 m6 m7 m8 m9 mb ms md mp mf mi mo mw mn mk mt mq mz me) hK hSE hA hP hD hS rfl hl.1 rfl (Nat.le_of_ble_eq_true rfl) dX8_goodOf_9 ⟨Nat.le_refl _, Nat.le_refl _⟩ (fun o1 hF H locs hP hD hS => ?_)
  refine lv_aload_n hx hb dX8_goodOf_12 rfl (lv_at hl 0 rfl) ?_
  refine lv_iload_n hx hb dX8_goodOf_13 rfl (lv_at hl 1 rfl) ?_
  refine lv_iconst (v := 2) hx hb dX8_goodOf_14 (by decide) ?_
  refine z_cVi (b := a 0) (As := [.int x01, .int 2]) (rest := [.int o1, .int (mo (zn x01))]) (wc := (wMo cy a m0 m1 m2 m3 m4 m5 m6 m7 m8 m9 mb ms md mp mf mi mo mw mn mk mt mq mz me)) (wcf := fun o' => (wMo cy a m0 m1 m2 m3 m4 m5 m6 m7 m8 m9 mb ms md mp mf mi mo mw mn mk mt mq mz me)) (wf := fun o' => (wMo cy a m0 m1 m2 m3 m4 m5 m6 m7 m8 m9 mb ms md mp mf mi mo mw mn mk mt mq mz me)) (rf := fun o' => o') hF (fun o' hz => c_X8_of l G cy st a m0 m1 m2 m3 m4 m5 m6 m7 m8 m9 mb ms md mp mf mi mo mw mn mk mt mq mz me x01 2 o' hz) (fun o' => zCut_all) ⟨hx, hb, hml, hown, hts⟩ (cwV 2 hts gX8_goodOf_X8_of rfl rfl rfl (by decide +kernel) ⟨by decide, by decide⟩) (ci := 8) (q0 := 0) rfl (wMo_at0 cy a m0 m1 m2 m3 m4 m5 m6 m7 m8 m9 mb ms md mp mf mi mo mw mn mk mt mq mz me) hK hSE hA hP hD hS rfl hl.1 rfl (Nat.le_of_ble_eq_true rfl) dX8_goodOf_15 ⟨Nat.le_refl _, Nat.le_refl _⟩ (fun o2 hF H locs hP hD hS => ?_)
  refine lv_isub hx hb dX8_goodOf_18 ?_
  refine zi_ge (tgt := 26) hx hb hF dX8_goodOf_19 (by decide) (fun hF => ?_) (fun hF => ?_)
  · refine lv_aload_n hx hb dX8_goodOf_26 rfl (lv_at hl 0 rfl) ?_
    refine va_get (ci := 8) (C := RX8) (T := TX8) (N := 24) (fs := (zMo a m0 m1 m2 m3 m4 m5 m6 m7 m8 m9)) (v := .ref (a 7)) hx hb hts iX8 hown hK hP _ (wMo_at0 cy a m0 m1 m2 m3 m4 m5 m6 m7 m8 m9 mb ms md mp mf mi mo mw mn mk mt mq mz me) rfl 11 (by decide) k29 (fun _ h9 => h9) rfl dX8_goodOf_27 ?_
    refine lv_iload_n hx hb dX8_goodOf_30 rfl (lv_at hl 1 rfl) ?_
    refine z_iald (n := 4) (f := mo) hx hb hK hP _ 1 (wMo_at7 cy a m0 m1 m2 m3 m4 m5 m6 m7 m8 m9 mb ms md mp mf mi mo mw mn mk mt mq mz me) rfl hF dX8_goodOf_31 (fun hF => ?_)
    refine lv_aload_n hx hb dX8_goodOf_32 rfl (lv_at hl 0 rfl) ?_
    refine lv_iload_n hx hb dX8_goodOf_33 rfl (lv_at hl 1 rfl) ?_
    refine lv_iconst (v := 1) hx hb dX8_goodOf_34 (by decide) ?_
    refine z_cVi (b := a 0) (As := [.int x01, .int 1]) (rest := [.int (mo (zn x01))]) (wc := (wMo cy a m0 m1 m2 m3 m4 m5 m6 m7 m8 m9 mb ms md mp mf mi mo mw mn mk mt mq mz me)) (wcf := fun o' => (wMo cy a m0 m1 m2 m3 m4 m5 m6 m7 m8 m9 mb ms md mp mf mi mo mw mn mk mt mq mz me)) (wf := fun o' => (wMo cy a m0 m1 m2 m3 m4 m5 m6 m7 m8 m9 mb ms md mp mf mi mo mw mn mk mt mq mz me)) (rf := fun o' => o') hF (fun o' hz => c_X8_of l G cy st a m0 m1 m2 m3 m4 m5 m6 m7 m8 m9 mb ms md mp mf mi mo mw mn mk mt mq mz me x01 1 o' hz) (fun o' => zCut_all) ⟨hx, hb, hml, hown, hts⟩ (cwV 2 hts gX8_goodOf_X8_of rfl rfl rfl (by decide +kernel) ⟨by decide, by decide⟩) (ci := 8) (q0 := 0) rfl (wMo_at0 cy a m0 m1 m2 m3 m4 m5 m6 m7 m8 m9 mb ms md mp mf mi mo mw mn mk mt mq mz me) hK hSE hA hP hD hS rfl hl.1 rfl (Nat.le_of_ble_eq_true rfl) dX8_goodOf_35 ⟨Nat.le_refl _, Nat.le_refl _⟩ (fun o3 hF H locs hP hD hS => ?_)
    refine lv_aload_n hx hb dX8_goodOf_38 rfl (lv_at hl 0 rfl) ?_
    refine lv_iload_n hx hb dX8_goodOf_39 rfl (lv_at hl 1 rfl) ?_
    refine lv_iconst (v := 2) hx hb dX8_goodOf_40 (by decide) ?_
    refine z_cVi (b := a 0) (As := [.int x01, .int 2]) (rest := [.int o3, .int (mo (zn x01))]) (wc := (wMo cy a m0 m1 m2 m3 m4 m5 m6 m7 m8 m9 mb ms md mp mf mi mo mw mn mk mt mq mz me)) (wcf := fun o' => (wMo cy a m0 m1 m2 m3 m4 m5 m6 m7 m8 m9 mb ms md mp mf mi mo mw mn mk mt mq mz me)) (wf := fun o' => (wMo cy a m0 m1 m2 m3 m4 m5 m6 m7 m8 m9 mb ms md mp mf mi mo mw mn mk mt mq mz me)) (rf := fun o' => o') hF (fun o' hz => c_X8_of l G cy st a m0 m1 m2 m3 m4 m5 m6 m7 m8 m9 mb ms md mp mf mi mo mw mn mk mt mq mz me x01 2 o' hz) (fun o' => zCut_all) ⟨hx, hb, hml, hown, hts⟩ (cwV 2 hts gX8_goodOf_X8_of rfl rfl rfl (by decide +kernel) ⟨by decide, by decide⟩) (ci := 8) (q0 := 0) rfl (wMo_at0 cy a m0 m1 m2 m3 m4 m5 m6 m7 m8 m9 mb ms md mp mf mi mo mw mn mk mt mq mz me) hK hSE hA hP hD hS rfl hl.1 rfl (Nat.le_of_ble_eq_true rfl) dX8_goodOf_41 ⟨Nat.le_refl _, Nat.le_refl _⟩ (fun o4 hF H locs hP hD hS => ?_)
    refine lv_iadd hx hb dX8_goodOf_44 ?_
    refine zi_le (tgt := 52) hx hb hF dX8_goodOf_45 (by decide) (fun hF => ?_) (fun hF => ?_)
    · refine lv_iconst (v := 0) hx hb dX8_goodOf_52 (by decide) ?_
      refine z_iret (o := o) (o1 := 0) (v := 0) (wf := (fun o => (wMo cy a m0 m1 m2 m3 m4 m5 m6 m7 m8 m9 mb ms md mp mf mi mo mw mn mk mt mq mz me))) (rf := fun o => o) hx hb hr hlocks hK ?_ ?_ hS ?_ rfl dX8_goodOf_53
      · exact hP
      · exact hD
      · exact hF
    · refine lv_iconst (v := 2) hx hb dX8_goodOf_48 (by decide) ?_
      refine lv_goto (tgt := 53) hx hb dX8_goodOf_49 (by decide) ?_
      refine z_iret (o := o) (o1 := 2) (v := 2) (wf := (fun o => (wMo cy a m0 m1 m2 m3 m4 m5 m6 m7 m8 m9 mb ms md mp mf mi mo mw mn mk mt mq mz me))) (rf := fun o => o) hx hb hr hlocks hK ?_ ?_ hS ?_ rfl dX8_goodOf_53
      · exact hP
      · exact hD
      · exact hF
  · refine lv_iconst (v := 1) hx hb dX8_goodOf_22 (by decide) ?_
    refine lv_goto (tgt := 53) hx hb dX8_goodOf_23 (by decide) ?_
    refine z_iret (o := o) (o1 := 1) (v := 1) (wf := (fun o => (wMo cy a m0 m1 m2 m3 m4 m5 m6 m7 m8 m9 mb ms md mp mf mi mo mw mn mk mt mq mz me))) (rf := fun o => o) hx hb hr hlocks hK ?_ ?_ hS ?_ rfl dX8_goodOf_53
    · exact hP
    · exact hD
    · exact hF
def j_X8_lays_234 (rc39 : (Int32 × (Nat → Int32) × (Nat → Int32) × (Nat → Int32) × (Nat → Int32)) → Option ((Nat → Int32) × (Nat → Int32) × (Nat → Int32) × (Nat → Int32) × (Nat → Int32))) (s39 : Int32 × (Nat → Int32) × (Nat → Int32) × (Nat → Int32) × (Nat → Int32)) (mi_4 : Nat → Int32) (mo_7 : Nat → Int32) (mw_10 : Nat → Int32) (t11 : Int32) : Option ((Nat → Int32) × (Nat → Int32) × (Nat → Int32) × (Nat → Int32) × (Nat → Int32)) :=
zg (zin s39.1 4) (
zlet (upd s39.2.2.2.2 (zn s39.1) (vp_nar .boolean t11)) fun mn_12 =>
zlet (s39.1 + 1) fun x13 =>
rc39 (x13, mi_4, mo_7, mw_10, mn_12))
def j_X8_lays_233 (rc39 : (Int32 × (Nat → Int32) × (Nat → Int32) × (Nat → Int32) × (Nat → Int32)) → Option ((Nat → Int32) × (Nat → Int32) × (Nat → Int32) × (Nat → Int32) × (Nat → Int32))) (s39 : Int32 × (Nat → Int32) × (Nat → Int32) × (Nat → Int32) × (Nat → Int32)) (mi_4 : Nat → Int32) (mo_7 : Nat → Int32) (mw_10 : Nat → Int32) : Option ((Nat → Int32) × (Nat → Int32) × (Nat → Int32) × (Nat → Int32) × (Nat → Int32)) :=
j_X8_lays_234 rc39 s39 mi_4 mo_7 mw_10 0
def j_X8_lays_182 (ms : Nat → Int32) (rc39 : (Int32 × (Nat → Int32) × (Nat → Int32) × (Nat → Int32) × (Nat → Int32)) → Option ((Nat → Int32) × (Nat → Int32) × (Nat → Int32) × (Nat → Int32) × (Nat → Int32))) (s39 : Int32 × (Nat → Int32) × (Nat → Int32) × (Nat → Int32) × (Nat → Int32)) (mi_4 : Nat → Int32) (mo_7 : Nat → Int32) (y9 : Int32) : Option ((Nat → Int32) × (Nat → Int32) × (Nat → Int32) × (Nat → Int32) × (Nat → Int32)) :=
zg (zin s39.1 4) (
zlet (upd s39.2.2.2.1 (zn s39.1) y9) fun mw_10 =>
if y9 ≤ 0 then (
j_X8_lays_233 rc39 s39 mi_4 mo_7 mw_10) else (
zbd (f_X8_of ms s39.1 8) fun o14 =>
if o14 = 0 then (
zbd (f_X8_of ms s39.1 7) fun o15 =>
zbd (f_X8_way y9) fun o16 =>
zbd (f_X8_in (o15 + o16) (-5) 5) fun o17 =>
if o17 = 0 then (
j_X8_lays_233 rc39 s39 mi_4 mo_7 mw_10) else (
j_X8_lays_234 rc39 s39 mi_4 mo_7 mw_10 1)) else (
j_X8_lays_233 rc39 s39 mi_4 mo_7 mw_10)))
def j_X8_lays_181 (ms : Nat → Int32) (rc39 : (Int32 × (Nat → Int32) × (Nat → Int32) × (Nat → Int32) × (Nat → Int32)) → Option ((Nat → Int32) × (Nat → Int32) × (Nat → Int32) × (Nat → Int32) × (Nat → Int32))) (s39 : Int32 × (Nat → Int32) × (Nat → Int32) × (Nat → Int32) × (Nat → Int32)) (mi_4 : Nat → Int32) (mo_7 : Nat → Int32) (t19 : Int32) : Option ((Nat → Int32) × (Nat → Int32) × (Nat → Int32) × (Nat → Int32) × (Nat → Int32)) :=
j_X8_lays_182 ms rc39 s39 mi_4 mo_7 t19
def j_X8_lays_95 (ms : Nat → Int32) (mf_2 : Nat → Int32) (rc39 : (Int32 × (Nat → Int32) × (Nat → Int32) × (Nat → Int32) × (Nat → Int32)) → Option ((Nat → Int32) × (Nat → Int32) × (Nat → Int32) × (Nat → Int32) × (Nat → Int32))) (s39 : Int32 × (Nat → Int32) × (Nat → Int32) × (Nat → Int32) × (Nat → Int32)) (t3 : Int32) : Option ((Nat → Int32) × (Nat → Int32) × (Nat → Int32) × (Nat → Int32) × (Nat → Int32)) :=
zg (zin s39.1 4) (
zlet (upd s39.2.1 (zn s39.1) t3) fun mi_4 =>
zg (zin s39.1 4) (
zbd (f_X8_of ms s39.1 7) fun o5 =>
zbd (f_X8_of ms s39.1 0) fun o6 =>
zg (zin s39.1 4) (
zlet (upd s39.2.2.1 (zn s39.1) (((mi_4 (zn s39.1)) * (1000 + (o5 * o6))) / 1000)) fun mo_7 =>
zbd (f_X8_goodOf ms mo_7 s39.1) fun o8 =>
zg (zin s39.1 4) (
if 0 ≤ (mf_2 (zn s39.1)) then (
j_X8_lays_182 ms rc39 s39 mi_4 mo_7 o8) else (
if o8 ≤ 0 then (
j_X8_lays_182 ms rc39 s39 mi_4 mo_7 o8) else (
zbd (f_X8_of ms s39.1 4) fun o18 =>
if o18 = (1 : Int32) then (
j_X8_lays_181 ms rc39 s39 mi_4 mo_7 0) else (
zbd (f_X8_of ms s39.1 4) fun o20 =>
if o20 = (2 : Int32) then (
j_X8_lays_181 ms rc39 s39 mi_4 mo_7 (3 - o8)) else (
j_X8_lays_181 ms rc39 s39 mi_4 mo_7 o8))))))))
def b_X8_lays_39 (ms : Nat → Int32) (mf_2 : Nat → Int32) (rc39 : (Int32 × (Nat → Int32) × (Nat → Int32) × (Nat → Int32) × (Nat → Int32)) → Option ((Nat → Int32) × (Nat → Int32) × (Nat → Int32) × (Nat → Int32) × (Nat → Int32))) (s39 : Int32 × (Nat → Int32) × (Nat → Int32) × (Nat → Int32) × (Nat → Int32)) : Option ((Nat → Int32) × (Nat → Int32) × (Nat → Int32) × (Nat → Int32) × (Nat → Int32)) :=
zg (zin 0 114) (
if (ms (zn 0)) ≤ s39.1 then (
some (mf_2, s39.2.1, s39.2.2.1, s39.2.2.2.1, s39.2.2.2.2)) else (
if s39.1 = 0 then (
zg (zin 1 114) (
j_X8_lays_95 ms mf_2 rc39 s39 (ms (zn 1)))) else (
zg (zin (s39.1 - 1) 4) (
zbd (f_X8_of ms (s39.1 - 1) 6) fun o21 =>
zg (zin s39.1 4) (
j_X8_lays_95 ms mf_2 rc39 s39 ((s39.2.2.1 (zn (s39.1 - 1))) - ((o21 * (mf_2 (zn s39.1))) / 10)))))))
def j_X8_lays_37 (ms : Nat → Int32) (mi : Nat → Int32) (mo : Nat → Int32) (mw : Nat → Int32) (mn : Nat → Int32) (mf_2 : Nat → Int32) : Option ((Nat → Int32) × (Nat → Int32) × (Nat → Int32) × (Nat → Int32) × (Nat → Int32)) :=
zloop (b_X8_lays_39 ms mf_2) 1000 (0, mi, mo, mw, mn)
def b_X8_lays_11 (ms : Nat → Int32) (mi : Nat → Int32) (mo : Nat → Int32) (mw : Nat → Int32) (mn : Nat → Int32) (rc11 : (Int32 × Int32 × (Nat → Int32)) → Option ((Nat → Int32) × (Nat → Int32) × (Nat → Int32) × (Nat → Int32) × (Nat → Int32))) (s11 : Int32 × Int32 × (Nat → Int32)) : Option ((Nat → Int32) × (Nat → Int32) × (Nat → Int32) × (Nat → Int32) × (Nat → Int32)) :=
if s11.2.1 < 0 then (
j_X8_lays_37 ms mi mo mw mn s11.2.2) else (
zbd (f_X8_of ms s11.2.1 5) fun o22 =>
zlet (s11.1 + o22) fun x23 =>
zg (zin s11.2.1 4) (
zlet (upd s11.2.2 (zn s11.2.1) x23) fun mf_24 =>
zlet (s11.2.1 + (-1)) fun x25 =>
rc11 (x23, x25, mf_24)))
def f_X8_lays (ms : Nat → Int32) (mf : Nat → Int32) (mi : Nat → Int32) (mo : Nat → Int32) (mw : Nat → Int32) (mn : Nat → Int32) : Option ((Nat → Int32) × (Nat → Int32) × (Nat → Int32) × (Nat → Int32) × (Nat → Int32)) :=
zg (zin 0 114) (
zlet ((ms (zn 0)) - 1) fun x1 =>
zloop (b_X8_lays_11 ms mi mo mw mn) 1000 (0, x1, mf))
set_option maxHeartbeats 4000000 in
set_option maxRecDepth 100000 in
theorem c_X8_lays (l : Launch) (G : va_G) (cy : Nat → ClassId) (st : Nat → Nat) (a : Nat → Nat) (m0 : Int32) (m1 : Int32) (m2 : Int32) (m3 : Int32) (m4 : Int32) (m5 : Int32) (m6 : Int32) (m7 : Int32) (m8 : Int32) (m9 : Int32) (mb : Nat → Int32) (ms : Nat → Int32) (md : Nat → Int32) (mp : Nat → Int32) (mf : Nat → Int32) (mi : Nat → Int32) (mo : Nat → Int32) (mw : Nat → Int32) (mn : Nat → Int32) (mk : Nat → Int32) (mt : Nat → Int64) (mq : Nat → Int32) (mz : Nat → Int32) (me : Nat → Int32) (o : (Nat → Int32) × (Nat → Int32) × (Nat → Int32) × (Nat → Int32) × (Nat → Int32)) (hF : f_X8_lays ms mf mi mo mw mn = some o) : zMv l yX8_lays wsX8_lays (zR 3) G cy st [.ref (a 0)] (wMo cy a m0 m1 m2 m3 m4 m5 m6 m7 m8 m9 mb ms md mp mf mi mo mw mn mk mt mq mz me) (wMo cy a m0 m1 m2 m3 m4 m5 m6 m7 m8 m9 mb ms md mp o.1 o.2.1 o.2.2.1 o.2.2.2.1 o.2.2.2.2 mk mt mq mz me) := by
  refine zM_of (cc := cX8_lays) (maxL := 4) (ret := none) (Qc := fun A => zQv G cy A (wMo cy a m0 m1 m2 m3 m4 m5 m6 m7 m8 m9 mb ms md mp o.1 o.2.1 o.2.2.1 o.2.2.2.1 o.2.2.2.2 mk mt mq mz me)) (by decide) rfl (Nat.le_of_ble_eq_true rfl) ?_
  intro p e s m below meth c A ls hx hb hml hr hlocks hown hts hK hSE hA hP hD hS hl
  have hown : s.vm.findClass RX8 = some m.cls := hown
  have hl : lv_has ls 4 [(0, .ref (a 0))] := hl
  have k13 := hts (.fieldLink RX8 13 "TapCascadeModel" "s" "[I") (by decide +kernel)
  have iX8 : ∀ w ∈ wsX80, w ∈ wsX8_lays := fun w h => List.mem_cons_of_mem _ (List.mem_append_right _ h)
  have k26 := hts (.fieldLink RX8 26 "TapCascadeModel" "comesIn" "[I") (by decide +kernel)
  have k29 := hts (.fieldLink RX8 29 "TapCascadeModel" "goesOut" "[I") (by decide +kernel)
  have k23 := hts (.fieldLink RX8 23 "TapCascadeModel" "flow" "[I") (by decide +kernel)
  have k32 := hts (.fieldLink RX8 32 "TapCascadeModel" "want" "[I") (by decide +kernel)
  have k35 := hts (.fieldLink RX8 35 "TapCascadeModel" "can" "[Z") (by decide +kernel)
  unfold f_X8_lays at hF
  refine lv_iconst (v := 0) hx hb dX8_lays_0 (by decide) ?_
  refine lv_istore_n (lv' := [(1, .int 0), (0, .ref (a 0))]) hx hb dX8_lays_1 rfl hl (by decide) rfl (fun ls hl => ?_)
  refine lv_aload_n hx hb dX8_lays_2 rfl (lv_at hl 1 rfl) ?_
  refine va_get (ci := 8) (C := RX8) (T := TX8) (N := 24) (fs := (zMo a m0 m1 m2 m3 m4 m5 m6 m7 m8 m9)) (v := .ref (a 2)) hx hb hts iX8 hown hK hP _ (wMo_at0 cy a m0 m1 m2 m3 m4 m5 m6 m7 m8 m9 mb ms md mp mf mi mo mw mn mk mt mq mz me) rfl 3 (by decide) k13 (fun _ h9 => h9) rfl dX8_lays_3 ?_
  refine lv_iconst (v := 0) hx hb dX8_lays_6 (by decide) ?_
  refine z_iald (n := 114) (f := ms) hx hb hK hP _ 1 (wMo_at2 cy a m0 m1 m2 m3 m4 m5 m6 m7 m8 m9 mb ms md mp mf mi mo mw mn mk mt mq mz me) rfl hF dX8_lays_7 (fun hF => ?_)
  refine lv_iconst (v := 1) hx hb dX8_lays_8 (by decide) ?_
  refine lv_isub hx hb dX8_lays_9 ?_
  refine z_leti hF (fun x1 hF => ?_)
  refine lv_istore_n (lv' := [(2, .int x1), (1, .int 0), (0, .ref (a 0))]) hx hb dX8_lays_10 rfl hl (by decide) rfl (fun ls hl => ?_)
  have J37 : ∀ (mf_2 : Nat → Int32) (H : Heap) (locs : List Loc) (ls : Array Slot), va_P G vwCl (wMo cy a m0 m1 m2 m3 m4 m5 m6 m7 m8 m9 mb ms md mp mf_2 mi mo mw mn mk mt mq mz me) H → va_D A (wMo cy a m0 m1 m2 m3 m4 m5 m6 m7 m8 m9 mb ms md mp mf_2 mi mo mw mn mk mt mq mz me) → va_S A s.heap H locs → lv_has ls 4 [(0, .ref (a 0))] → j_X8_lays_37 ms mi mo mw mn mf_2 = some o → W p l e (zR 3) s m ([.ref (a 0)] : List Value).toArray below meth c H locs 0 0 (MQ below (zQv G cy A (wMo cy a m0 m1 m2 m3 m4 m5 m6 m7 m8 m9 mb ms md mp o.1 o.2.1 o.2.2.1 o.2.2.2.1 o.2.2.2.2 mk mt mq mz me)) ([.ref (a 0)] : List Value).toArray s 0 0 A) (F0 m 37 ls []) := by
    intro mf_2 H locs ls hP hD hS hl hF
    unfold j_X8_lays_37 at hF
    refine lv_iconst (v := 0) hx hb dX8_lays_37 (by decide) ?_
    refine lv_istore_n (lv' := [(2, .int 0), (0, .ref (a 0))]) hx hb dX8_lays_38 rfl hl (by decide) rfl (fun ls hl => ?_)
    have L39 : ∀ (n : Nat) (s39 : Int32 × (Nat → Int32) × (Nat → Int32) × (Nat → Int32) × (Nat → Int32)) (H : Heap) (locs : List Loc) (ls : Array Slot), va_P G vwCl (wMo cy a m0 m1 m2 m3 m4 m5 m6 m7 m8 m9 mb ms md mp mf_2 s39.2.1 s39.2.2.1 s39.2.2.2.1 s39.2.2.2.2 mk mt mq mz me) H → va_D A (wMo cy a m0 m1 m2 m3 m4 m5 m6 m7 m8 m9 mb ms md mp mf_2 s39.2.1 s39.2.2.1 s39.2.2.2.1 s39.2.2.2.2 mk mt mq mz me) → va_S A s.heap H locs → lv_has ls 4 [(0, .ref (a 0)), (2, .int s39.1)] → zloop (b_X8_lays_39 ms mf_2) n s39 = some o → W p l e (zR 3) s m ([.ref (a 0)] : List Value).toArray below meth c H locs 0 0 (MQ below (zQv G cy A (wMo cy a m0 m1 m2 m3 m4 m5 m6 m7 m8 m9 mb ms md mp o.1 o.2.1 o.2.2.1 o.2.2.2.1 o.2.2.2.2 mk mt mq mz me)) ([.ref (a 0)] : List Value).toArray s 0 0 A) (F0 m 39 ls []) := by
      intro n
      induction n with
      | zero => exact fun s39 H locs ls _ _ _ _ hF => (zloop_0 hF).elim
      | succ n ih39 =>
        intro s39 H locs ls hP hD hS hl hF
        have hF : b_X8_lays_39 ms mf_2 (zloop (b_X8_lays_39 ms mf_2) n) s39 = some o := hF
        generalize zloop (b_X8_lays_39 ms mf_2) n = rc39 at ih39 hF
        unfold b_X8_lays_39 at hF
        refine lv_iload_n hx hb dX8_lays_39 rfl (lv_at hl 1 rfl) ?_
        refine lv_aload_n hx hb dX8_lays_40 rfl (lv_at hl 0 rfl) ?_
        refine va_get (ci := 8) (C := RX8) (T := TX8) (N := 24) (fs := (zMo a m0 m1 m2 m3 m4 m5 m6 m7 m8 m9)) (v := .ref (a 2)) hx hb hts iX8 hown hK hP _ (wMo_at0 cy a m0 m1 m2 m3 m4 m5 m6 m7 m8 m9 mb ms md mp mf_2 s39.2.1 s39.2.2.1 s39.2.2.2.1 s39.2.2.2.2 mk mt mq mz me) rfl 3 (by decide) k13 (fun _ h9 => h9) rfl dX8_lays_41 ?_
        refine lv_iconst (v := 0) hx hb dX8_lays_44 (by decide) ?_
        refine z_iald (n := 114) (f := ms) hx hb hK hP _ 1 (wMo_at2 cy a m0 m1 m2 m3 m4 m5 m6 m7 m8 m9 mb ms md mp mf_2 s39.2.1 s39.2.2.1 s39.2.2.2.1 s39.2.2.2.2 mk mt mq mz me) rfl hF dX8_lays_45 (fun hF => ?_)
        refine zi_ge (tgt := 241) hx hb hF dX8_lays_46 (by decide) (fun hF => ?_) (fun hF => ?_)
        · refine z_vret (o := o) (o1 := (mf_2, s39.2.1, s39.2.2.1, s39.2.2.2.1, s39.2.2.2.2)) (wf := (fun o => (wMo cy a m0 m1 m2 m3 m4 m5 m6 m7 m8 m9 mb ms md mp o.1 o.2.1 o.2.2.1 o.2.2.2.1 o.2.2.2.2 mk mt mq mz me))) hx hb hr hlocks hK ?_ ?_ hS ?_ dX8_lays_241
          · exact hP
          · exact hD
          · exact hF
        · refine lv_aload_n hx hb dX8_lays_49 rfl (lv_at hl 0 rfl) ?_
          refine va_get (ci := 8) (C := RX8) (T := TX8) (N := 24) (fs := (zMo a m0 m1 m2 m3 m4 m5 m6 m7 m8 m9)) (v := .ref (a 6)) hx hb hts iX8 hown hK hP _ (wMo_at0 cy a m0 m1 m2 m3 m4 m5 m6 m7 m8 m9 mb ms md mp mf_2 s39.2.1 s39.2.2.1 s39.2.2.2.1 s39.2.2.2.2 mk mt mq mz me) rfl 10 (by decide) k26 (fun _ h9 => h9) rfl dX8_lays_50 ?_
          refine lv_iload_n hx hb dX8_lays_53 rfl (lv_at hl 1 rfl) ?_
          refine lv_iload_n hx hb dX8_lays_54 rfl (lv_at hl 1 rfl) ?_
          have J95 : ∀ (t3 : Int32) (H : Heap) (locs : List Loc) (ls : Array Slot), va_P G vwCl (wMo cy a m0 m1 m2 m3 m4 m5 m6 m7 m8 m9 mb ms md mp mf_2 s39.2.1 s39.2.2.1 s39.2.2.2.1 s39.2.2.2.2 mk mt mq mz me) H → va_D A (wMo cy a m0 m1 m2 m3 m4 m5 m6 m7 m8 m9 mb ms md mp mf_2 s39.2.1 s39.2.2.1 s39.2.2.2.1 s39.2.2.2.2 mk mt mq mz me) → va_S A s.heap H locs → lv_has ls 4 [(0, .ref (a 0)), (2, .int s39.1)] → j_X8_lays_95 ms mf_2 rc39 s39 t3 = some o → W p l e (zR 3) s m ([.ref (a 0)] : List Value).toArray below meth c H locs 0 0 (MQ below (zQv G cy A (wMo cy a m0 m1 m2 m3 m4 m5 m6 m7 m8 m9 mb ms md mp o.1 o.2.1 o.2.2.1 o.2.2.2.1 o.2.2.2.2 mk mt mq mz me)) ([.ref (a 0)] : List Value).toArray s 0 0 A) (F0 m 95 ls [.int t3, .int s39.1, .ref (a 6)]) := by
            intro t3 H locs ls hP hD hS hl hF
            unfold j_X8_lays_95 at hF
            refine z_iast (n := 4) (f := s39.2.1) (i := s39.1) (x := t3) (wf := (fun y => (wMo cy a m0 m1 m2 m3 m4 m5 m6 m7 m8 m9 mb ms md mp mf_2 y s39.2.2.1 s39.2.2.2.1 s39.2.2.2.2 mk mt mq mz me))) hx hb hK hP hD hS _ 1 (wMo_foc6 cy a m0 m1 m2 m3 m4 m5 m6 m7 m8 m9 mb ms md mp mf_2 s39.2.1 s39.2.2.1 s39.2.2.2.1 s39.2.2.2.2 mk mt mq mz me _) rfl hF dX8_lays_95 (fun mi_4 hF H locs hP hD hS => ?_)
            refine lv_aload_n hx hb dX8_lays_96 rfl (lv_at hl 0 rfl) ?_
            refine va_get (ci := 8) (C := RX8) (T := TX8) (N := 24) (fs := (zMo a m0 m1 m2 m3 m4 m5 m6 m7 m8 m9)) (v := .ref (a 7)) hx hb hts iX8 hown hK hP _ (wMo_at0 cy a m0 m1 m2 m3 m4 m5 m6 m7 m8 m9 mb ms md mp mf_2 mi_4 s39.2.2.1 s39.2.2.2.1 s39.2.2.2.2 mk mt mq mz me) rfl 11 (by decide) k29 (fun _ h9 => h9) rfl dX8_lays_97 ?_
            refine lv_iload_n hx hb dX8_lays_100 rfl (lv_at hl 1 rfl) ?_
            refine lv_aload_n hx hb dX8_lays_101 rfl (lv_at hl 0 rfl) ?_
            refine va_get (ci := 8) (C := RX8) (T := TX8) (N := 24) (fs := (zMo a m0 m1 m2 m3 m4 m5 m6 m7 m8 m9)) (v := .ref (a 6)) hx hb hts iX8 hown hK hP _ (wMo_at0 cy a m0 m1 m2 m3 m4 m5 m6 m7 m8 m9 mb ms md mp mf_2 mi_4 s39.2.2.1 s39.2.2.2.1 s39.2.2.2.2 mk mt mq mz me) rfl 10 (by decide) k26 (fun _ h9 => h9) rfl dX8_lays_102 ?_
            refine lv_iload_n hx hb dX8_lays_105 rfl (lv_at hl 1 rfl) ?_
            refine z_iald (n := 4) (f := mi_4) hx hb hK hP _ 1 (wMo_at6 cy a m0 m1 m2 m3 m4 m5 m6 m7 m8 m9 mb ms md mp mf_2 mi_4 s39.2.2.1 s39.2.2.2.1 s39.2.2.2.2 mk mt mq mz me) rfl hF dX8_lays_106 (fun hF => ?_)
            refine lv_sipush (v := 1000) hx hb dX8_lays_107 (by decide) ?_
            refine lv_aload_n hx hb dX8_lays_110 rfl (lv_at hl 0 rfl) ?_
            refine lv_iload_n hx hb dX8_lays_111 rfl (lv_at hl 1 rfl) ?_
            refine lv_bipush (v := 7) hx hb dX8_lays_112 (by decide) ?_
            refine z_cVi (b := a 0) (As := [.int s39.1, .int 7]) (rest := [.int 1000, .int (mi_4 (zn s39.1)), .int s39.1, .ref (a 7)]) (wc := (wMo cy a m0 m1 m2 m3 m4 m5 m6 m7 m8 m9 mb ms md mp mf_2 mi_4 s39.2.2.1 s39.2.2.2.1 s39.2.2.2.2 mk mt mq mz me)) (wcf := fun o' => (wMo cy a m0 m1 m2 m3 m4 m5 m6 m7 m8 m9 mb ms md mp mf_2 mi_4 s39.2.2.1 s39.2.2.2.1 s39.2.2.2.2 mk mt mq mz me)) (wf := fun o' => (wMo cy a m0 m1 m2 m3 m4 m5 m6 m7 m8 m9 mb ms md mp mf_2 mi_4 s39.2.2.1 s39.2.2.2.1 s39.2.2.2.2 mk mt mq mz me)) (rf := fun o' => o') hF (fun o' hz => c_X8_of l G cy st a m0 m1 m2 m3 m4 m5 m6 m7 m8 m9 mb ms md mp mf_2 mi_4 s39.2.2.1 s39.2.2.2.1 s39.2.2.2.2 mk mt mq mz me s39.1 7 o' hz) (fun o' => zCut_all) ⟨hx, hb, hml, hown, hts⟩ (cwV 2 hts gX8_lays_X8_of rfl rfl rfl (by decide +kernel) ⟨by decide, by decide⟩) (ci := 8) (q0 := 0) rfl (wMo_at0 cy a m0 m1 m2 m3 m4 m5 m6 m7 m8 m9 mb ms md mp mf_2 mi_4 s39.2.2.1 s39.2.2.2.1 s39.2.2.2.2 mk mt mq mz me) hK hSE hA hP hD hS rfl hl.1 rfl (Nat.le_of_ble_eq_true rfl) dX8_lays_114 ⟨Nat.le_refl _, Nat.le_refl _⟩ (fun o5 hF H locs hP hD hS => ?_)
            refine lv_aload_n hx hb dX8_lays_117 rfl (lv_at hl 0 rfl) ?_
            refine lv_iload_n hx hb dX8_lays_118 rfl (lv_at hl 1 rfl) ?_
            refine lv_iconst (v := 0) hx hb dX8_lays_119 (by decide) ?_
            refine z_cVi (b := a 0) (As := [.int s39.1, .int 0]) (rest := [.int o5, .int 1000, .int (mi_4 (zn s39.1)), .int s39.1, .ref (a 7)]) (wc := (wMo cy a m0 m1 m2 m3 m4 m5 m6 m7 m8 m9 mb ms md mp mf_2 mi_4 s39.2.2.1 s39.2.2.2.1 s39.2.2.2.2 mk mt mq mz me)) (wcf := fun o' => (wMo cy a m0 m1 m2 m3 m4 m5 m6 m7 m8 m9 mb ms md mp mf_2 mi_4 s39.2.2.1 s39.2.2.2.1 s39.2.2.2.2 mk mt mq mz me)) (wf := fun o' => (wMo cy a m0 m1 m2 m3 m4 m5 m6 m7 m8 m9 mb ms md mp mf_2 mi_4 s39.2.2.1 s39.2.2.2.1 s39.2.2.2.2 mk mt mq mz me)) (rf := fun o' => o') hF (fun o' hz => c_X8_of l G cy st a m0 m1 m2 m3 m4 m5 m6 m7 m8 m9 mb ms md mp mf_2 mi_4 s39.2.2.1 s39.2.2.2.1 s39.2.2.2.2 mk mt mq mz me s39.1 0 o' hz) (fun o' => zCut_all) ⟨hx, hb, hml, hown, hts⟩ (cwV 2 hts gX8_lays_X8_of rfl rfl rfl (by decide +kernel) ⟨by decide, by decide⟩) (ci := 8) (q0 := 0) rfl (wMo_at0 cy a m0 m1 m2 m3 m4 m5 m6 m7 m8 m9 mb ms md mp mf_2 mi_4 s39.2.2.1 s39.2.2.2.1 s39.2.2.2.2 mk mt mq mz me) hK hSE hA hP hD hS rfl hl.1 rfl (Nat.le_of_ble_eq_true rfl) dX8_lays_120 ⟨Nat.le_refl _, Nat.le_refl _⟩ (fun o6 hF H locs hP hD hS => ?_)
            refine lv_imul hx hb dX8_lays_123 ?_
            refine lv_iadd hx hb dX8_lays_124 ?_
            refine lv_imul hx hb dX8_lays_125 ?_
            refine lv_sipush (v := 1000) hx hb dX8_lays_126 (by decide) ?_
            refine lv_idiv hx hb dX8_lays_129 (by decide) ?_
            refine z_iast (n := 4) (f := s39.2.2.1) (i := s39.1) (x := (((mi_4 (zn s39.1)) * (1000 + (o5 * o6))) / 1000)) (wf := (fun y => (wMo cy a m0 m1 m2 m3 m4 m5 m6 m7 m8 m9 mb ms md mp mf_2 mi_4 y s39.2.2.2.1 s39.2.2.2.2 mk mt mq mz me))) hx hb hK hP hD hS _ 1 (wMo_foc7 cy a m0 m1 m2 m3 m4 m5 m6 m7 m8 m9 mb ms md mp mf_2 mi_4 s39.2.2.1 s39.2.2.2.1 s39.2.2.2.2 mk mt mq mz me _) rfl hF dX8_lays_130 (fun mo_7 hF H locs hP hD hS => ?_)
            refine lv_aload_n hx hb dX8_lays_131 rfl (lv_at hl 0 rfl) ?_
            refine lv_iload_n hx hb dX8_lays_132 rfl (lv_at hl 1 rfl) ?_
            refine z_cVi (b := a 0) (As := [.int s39.1]) (rest := []) (wc := (wMo cy a m0 m1 m2 m3 m4 m5 m6 m7 m8 m9 mb ms md mp mf_2 mi_4 mo_7 s39.2.2.2.1 s39.2.2.2.2 mk mt mq mz me)) (wcf := fun o' => (wMo cy a m0 m1 m2 m3 m4 m5 m6 m7 m8 m9 mb ms md mp mf_2 mi_4 mo_7 s39.2.2.2.1 s39.2.2.2.2 mk mt mq mz me)) (wf := fun o' => (wMo cy a m0 m1 m2 m3 m4 m5 m6 m7 m8 m9 mb ms md mp mf_2 mi_4 mo_7 s39.2.2.2.1 s39.2.2.2.2 mk mt mq mz me)) (rf := fun o' => o') hF (fun o' hz => c_X8_goodOf l G cy st a m0 m1 m2 m3 m4 m5 m6 m7 m8 m9 mb ms md mp mf_2 mi_4 mo_7 s39.2.2.2.1 s39.2.2.2.2 mk mt mq mz me s39.1 o' hz) (fun o' => zCut_all) ⟨hx, hb, hml, hown, hts⟩ (cwV 1 hts gX8_lays_X8_goodOf rfl rfl rfl (by decide +kernel) ⟨by decide, by decide⟩) (ci := 8) (q0 := 0) rfl (wMo_at0 cy a m0 m1 m2 m3 m4 m5 m6 m7 m8 m9 mb ms md mp mf_2 mi_4 mo_7 s39.2.2.2.1 s39.2.2.2.2 mk mt mq mz me) hK hSE hA hP hD hS rfl hl.1 rfl (Nat.le_of_ble_eq_true rfl) dX8_lays_133 ⟨Nat.le_refl _, Nat.le_refl _⟩ (fun o8 hF H locs hP hD hS => ?_)
            refine lv_istore_n (lv' := [(3, .int o8), (0, .ref (a 0)), (2, .int s39.1)]) hx hb dX8_lays_136 rfl hl (by decide) rfl (fun ls hl => ?_)
            refine lv_aload_n hx hb dX8_lays_137 rfl (lv_at hl 1 rfl) ?_
            refine va_get (ci := 8) (C := RX8) (T := TX8) (N := 24) (fs := (zMo a m0 m1 m2 m3 m4 m5 m6 m7 m8 m9)) (v := .ref (a 5)) hx hb hts iX8 hown hK hP _ (wMo_at0 cy a m0 m1 m2 m3 m4 m5 m6 m7 m8 m9 mb ms md mp mf_2 mi_4 mo_7 s39.2.2.2.1 s39.2.2.2.2 mk mt mq mz me) rfl 9 (by decide) k23 (fun _ h9 => h9) rfl dX8_lays_138 ?_
            refine lv_iload_n hx hb dX8_lays_141 rfl (lv_at hl 2 rfl) ?_
            refine z_iald (n := 4) (f := mf_2) hx hb hK hP _ 1 (wMo_at5 cy a m0 m1 m2 m3 m4 m5 m6 m7 m8 m9 mb ms md mp mf_2 mi_4 mo_7 s39.2.2.2.1 s39.2.2.2.2 mk mt mq mz me) rfl hF dX8_lays_142 (fun hF => ?_)
            have J182 : ∀ (y9 : Int32) (H : Heap) (locs : List Loc) (ls : Array Slot), va_P G vwCl (wMo cy a m0 m1 m2 m3 m4 m5 m6 m7 m8 m9 mb ms md mp mf_2 mi_4 mo_7 s39.2.2.2.1 s39.2.2.2.2 mk mt mq mz me) H → va_D A (wMo cy a m0 m1 m2 m3 m4 m5 m6 m7 m8 m9 mb ms md mp mf_2 mi_4 mo_7 s39.2.2.2.1 s39.2.2.2.2 mk mt mq mz me) → va_S A s.heap H locs → lv_has ls 4 [(0, .ref (a 0)), (2, .int s39.1), (3, .int y9)] → j_X8_lays_182 ms rc39 s39 mi_4 mo_7 y9 = some o → W p l e (zR 3) s m ([.ref (a 0)] : List Value).toArray below meth c H locs 0 0 (MQ below (zQv G cy A (wMo cy a m0 m1 m2 m3 m4 m5 m6 m7 m8 m9 mb ms md mp o.1 o.2.1 o.2.2.1 o.2.2.2.1 o.2.2.2.2 mk mt mq mz me)) ([.ref (a 0)] : List Value).toArray s 0 0 A) (F0 m 182 ls []) := by
              intro y9 H locs ls hP hD hS hl hF
              unfold j_X8_lays_182 at hF
              refine lv_aload_n hx hb dX8_lays_182 rfl (lv_at hl 0 rfl) ?_
              refine va_get (ci := 8) (C := RX8) (T := TX8) (N := 24) (fs := (zMo a m0 m1 m2 m3 m4 m5 m6 m7 m8 m9)) (v := .ref (a 8)) hx hb hts iX8 hown hK hP _ (wMo_at0 cy a m0 m1 m2 m3 m4 m5 m6 m7 m8 m9 mb ms md mp mf_2 mi_4 mo_7 s39.2.2.2.1 s39.2.2.2.2 mk mt mq mz me) rfl 12 (by decide) k32 (fun _ h9 => h9) rfl dX8_lays_183 ?_
              refine lv_iload_n hx hb dX8_lays_186 rfl (lv_at hl 1 rfl) ?_
              refine lv_iload_n hx hb dX8_lays_187 rfl (lv_at hl 2 rfl) ?_
              refine z_iast (n := 4) (f := s39.2.2.2.1) (i := s39.1) (x := y9) (wf := (fun y => (wMo cy a m0 m1 m2 m3 m4 m5 m6 m7 m8 m9 mb ms md mp mf_2 mi_4 mo_7 y s39.2.2.2.2 mk mt mq mz me))) hx hb hK hP hD hS _ 1 (wMo_foc8 cy a m0 m1 m2 m3 m4 m5 m6 m7 m8 m9 mb ms md mp mf_2 mi_4 mo_7 s39.2.2.2.1 s39.2.2.2.2 mk mt mq mz me _) rfl hF dX8_lays_188 (fun mw_10 hF H locs hP hD hS => ?_)
              refine lv_aload_n hx hb dX8_lays_189 rfl (lv_at hl 0 rfl) ?_
              refine va_get (ci := 8) (C := RX8) (T := TX8) (N := 24) (fs := (zMo a m0 m1 m2 m3 m4 m5 m6 m7 m8 m9)) (v := .ref (a 9)) hx hb hts iX8 hown hK hP _ (wMo_at0 cy a m0 m1 m2 m3 m4 m5 m6 m7 m8 m9 mb ms md mp mf_2 mi_4 mo_7 mw_10 s39.2.2.2.2 mk mt mq mz me) rfl 13 (by decide) k35 (fun _ h9 => h9) rfl dX8_lays_190 ?_
              refine lv_iload_n hx hb dX8_lays_193 rfl (lv_at hl 1 rfl) ?_
              refine lv_iload_n hx hb dX8_lays_194 rfl (lv_at hl 2 rfl) ?_
              have J234 : ∀ (t11 : Int32) (H : Heap) (locs : List Loc) (ls : Array Slot), va_P G vwCl (wMo cy a m0 m1 m2 m3 m4 m5 m6 m7 m8 m9 mb ms md mp mf_2 mi_4 mo_7 mw_10 s39.2.2.2.2 mk mt mq mz me) H → va_D A (wMo cy a m0 m1 m2 m3 m4 m5 m6 m7 m8 m9 mb ms md mp mf_2 mi_4 mo_7 mw_10 s39.2.2.2.2 mk mt mq mz me) → va_S A s.heap H locs → lv_has ls 4 [(0, .ref (a 0)), (2, .int s39.1)] → j_X8_lays_234 rc39 s39 mi_4 mo_7 mw_10 t11 = some o → W p l e (zR 3) s m ([.ref (a 0)] : List Value).toArray below meth c H locs 0 0 (MQ below (zQv G cy A (wMo cy a m0 m1 m2 m3 m4 m5 m6 m7 m8 m9 mb ms md mp o.1 o.2.1 o.2.2.1 o.2.2.2.1 o.2.2.2.2 mk mt mq mz me)) ([.ref (a 0)] : List Value).toArray s 0 0 A) (F0 m 234 ls [.int t11, .int s39.1, .ref (a 9)]) := by
                intro t11 H locs ls hP hD hS hl hF
                unfold j_X8_lays_234 at hF
                refine z_zast (n := 4) (f := s39.2.2.2.2) (i := s39.1) (x := t11) (wf := (fun y => (wMo cy a m0 m1 m2 m3 m4 m5 m6 m7 m8 m9 mb ms md mp mf_2 mi_4 mo_7 mw_10 y mk mt mq mz me))) hx hb hK hP hD hS _ 3 (wMo_foc9 cy a m0 m1 m2 m3 m4 m5 m6 m7 m8 m9 mb ms md mp mf_2 mi_4 mo_7 mw_10 s39.2.2.2.2 mk mt mq mz me _) rfl hF dX8_lays_234 (fun mn_12 hF H locs hP hD hS => ?_)
                refine z_name hF (fun x13 ex13 hF => ?_)
                refine lv_iinc (v := x13) (lv' := [(2, .int x13), (0, .ref (a 0))]) hx hb dX8_lays_235 hl (k := 1) rfl (by rw [ex13]; rfl) (by decide) rfl (fun ls hl => ?_)
                refine lv_goto (tgt := 39) hx hb dX8_lays_238 (by decide) ?_
                exact ih39 (x13, mi_4, mo_7, mw_10, mn_12) _ _ ls hP hD hS (lv_sub hl [1, 0] rfl) hF
              have J233 : ∀ (H : Heap) (locs : List Loc) (ls : Array Slot), va_P G vwCl (wMo cy a m0 m1 m2 m3 m4 m5 m6 m7 m8 m9 mb ms md mp mf_2 mi_4 mo_7 mw_10 s39.2.2.2.2 mk mt mq mz me) H → va_D A (wMo cy a m0 m1 m2 m3 m4 m5 m6 m7 m8 m9 mb ms md mp mf_2 mi_4 mo_7 mw_10 s39.2.2.2.2 mk mt mq mz me) → va_S A s.heap H locs → lv_has ls 4 [(0, .ref (a 0)), (2, .int s39.1)] → j_X8_lays_233 rc39 s39 mi_4 mo_7 mw_10 = some o → W p l e (zR 3) s m ([.ref (a 0)] : List Value).toArray below meth c H locs 0 0 (MQ below (zQv G cy A (wMo cy a m0 m1 m2 m3 m4 m5 m6 m7 m8 m9 mb ms md mp o.1 o.2.1 o.2.2.1 o.2.2.2.1 o.2.2.2.2 mk mt mq mz me)) ([.ref (a 0)] : List Value).toArray s 0 0 A) (F0 m 233 ls [.int s39.1, .ref (a 9)]) := by
                intro H locs ls hP hD hS hl hF
                unfold j_X8_lays_233 at hF
                refine lv_iconst (v := 0) hx hb dX8_lays_233 (by decide) ?_
                exact J234 0 _ _ ls hP hD hS (lv_sub hl [0, 1] rfl) hF
              refine zf_le (tgt := 233) hx hb hF dX8_lays_195 (by decide) (fun hF => ?_) (fun hF => ?_)
              · exact J233 _ _ ls hP hD hS (lv_sub hl [0, 1] rfl) hF
              · refine lv_aload_n hx hb dX8_lays_198 rfl (lv_at hl 0 rfl) ?_
                refine lv_iload_n hx hb dX8_lays_199 rfl (lv_at hl 1 rfl) ?_
                refine lv_bipush (v := 8) hx hb dX8_lays_200 (by decide) ?_
                refine z_cVi (b := a 0) (As := [.int s39.1, .int 8]) (rest := [.int s39.1, .ref (a 9)]) (wc := (wMo cy a m0 m1 m2 m3 m4 m5 m6 m7 m8 m9 mb ms md mp mf_2 mi_4 mo_7 mw_10 s39.2.2.2.2 mk mt mq mz me)) (wcf := fun o' => (wMo cy a m0 m1 m2 m3 m4 m5 m6 m7 m8 m9 mb ms md mp mf_2 mi_4 mo_7 mw_10 s39.2.2.2.2 mk mt mq mz me)) (wf := fun o' => (wMo cy a m0 m1 m2 m3 m4 m5 m6 m7 m8 m9 mb ms md mp mf_2 mi_4 mo_7 mw_10 s39.2.2.2.2 mk mt mq mz me)) (rf := fun o' => o') hF (fun o' hz => c_X8_of l G cy st a m0 m1 m2 m3 m4 m5 m6 m7 m8 m9 mb ms md mp mf_2 mi_4 mo_7 mw_10 s39.2.2.2.2 mk mt mq mz me s39.1 8 o' hz) (fun o' => zCut_all) ⟨hx, hb, hml, hown, hts⟩ (cwV 2 hts gX8_lays_X8_of rfl rfl rfl (by decide +kernel) ⟨by decide, by decide⟩) (ci := 8) (q0 := 0) rfl (wMo_at0 cy a m0 m1 m2 m3 m4 m5 m6 m7 m8 m9 mb ms md mp mf_2 mi_4 mo_7 mw_10 s39.2.2.2.2 mk mt mq mz me) hK hSE hA hP hD hS rfl hl.1 rfl (Nat.le_of_ble_eq_true rfl) dX8_lays_202 ⟨Nat.le_refl _, Nat.le_refl _⟩ (fun o14 hF H locs hP hD hS => ?_)
                refine zf_ne (tgt := 233) hx hb hF dX8_lays_205 (by decide) (fun hF => ?_) (fun hF => ?_)
                · exact J233 _ _ ls hP hD hS (lv_sub hl [0, 1] rfl) hF
                · refine lv_aload_n hx hb dX8_lays_208 rfl (lv_at hl 0 rfl) ?_
                  refine lv_iload_n hx hb dX8_lays_209 rfl (lv_at hl 1 rfl) ?_
                  refine lv_bipush (v := 7) hx hb dX8_lays_210 (by decide) ?_
                  refine z_cVi (b := a 0) (As := [.int s39.1, .int 7]) (rest := [.int s39.1, .ref (a 9)]) (wc := (wMo cy a m0 m1 m2 m3 m4 m5 m6 m7 m8 m9 mb ms md mp mf_2 mi_4 mo_7 mw_10 s39.2.2.2.2 mk mt mq mz me)) (wcf := fun o' => (wMo cy a m0 m1 m2 m3 m4 m5 m6 m7 m8 m9 mb ms md mp mf_2 mi_4 mo_7 mw_10 s39.2.2.2.2 mk mt mq mz me)) (wf := fun o' => (wMo cy a m0 m1 m2 m3 m4 m5 m6 m7 m8 m9 mb ms md mp mf_2 mi_4 mo_7 mw_10 s39.2.2.2.2 mk mt mq mz me)) (rf := fun o' => o') hF (fun o' hz => c_X8_of l G cy st a m0 m1 m2 m3 m4 m5 m6 m7 m8 m9 mb ms md mp mf_2 mi_4 mo_7 mw_10 s39.2.2.2.2 mk mt mq mz me s39.1 7 o' hz) (fun o' => zCut_all) ⟨hx, hb, hml, hown, hts⟩ (cwV 2 hts gX8_lays_X8_of rfl rfl rfl (by decide +kernel) ⟨by decide, by decide⟩) (ci := 8) (q0 := 0) rfl (wMo_at0 cy a m0 m1 m2 m3 m4 m5 m6 m7 m8 m9 mb ms md mp mf_2 mi_4 mo_7 mw_10 s39.2.2.2.2 mk mt mq mz me) hK hSE hA hP hD hS rfl hl.1 rfl (Nat.le_of_ble_eq_true rfl) dX8_lays_212 ⟨Nat.le_refl _, Nat.le_refl _⟩ (fun o15 hF H locs hP hD hS => ?_)
                  refine lv_iload_n hx hb dX8_lays_215 rfl (lv_at hl 2 rfl) ?_
                  refine z_cSi (As := [.int y9]) (rest := [.int o15, .int s39.1, .ref (a 9)]) (wc := ([] : va_W)) (wcf := fun o' => ([] : va_W)) (wf := fun o' => (wMo cy a m0 m1 m2 m3 m4 m5 m6 m7 m8 m9 mb ms md mp mf_2 mi_4 mo_7 mw_10 s39.2.2.2.2 mk mt mq mz me)) (rf := fun o' => o') hF (fun o' hz => c_X8_way l G cy st y9 o' hz) (fun o' => zCut_nil) ⟨hx, hb, hml, hown, hts⟩ (va_cwS 1 hts gX8_lays_X8_way rfl rfl rfl (by decide +kernel) ⟨by decide, by decide⟩) hK hSE hA hP hD hS rfl hl.1 rfl (Nat.le_of_ble_eq_true rfl) dX8_lays_216 ⟨Nat.le_refl _, Nat.le_refl _⟩ (fun o16 hF H locs hP hD hS => ?_)
                  refine lv_iadd hx hb dX8_lays_219 ?_
                  refine lv_bipush (v := (-5)) hx hb dX8_lays_220 (by decide) ?_
                  refine lv_iconst (v := 5) hx hb dX8_lays_222 (by decide) ?_
                  refine z_cSi (As := [.int (o15 + o16), .int (-5), .int 5]) (rest := [.int s39.1, .ref (a 9)]) (wc := ([] : va_W)) (wcf := fun o' => ([] : va_W)) (wf := fun o' => (wMo cy a m0 m1 m2 m3 m4 m5 m6 m7 m8 m9 mb ms md mp mf_2 mi_4 mo_7 mw_10 s39.2.2.2.2 mk mt mq mz me)) (rf := fun o' => o') hF (fun o' hz => c_X8_in l G cy st (o15 + o16) (-5) 5 o' hz) (fun o' => zCut_nil) ⟨hx, hb, hml, hown, hts⟩ (va_cwS 3 hts gX8_lays_X8_in rfl rfl rfl (by decide +kernel) ⟨by decide, by decide⟩) hK hSE hA hP hD hS rfl hl.1 rfl (Nat.le_of_ble_eq_true rfl) dX8_lays_223 ⟨Nat.le_refl _, Nat.le_refl _⟩ (fun o17 hF H locs hP hD hS => ?_)
                  refine zf_eq (tgt := 233) hx hb hF dX8_lays_226 (by decide) (fun hF => ?_) (fun hF => ?_)
                  · exact J233 _ _ ls hP hD hS (lv_sub hl [0, 1] rfl) hF
                  · refine lv_iconst (v := 1) hx hb dX8_lays_229 (by decide) ?_
                    refine lv_goto (tgt := 234) hx hb dX8_lays_230 (by decide) ?_
                    exact J234 1 _ _ ls hP hD hS (lv_sub hl [0, 1] rfl) hF
            refine zf_ge (tgt := 182) hx hb hF dX8_lays_143 (by decide) (fun hF => ?_) (fun hF => ?_)
            · exact J182 o8 _ _ ls hP hD hS (lv_sub hl [1, 2, 0] rfl) hF
            · refine lv_iload_n hx hb dX8_lays_146 rfl (lv_at hl 0 rfl) ?_
              refine zf_le (tgt := 182) hx hb hF dX8_lays_147 (by decide) (fun hF => ?_) (fun hF => ?_)
              · exact J182 o8 _ _ ls hP hD hS (lv_sub hl [1, 2, 0] rfl) hF
              · refine lv_aload_n hx hb dX8_lays_150 rfl (lv_at hl 1 rfl) ?_
                refine lv_iload_n hx hb dX8_lays_151 rfl (lv_at hl 2 rfl) ?_
                refine lv_iconst (v := 4) hx hb dX8_lays_152 (by decide) ?_
                refine z_cVi (b := a 0) (As := [.int s39.1, .int 4]) (rest := []) (wc := (wMo cy a m0 m1 m2 m3 m4 m5 m6 m7 m8 m9 mb ms md mp mf_2 mi_4 mo_7 s39.2.2.2.1 s39.2.2.2.2 mk mt mq mz me)) (wcf := fun o' => (wMo cy a m0 m1 m2 m3 m4 m5 m6 m7 m8 m9 mb ms md mp mf_2 mi_4 mo_7 s39.2.2.2.1 s39.2.2.2.2 mk mt mq mz me)) (wf := fun o' => (wMo cy a m0 m1 m2 m3 m4 m5 m6 m7 m8 m9 mb ms md mp mf_2 mi_4 mo_7 s39.2.2.2.1 s39.2.2.2.2 mk mt mq mz me)) (rf := fun o' => o') hF (fun o' hz => c_X8_of l G cy st a m0 m1 m2 m3 m4 m5 m6 m7 m8 m9 mb ms md mp mf_2 mi_4 mo_7 s39.2.2.2.1 s39.2.2.2.2 mk mt mq mz me s39.1 4 o' hz) (fun o' => zCut_all) ⟨hx, hb, hml, hown, hts⟩ (cwV 2 hts gX8_lays_X8_of rfl rfl rfl (by decide +kernel) ⟨by decide, by decide⟩) (ci := 8) (q0 := 0) rfl (wMo_at0 cy a m0 m1 m2 m3 m4 m5 m6 m7 m8 m9 mb ms md mp mf_2 mi_4 mo_7 s39.2.2.2.1 s39.2.2.2.2 mk mt mq mz me) hK hSE hA hP hD hS rfl hl.1 rfl (Nat.le_of_ble_eq_true rfl) dX8_lays_153 ⟨Nat.le_refl _, Nat.le_refl _⟩ (fun o18 hF H locs hP hD hS => ?_)
                refine lv_iconst (v := 1) hx hb dX8_lays_156 (by decide) ?_
                have J181 : ∀ (t19 : Int32) (H : Heap) (locs : List Loc) (ls : Array Slot), va_P G vwCl (wMo cy a m0 m1 m2 m3 m4 m5 m6 m7 m8 m9 mb ms md mp mf_2 mi_4 mo_7 s39.2.2.2.1 s39.2.2.2.2 mk mt mq mz me) H → va_D A (wMo cy a m0 m1 m2 m3 m4 m5 m6 m7 m8 m9 mb ms md mp mf_2 mi_4 mo_7 s39.2.2.2.1 s39.2.2.2.2 mk mt mq mz me) → va_S A s.heap H locs → lv_has ls 4 [(0, .ref (a 0)), (2, .int s39.1)] → j_X8_lays_181 ms rc39 s39 mi_4 mo_7 t19 = some o → W p l e (zR 3) s m ([.ref (a 0)] : List Value).toArray below meth c H locs 0 0 (MQ below (zQv G cy A (wMo cy a m0 m1 m2 m3 m4 m5 m6 m7 m8 m9 mb ms md mp o.1 o.2.1 o.2.2.1 o.2.2.2.1 o.2.2.2.2 mk mt mq mz me)) ([.ref (a 0)] : List Value).toArray s 0 0 A) (F0 m 181 ls [.int t19]) := by
                  intro t19 H locs ls hP hD hS hl hF
                  unfold j_X8_lays_181 at hF
                  refine lv_istore_n (lv' := [(3, .int t19), (0, .ref (a 0)), (2, .int s39.1)]) hx hb dX8_lays_181 rfl hl (by decide) rfl (fun ls hl => ?_)
                  exact J182 t19 _ _ ls hP hD hS (lv_sub hl [1, 2, 0] rfl) hF
                refine zi_ne (tgt := 164) hx hb hF dX8_lays_157 (by decide) (fun hF => ?_) (fun hF => ?_)
                · refine lv_aload_n hx hb dX8_lays_164 rfl (lv_at hl 1 rfl) ?_
                  refine lv_iload_n hx hb dX8_lays_165 rfl (lv_at hl 2 rfl) ?_
                  refine lv_iconst (v := 4) hx hb dX8_lays_166 (by decide) ?_
                  refine z_cVi (b := a 0) (As := [.int s39.1, .int 4]) (rest := []) (wc := (wMo cy a m0 m1 m2 m3 m4 m5 m6 m7 m8 m9 mb ms md mp mf_2 mi_4 mo_7 s39.2.2.2.1 s39.2.2.2.2 mk mt mq mz me)) (wcf := fun o' => (wMo cy a m0 m1 m2 m3 m4 m5 m6 m7 m8 m9 mb ms md mp mf_2 mi_4 mo_7 s39.2.2.2.1 s39.2.2.2.2 mk mt mq mz me)) (wf := fun o' => (wMo cy a m0 m1 m2 m3 m4 m5 m6 m7 m8 m9 mb ms md mp mf_2 mi_4 mo_7 s39.2.2.2.1 s39.2.2.2.2 mk mt mq mz me)) (rf := fun o' => o') hF (fun o' hz => c_X8_of l G cy st a m0 m1 m2 m3 m4 m5 m6 m7 m8 m9 mb ms md mp mf_2 mi_4 mo_7 s39.2.2.2.1 s39.2.2.2.2 mk mt mq mz me s39.1 4 o' hz) (fun o' => zCut_all) ⟨hx, hb, hml, hown, hts⟩ (cwV 2 hts gX8_lays_X8_of rfl rfl rfl (by decide +kernel) ⟨by decide, by decide⟩) (ci := 8) (q0 := 0) rfl (wMo_at0 cy a m0 m1 m2 m3 m4 m5 m6 m7 m8 m9 mb ms md mp mf_2 mi_4 mo_7 s39.2.2.2.1 s39.2.2.2.2 mk mt mq mz me) hK hSE hA hP hD hS rfl hl.1 rfl (Nat.le_of_ble_eq_true rfl) dX8_lays_167 ⟨Nat.le_refl _, Nat.le_refl _⟩ (fun o20 hF H locs hP hD hS => ?_)
                  refine lv_iconst (v := 2) hx hb dX8_lays_170 (by decide) ?_
                  refine zi_ne (tgt := 180) hx hb hF dX8_lays_171 (by decide) (fun hF => ?_) (fun hF => ?_)
                  · refine lv_iload_n hx hb dX8_lays_180 rfl (lv_at hl 0 rfl) ?_
                    exact J181 o8 _ _ ls hP hD hS (lv_sub hl [1, 2] rfl) hF
                  · refine lv_iconst (v := 3) hx hb dX8_lays_174 (by decide) ?_
                    refine lv_iload_n hx hb dX8_lays_175 rfl (lv_at hl 0 rfl) ?_
                    refine lv_isub hx hb dX8_lays_176 ?_
                    refine lv_goto (tgt := 181) hx hb dX8_lays_177 (by decide) ?_
                    exact J181 (3 - o8) _ _ ls hP hD hS (lv_sub hl [1, 2] rfl) hF
                · refine lv_iconst (v := 0) hx hb dX8_lays_160 (by decide) ?_
                  refine lv_goto (tgt := 181) hx hb dX8_lays_161 (by decide) ?_
                  exact J181 0 _ _ ls hP hD hS (lv_sub hl [1, 2] rfl) hF
          refine zf_ne (tgt := 67) hx hb hF dX8_lays_55 (by decide) (fun hF => ?_) (fun hF => ?_)
          · refine lv_aload_n hx hb dX8_lays_67 rfl (lv_at hl 0 rfl) ?_
            refine va_get (ci := 8) (C := RX8) (T := TX8) (N := 24) (fs := (zMo a m0 m1 m2 m3 m4 m5 m6 m7 m8 m9)) (v := .ref (a 7)) hx hb hts iX8 hown hK hP _ (wMo_at0 cy a m0 m1 m2 m3 m4 m5 m6 m7 m8 m9 mb ms md mp mf_2 s39.2.1 s39.2.2.1 s39.2.2.2.1 s39.2.2.2.2 mk mt mq mz me) rfl 11 (by decide) k29 (fun _ h9 => h9) rfl dX8_lays_68 ?_
            refine lv_iload_n hx hb dX8_lays_71 rfl (lv_at hl 1 rfl) ?_
            refine lv_iconst (v := 1) hx hb dX8_lays_72 (by decide) ?_
            refine lv_isub hx hb dX8_lays_73 ?_
            refine z_iald (n := 4) (f := s39.2.2.1) hx hb hK hP _ 1 (wMo_at7 cy a m0 m1 m2 m3 m4 m5 m6 m7 m8 m9 mb ms md mp mf_2 s39.2.1 s39.2.2.1 s39.2.2.2.1 s39.2.2.2.2 mk mt mq mz me) rfl hF dX8_lays_74 (fun hF => ?_)
            refine lv_aload_n hx hb dX8_lays_75 rfl (lv_at hl 0 rfl) ?_
            refine lv_iload_n hx hb dX8_lays_76 rfl (lv_at hl 1 rfl) ?_
            refine lv_iconst (v := 1) hx hb dX8_lays_77 (by decide) ?_
            refine lv_isub hx hb dX8_lays_78 ?_
            refine lv_bipush (v := 6) hx hb dX8_lays_79 (by decide) ?_
            refine z_cVi (b := a 0) (As := [.int (s39.1 - 1), .int 6]) (rest := [.int (s39.2.2.1 (zn (s39.1 - 1))), .int s39.1, .ref (a 6)]) (wc := (wMo cy a m0 m1 m2 m3 m4 m5 m6 m7 m8 m9 mb ms md mp mf_2 s39.2.1 s39.2.2.1 s39.2.2.2.1 s39.2.2.2.2 mk mt mq mz me)) (wcf := fun o' => (wMo cy a m0 m1 m2 m3 m4 m5 m6 m7 m8 m9 mb ms md mp mf_2 s39.2.1 s39.2.2.1 s39.2.2.2.1 s39.2.2.2.2 mk mt mq mz me)) (wf := fun o' => (wMo cy a m0 m1 m2 m3 m4 m5 m6 m7 m8 m9 mb ms md mp mf_2 s39.2.1 s39.2.2.1 s39.2.2.2.1 s39.2.2.2.2 mk mt mq mz me)) (rf := fun o' => o') hF (fun o' hz => c_X8_of l G cy st a m0 m1 m2 m3 m4 m5 m6 m7 m8 m9 mb ms md mp mf_2 s39.2.1 s39.2.2.1 s39.2.2.2.1 s39.2.2.2.2 mk mt mq mz me (s39.1 - 1) 6 o' hz) (fun o' => zCut_all) ⟨hx, hb, hml, hown, hts⟩ (cwV 2 hts gX8_lays_X8_of rfl rfl rfl (by decide +kernel) ⟨by decide, by decide⟩) (ci := 8) (q0 := 0) rfl (wMo_at0 cy a m0 m1 m2 m3 m4 m5 m6 m7 m8 m9 mb ms md mp mf_2 s39.2.1 s39.2.2.1 s39.2.2.2.1 s39.2.2.2.2 mk mt mq mz me) hK hSE hA hP hD hS rfl hl.1 rfl (Nat.le_of_ble_eq_true rfl) dX8_lays_81 ⟨Nat.le_refl _, Nat.le_refl _⟩ (fun o21 hF H locs hP hD hS => ?_)
            refine lv_aload_n hx hb dX8_lays_84 rfl (lv_at hl 0 rfl) ?_
            refine va_get (ci := 8) (C := RX8) (T := TX8) (N := 24) (fs := (zMo a m0 m1 m2 m3 m4 m5 m6 m7 m8 m9)) (v := .ref (a 5)) hx hb hts iX8 hown hK hP _ (wMo_at0 cy a m0 m1 m2 m3 m4 m5 m6 m7 m8 m9 mb ms md mp mf_2 s39.2.1 s39.2.2.1 s39.2.2.2.1 s39.2.2.2.2 mk mt mq mz me) rfl 9 (by decide) k23 (fun _ h9 => h9) rfl dX8_lays_85 ?_
            refine lv_iload_n hx hb dX8_lays_88 rfl (lv_at hl 1 rfl) ?_
            refine z_iald (n := 4) (f := mf_2) hx hb hK hP _ 1 (wMo_at5 cy a m0 m1 m2 m3 m4 m5 m6 m7 m8 m9 mb ms md mp mf_2 s39.2.1 s39.2.2.1 s39.2.2.2.1 s39.2.2.2.2 mk mt mq mz me) rfl hF dX8_lays_89 (fun hF => ?_)
            refine lv_imul hx hb dX8_lays_90 ?_
            refine lv_bipush (v := 10) hx hb dX8_lays_91 (by decide) ?_
            refine lv_idiv hx hb dX8_lays_93 (by decide) ?_
            refine lv_isub hx hb dX8_lays_94 ?_
            exact J95 ((s39.2.2.1 (zn (s39.1 - 1))) - ((o21 * (mf_2 (zn s39.1))) / 10)) _ _ ls hP hD hS (lv_sub hl [0, 1] rfl) hF
          · refine lv_aload_n hx hb dX8_lays_58 rfl (lv_at hl 0 rfl) ?_
            refine va_get (ci := 8) (C := RX8) (T := TX8) (N := 24) (fs := (zMo a m0 m1 m2 m3 m4 m5 m6 m7 m8 m9)) (v := .ref (a 2)) hx hb hts iX8 hown hK hP _ (wMo_at0 cy a m0 m1 m2 m3 m4 m5 m6 m7 m8 m9 mb ms md mp mf_2 s39.2.1 s39.2.2.1 s39.2.2.2.1 s39.2.2.2.2 mk mt mq mz me) rfl 3 (by decide) k13 (fun _ h9 => h9) rfl dX8_lays_59 ?_
            refine lv_iconst (v := 1) hx hb dX8_lays_62 (by decide) ?_
            refine z_iald (n := 114) (f := ms) hx hb hK hP _ 1 (wMo_at2 cy a m0 m1 m2 m3 m4 m5 m6 m7 m8 m9 mb ms md mp mf_2 s39.2.1 s39.2.2.1 s39.2.2.2.1 s39.2.2.2.2 mk mt mq mz me) rfl hF dX8_lays_63 (fun hF => ?_)
            refine lv_goto (tgt := 95) hx hb dX8_lays_64 (by decide) ?_
            exact J95 (ms (zn 1)) _ _ ls hP hD hS (lv_sub hl [0, 1] rfl) hF
    exact L39 1000 (0, mi, mo, mw, mn) _ _ ls hP hD hS (lv_sub hl [1, 0] rfl) hF
  have L11 : ∀ (n : Nat) (s11 : Int32 × Int32 × (Nat → Int32)) (H : Heap) (locs : List Loc) (ls : Array Slot), va_P G vwCl (wMo cy a m0 m1 m2 m3 m4 m5 m6 m7 m8 m9 mb ms md mp s11.2.2 mi mo mw mn mk mt mq mz me) H → va_D A (wMo cy a m0 m1 m2 m3 m4 m5 m6 m7 m8 m9 mb ms md mp s11.2.2 mi mo mw mn mk mt mq mz me) → va_S A s.heap H locs → lv_has ls 4 [(0, .ref (a 0)), (1, .int s11.1), (2, .int s11.2.1)] → zloop (b_X8_lays_11 ms mi mo mw mn) n s11 = some o → W p l e (zR 3) s m ([.ref (a 0)] : List Value).toArray below meth c H locs 0 0 (MQ below (zQv G cy A (wMo cy a m0 m1 m2 m3 m4 m5 m6 m7 m8 m9 mb ms md mp o.1 o.2.1 o.2.2.1 o.2.2.2.1 o.2.2.2.2 mk mt mq mz me)) ([.ref (a 0)] : List Value).toArray s 0 0 A) (F0 m 11 ls []) := by
    intro n
    induction n with
    | zero => exact fun s11 H locs ls _ _ _ _ hF => (zloop_0 hF).elim
    | succ n ih11 =>
      intro s11 H locs ls hP hD hS hl hF
      have hF : b_X8_lays_11 ms mi mo mw mn (zloop (b_X8_lays_11 ms mi mo mw mn) n) s11 = some o := hF
      generalize zloop (b_X8_lays_11 ms mi mo mw mn) n = rc11 at ih11 hF
      unfold b_X8_lays_11 at hF
      refine lv_iload_n hx hb dX8_lays_11 rfl (lv_at hl 2 rfl) ?_
      refine zf_lt (tgt := 37) hx hb hF dX8_lays_12 (by decide) (fun hF => ?_) (fun hF => ?_)
      · exact J37 s11.2.2 _ _ ls hP hD hS (lv_sub hl [0] rfl) hF
      · refine lv_iload_n hx hb dX8_lays_15 rfl (lv_at hl 1 rfl) ?_
        refine lv_aload_n hx hb dX8_lays_16 rfl (lv_at hl 0 rfl) ?_
        refine lv_iload_n hx hb dX8_lays_17 rfl (lv_at hl 2 rfl) ?_
        refine lv_iconst (v := 5) hx hb dX8_lays_18 (by decide) ?_
        refine z_cVi (b := a 0) (As := [.int s11.2.1, .int 5]) (rest := [.int s11.1]) (wc := (wMo cy a m0 m1 m2 m3 m4 m5 m6 m7 m8 m9 mb ms md mp s11.2.2 mi mo mw mn mk mt mq mz me)) (wcf := fun o' => (wMo cy a m0 m1 m2 m3 m4 m5 m6 m7 m8 m9 mb ms md mp s11.2.2 mi mo mw mn mk mt mq mz me)) (wf := fun o' => (wMo cy a m0 m1 m2 m3 m4 m5 m6 m7 m8 m9 mb ms md mp s11.2.2 mi mo mw mn mk mt mq mz me)) (rf := fun o' => o') hF (fun o' hz => c_X8_of l G cy st a m0 m1 m2 m3 m4 m5 m6 m7 m8 m9 mb ms md mp s11.2.2 mi mo mw mn mk mt mq mz me s11.2.1 5 o' hz) (fun o' => zCut_all) ⟨hx, hb, hml, hown, hts⟩ (cwV 2 hts gX8_lays_X8_of rfl rfl rfl (by decide +kernel) ⟨by decide, by decide⟩) (ci := 8) (q0 := 0) rfl (wMo_at0 cy a m0 m1 m2 m3 m4 m5 m6 m7 m8 m9 mb ms md mp s11.2.2 mi mo mw mn mk mt mq mz me) hK hSE hA hP hD hS rfl hl.1 rfl (Nat.le_of_ble_eq_true rfl) dX8_lays_19 ⟨Nat.le_refl _, Nat.le_refl _⟩ (fun o22 hF H locs hP hD hS => ?_)
        refine lv_iadd hx hb dX8_lays_22 ?_
        refine z_leti hF (fun x23 hF => ?_)
        refine lv_istore_n (lv' := [(1, .int x23), (0, .ref (a 0)), (2, .int s11.2.1)]) hx hb dX8_lays_23 rfl hl (by decide) rfl (fun ls hl => ?_)
        refine lv_aload_n hx hb dX8_lays_24 rfl (lv_at hl 1 rfl) ?_
        refine va_get (ci := 8) (C := RX8) (T := TX8) (N := 24) (fs := (zMo a m0 m1 m2 m3 m4 m5 m6 m7 m8 m9)) (v := .ref (a 5)) hx hb hts iX8 hown hK hP _ (wMo_at0 cy a m0 m1 m2 m3 m4 m5 m6 m7 m8 m9 mb ms md mp s11.2.2 mi mo mw mn mk mt mq mz me) rfl 9 (by decide) k23 (fun _ h9 => h9) rfl dX8_lays_25 ?_
        refine lv_iload_n hx hb dX8_lays_28 rfl (lv_at hl 2 rfl) ?_
        refine lv_iload_n hx hb dX8_lays_29 rfl (lv_at hl 0 rfl) ?_
        refine z_iast (n := 4) (f := s11.2.2) (i := s11.2.1) (x := x23) (wf := (fun y => (wMo cy a m0 m1 m2 m3 m4 m5 m6 m7 m8 m9 mb ms md mp y mi mo mw mn mk mt mq mz me))) hx hb hK hP hD hS _ 1 (wMo_foc5 cy a m0 m1 m2 m3 m4 m5 m6 m7 m8 m9 mb ms md mp s11.2.2 mi mo mw mn mk mt mq mz me _) rfl hF dX8_lays_30 (fun mf_24 hF H locs hP hD hS => ?_)
        refine z_name hF (fun x25 ex25 hF => ?_)
        refine lv_iinc (v := x25) (lv' := [(2, .int x25), (1, .int x23), (0, .ref (a 0))]) hx hb dX8_lays_31 hl (k := 2) rfl (by rw [ex25]; rfl) (by decide) rfl (fun ls hl => ?_)
        refine lv_goto (tgt := 11) hx hb dX8_lays_34 (by decide) ?_
        exact ih11 (x23, x25, mf_24) _ _ ls hP hD hS (lv_sub hl [2, 1, 0] rfl) hF
  exact L11 1000 (0, x1, mf) _ _ ls hP hD hS (lv_sub hl [2, 1, 0] rfl) hF
def j_X8_isQuiet_32 (rc4 : (Int32 × Int32) → Option (Int32)) (s4 : Int32 × Int32) (t2 : Int32) : Option (Int32) :=
zlet (s4.2 + 1) fun x3 =>
rc4 (t2, x3)
def j_X8_isQuiet_31 (rc4 : (Int32 × Int32) → Option (Int32)) (s4 : Int32 × Int32) : Option (Int32) :=
j_X8_isQuiet_32 rc4 s4 0
def b_X8_isQuiet_4 (ms : Nat → Int32) (mn : Nat → Int32) (rc4 : (Int32 × Int32) → Option (Int32)) (s4 : Int32 × Int32) : Option (Int32) :=
zg (zin 0 114) (
if (ms (zn 0)) ≤ s4.2 then (
zg (zbo s4.1) (some s4.1)) else (
if s4.1 = 0 then (
j_X8_isQuiet_31 rc4 s4) else (
zg (zin s4.2 4) (
if (mn (zn s4.2)) = 0 then (
j_X8_isQuiet_32 rc4 s4 1) else (
j_X8_isQuiet_31 rc4 s4)))))
def f_X8_isQuiet (ms : Nat → Int32) (mn : Nat → Int32) : Option (Int32) :=
zloop (b_X8_isQuiet_4 ms mn) 1000 (1, 0)
set_option maxHeartbeats 4000000 in
set_option maxRecDepth 100000 in
theorem c_X8_isQuiet (l : Launch) (G : va_G) (cy : Nat → ClassId) (st : Nat → Nat) (a : Nat → Nat) (m0 : Int32) (m1 : Int32) (m2 : Int32) (m3 : Int32) (m4 : Int32) (m5 : Int32) (m6 : Int32) (m7 : Int32) (m8 : Int32) (m9 : Int32) (mb : Nat → Int32) (ms : Nat → Int32) (md : Nat → Int32) (mp : Nat → Int32) (mf : Nat → Int32) (mi : Nat → Int32) (mo : Nat → Int32) (mw : Nat → Int32) (mn : Nat → Int32) (mk : Nat → Int32) (mt : Nat → Int64) (mq : Nat → Int32) (mz : Nat → Int32) (me : Nat → Int32) (o : Int32) (hF : f_X8_isQuiet ms mn = some o) : zMi l yX8_isQuiet wsX8_isQuiet (zR 1) G cy st [.ref (a 0)] (wMo cy a m0 m1 m2 m3 m4 m5 m6 m7 m8 m9 mb ms md mp mf mi mo mw mn mk mt mq mz me) (wMo cy a m0 m1 m2 m3 m4 m5 m6 m7 m8 m9 mb ms md mp mf mi mo mw mn mk mt mq mz me) o := by
  refine zM_of (cc := cX8_isQuiet) (maxL := 3) (ret := (some .boolean)) (Qc := fun A => zQi G cy A (wMo cy a m0 m1 m2 m3 m4 m5 m6 m7 m8 m9 mb ms md mp mf mi mo mw mn mk mt mq mz me) o) (by decide) rfl (Nat.le_of_ble_eq_true rfl) ?_
  intro p e s m below meth c A ls hx hb hml hr hlocks hown hts hK hSE hA hP hD hS hl
  have hown : s.vm.findClass RX8 = some m.cls := hown
  have hl : lv_has ls 3 [(0, .ref (a 0))] := hl
  have k13 := hts (.fieldLink RX8 13 "TapCascadeModel" "s" "[I") (by decide +kernel)
  have iX8 : ∀ w ∈ wsX80, w ∈ wsX8_isQuiet := fun w h => List.mem_cons_of_mem _ (List.mem_append_right _ h)
  have k35 := hts (.fieldLink RX8 35 "TapCascadeModel" "can" "[Z") (by decide +kernel)
  unfold f_X8_isQuiet at hF
  refine lv_iconst (v := 1) hx hb dX8_isQuiet_0 (by decide) ?_
  refine lv_istore_n (lv' := [(1, .int 1), (0, .ref (a 0))]) hx hb dX8_isQuiet_1 rfl hl (by decide) rfl (fun ls hl => ?_)
  refine lv_iconst (v := 0) hx hb dX8_isQuiet_2 (by decide) ?_
  refine lv_istore_n (lv' := [(2, .int 0), (1, .int 1), (0, .ref (a 0))]) hx hb dX8_isQuiet_3 rfl hl (by decide) rfl (fun ls hl => ?_)
  have L4 : ∀ (n : Nat) (s4 : Int32 × Int32) (H : Heap) (locs : List Loc) (ls : Array Slot), va_P G vwCl (wMo cy a m0 m1 m2 m3 m4 m5 m6 m7 m8 m9 mb ms md mp mf mi mo mw mn mk mt mq mz me) H → va_D A (wMo cy a m0 m1 m2 m3 m4 m5 m6 m7 m8 m9 mb ms md mp mf mi mo mw mn mk mt mq mz me) → va_S A s.heap H locs → lv_has ls 3 [(0, .ref (a 0)), (1, .int s4.1), (2, .int s4.2)] → zloop (b_X8_isQuiet_4 ms mn) n s4 = some o → W p l e (zR 1) s m ([.ref (a 0)] : List Value).toArray below meth c H locs 0 0 (MQ below (zQi G cy A (wMo cy a m0 m1 m2 m3 m4 m5 m6 m7 m8 m9 mb ms md mp mf mi mo mw mn mk mt mq mz me) o) ([.ref (a 0)] : List Value).toArray s 0 0 A) (F0 m 4 ls []) := by
    intro n
    induction n with
    | zero => exact fun s4 H locs ls _ _ _ _ hF => (zloop_0 hF).elim
    | succ n ih4 =>
      intro s4 H locs ls hP hD hS hl hF
      have hF : b_X8_isQuiet_4 ms mn (zloop (b_X8_isQuiet_4 ms mn) n) s4 = some o := hF
      generalize zloop (b_X8_isQuiet_4 ms mn) n = rc4 at ih4 hF
      unfold b_X8_isQuiet_4 at hF
      refine lv_iload_n hx hb dX8_isQuiet_4 rfl (lv_at hl 2 rfl) ?_
      refine lv_aload_n hx hb dX8_isQuiet_5 rfl (lv_at hl 0 rfl) ?_
      refine va_get (ci := 8) (C := RX8) (T := TX8) (N := 24) (fs := (zMo a m0 m1 m2 m3 m4 m5 m6 m7 m8 m9)) (v := .ref (a 2)) hx hb hts iX8 hown hK hP _ (wMo_at0 cy a m0 m1 m2 m3 m4 m5 m6 m7 m8 m9 mb ms md mp mf mi mo mw mn mk mt mq mz me) rfl 3 (by decide) k13 (fun _ h9 => h9) rfl dX8_isQuiet_6 ?_
      refine lv_iconst (v := 0) hx hb dX8_isQuiet_9 (by decide) ?_
      refine z_iald (n := 114) (f := ms) hx hb hK hP _ 1 (wMo_at2 cy a m0 m1 m2 m3 m4 m5 m6 m7 m8 m9 mb ms md mp mf mi mo mw mn mk mt mq mz me) rfl hF dX8_isQuiet_10 (fun hF => ?_)
      refine zi_ge (tgt := 39) hx hb hF dX8_isQuiet_11 (by decide) (fun hF => ?_) (fun hF => ?_)
      · refine lv_iload_n hx hb dX8_isQuiet_39 rfl (lv_at hl 1 rfl) ?_
        obtain ⟨g1, hF⟩ := zg_some hF
        refine z_zret (o := o) (o1 := s4.1) (v := s4.1) (wf := (fun o => (wMo cy a m0 m1 m2 m3 m4 m5 m6 m7 m8 m9 mb ms md mp mf mi mo mw mn mk mt mq mz me))) (rf := fun o => o) hx hb hr hlocks hK ?_ ?_ hS ?_ rfl (zbo_n g1) dX8_isQuiet_40
        · exact hP
        · exact hD
        · exact hF
      · refine lv_iload_n hx hb dX8_isQuiet_14 rfl (lv_at hl 1 rfl) ?_
        have J32 : ∀ (t2 : Int32) (H : Heap) (locs : List Loc) (ls : Array Slot), va_P G vwCl (wMo cy a m0 m1 m2 m3 m4 m5 m6 m7 m8 m9 mb ms md mp mf mi mo mw mn mk mt mq mz me) H → va_D A (wMo cy a m0 m1 m2 m3 m4 m5 m6 m7 m8 m9 mb ms md mp mf mi mo mw mn mk mt mq mz me) → va_S A s.heap H locs → lv_has ls 3 [(0, .ref (a 0)), (2, .int s4.2)] → j_X8_isQuiet_32 rc4 s4 t2 = some o → W p l e (zR 1) s m ([.ref (a 0)] : List Value).toArray below meth c H locs 0 0 (MQ below (zQi G cy A (wMo cy a m0 m1 m2 m3 m4 m5 m6 m7 m8 m9 mb ms md mp mf mi mo mw mn mk mt mq mz me) o) ([.ref (a 0)] : List Value).toArray s 0 0 A) (F0 m 32 ls [.int t2]) := by
          intro t2 H locs ls hP hD hS hl hF
          unfold j_X8_isQuiet_32 at hF
          refine lv_istore_n (lv' := [(1, .int t2), (0, .ref (a 0)), (2, .int s4.2)]) hx hb dX8_isQuiet_32 rfl hl (by decide) rfl (fun ls hl => ?_)
          refine z_name hF (fun x3 ex3 hF => ?_)
          refine lv_iinc (v := x3) (lv' := [(2, .int x3), (1, .int t2), (0, .ref (a 0))]) hx hb dX8_isQuiet_33 hl (k := 2) rfl (by rw [ex3]; rfl) (by decide) rfl (fun ls hl => ?_)
          refine lv_goto (tgt := 4) hx hb dX8_isQuiet_36 (by decide) ?_
          exact ih4 (t2, x3) _ _ ls hP hD hS (lv_sub hl [2, 1, 0] rfl) hF
        have J31 : ∀ (H : Heap) (locs : List Loc) (ls : Array Slot), va_P G vwCl (wMo cy a m0 m1 m2 m3 m4 m5 m6 m7 m8 m9 mb ms md mp mf mi mo mw mn mk mt mq mz me) H → va_D A (wMo cy a m0 m1 m2 m3 m4 m5 m6 m7 m8 m9 mb ms md mp mf mi mo mw mn mk mt mq mz me) → va_S A s.heap H locs → lv_has ls 3 [(0, .ref (a 0)), (2, .int s4.2)] → j_X8_isQuiet_31 rc4 s4 = some o → W p l e (zR 1) s m ([.ref (a 0)] : List Value).toArray below meth c H locs 0 0 (MQ below (zQi G cy A (wMo cy a m0 m1 m2 m3 m4 m5 m6 m7 m8 m9 mb ms md mp mf mi mo mw mn mk mt mq mz me) o) ([.ref (a 0)] : List Value).toArray s 0 0 A) (F0 m 31 ls []) := by
          intro H locs ls hP hD hS hl hF
          unfold j_X8_isQuiet_31 at hF
          refine lv_iconst (v := 0) hx hb dX8_isQuiet_31 (by decide) ?_
          exact J32 0 _ _ ls hP hD hS (lv_sub hl [0, 1] rfl) hF
        refine zf_eq (tgt := 31) hx hb hF dX8_isQuiet_15 (by decide) (fun hF => ?_) (fun hF => ?_)
        · exact J31 _ _ ls hP hD hS (lv_sub hl [0, 2] rfl) hF
        · refine lv_aload_n hx hb dX8_isQuiet_18 rfl (lv_at hl 0 rfl) ?_
          refine va_get (ci := 8) (C := RX8) (T := TX8) (N := 24) (fs := (zMo a m0 m1 m2 m3 m4 m5 m6 m7 m8 m9)) (v := .ref (a 9)) hx hb hts iX8 hown hK hP _ (wMo_at0 cy a m0 m1 m2 m3 m4 m5 m6 m7 m8 m9 mb ms md mp mf mi mo mw mn mk mt mq mz me) rfl 13 (by decide) k35 (fun _ h9 => h9) rfl dX8_isQuiet_19 ?_
          refine lv_iload_n hx hb dX8_isQuiet_22 rfl (lv_at hl 2 rfl) ?_
          refine z_zald (n := 4) (f := mn) hx hb hK hP _ 3 (wMo_at9 cy a m0 m1 m2 m3 m4 m5 m6 m7 m8 m9 mb ms md mp mf mi mo mw mn mk mt mq mz me) rfl hF dX8_isQuiet_23 (fun hF => ?_)
          refine zf_ne (tgt := 31) hx hb hF dX8_isQuiet_24 (by decide) (fun hF => ?_) (fun hF => ?_)
          · exact J31 _ _ ls hP hD hS (lv_sub hl [0, 2] rfl) hF
          · refine lv_iconst (v := 1) hx hb dX8_isQuiet_27 (by decide) ?_
            refine lv_goto (tgt := 32) hx hb dX8_isQuiet_28 (by decide) ?_
            exact J32 1 _ _ ls hP hD hS (lv_sub hl [0, 2] rfl) hF
  exact L4 1000 (1, 0) _ _ ls hP hD hS (lv_sub hl [2, 1, 0] rfl) hF
def j_X8_offOf_39 (rc4 : (Int32 × Int32) → Option (Int32)) (s4 : Int32 × Int32) (t3 : Int32) : Option (Int32) :=
zlet (s4.1 + t3) fun x4 =>
zlet (s4.2 + 1) fun x5 =>
rc4 (x4, x5)
def b_X8_offOf_4 (ms : Nat → Int32) (mo : Nat → Int32) (rc4 : (Int32 × Int32) → Option (Int32)) (s4 : Int32 × Int32) : Option (Int32) :=
zg (zin 0 114) (
if (ms (zn 0)) ≤ s4.2 then (
some s4.1) else (
zg (zin s4.2 4) (
zbd (f_X8_of ms s4.2 1) fun o1 =>
zlet ((mo (zn s4.2)) - o1) fun x2 =>
if 0 ≤ x2 then (
j_X8_offOf_39 rc4 s4 x2) else (
j_X8_offOf_39 rc4 s4 (-x2)))))
def f_X8_offOf (ms : Nat → Int32) (mo : Nat → Int32) : Option (Int32) :=
zloop (b_X8_offOf_4 ms mo) 1000 (0, 0)
set_option maxHeartbeats 4000000 in
set_option maxRecDepth 100000 in
theorem c_X8_offOf (l : Launch) (G : va_G) (cy : Nat → ClassId) (st : Nat → Nat) (a : Nat → Nat) (m0 : Int32) (m1 : Int32) (m2 : Int32) (m3 : Int32) (m4 : Int32) (m5 : Int32) (m6 : Int32) (m7 : Int32) (m8 : Int32) (m9 : Int32) (mb : Nat → Int32) (ms : Nat → Int32) (md : Nat → Int32) (mp : Nat → Int32) (mf : Nat → Int32) (mi : Nat → Int32) (mo : Nat → Int32) (mw : Nat → Int32) (mn : Nat → Int32) (mk : Nat → Int32) (mt : Nat → Int64) (mq : Nat → Int32) (mz : Nat → Int32) (me : Nat → Int32) (o : Int32) (hF : f_X8_offOf ms mo = some o) : zMi l yX8_offOf wsX8_offOf (zR 2) G cy st [.ref (a 0)] (wMo cy a m0 m1 m2 m3 m4 m5 m6 m7 m8 m9 mb ms md mp mf mi mo mw mn mk mt mq mz me) (wMo cy a m0 m1 m2 m3 m4 m5 m6 m7 m8 m9 mb ms md mp mf mi mo mw mn mk mt mq mz me) o := by
  refine zM_of (cc := cX8_offOf) (maxL := 4) (ret := (some .int)) (Qc := fun A => zQi G cy A (wMo cy a m0 m1 m2 m3 m4 m5 m6 m7 m8 m9 mb ms md mp mf mi mo mw mn mk mt mq mz me) o) (by decide) rfl (Nat.le_of_ble_eq_true rfl) ?_
  intro p e s m below meth c A ls hx hb hml hr hlocks hown hts hK hSE hA hP hD hS hl
  have hown : s.vm.findClass RX8 = some m.cls := hown
  have hl : lv_has ls 4 [(0, .ref (a 0))] := hl
  have k13 := hts (.fieldLink RX8 13 "TapCascadeModel" "s" "[I") (by decide +kernel)
  have iX8 : ∀ w ∈ wsX80, w ∈ wsX8_offOf := fun w h => List.mem_cons_of_mem _ (List.mem_append_right _ h)
  have k29 := hts (.fieldLink RX8 29 "TapCascadeModel" "goesOut" "[I") (by decide +kernel)
  unfold f_X8_offOf at hF
  refine lv_iconst (v := 0) hx hb dX8_offOf_0 (by decide) ?_
  refine lv_istore_n (lv' := [(1, .int 0), (0, .ref (a 0))]) hx hb dX8_offOf_1 rfl hl (by decide) rfl (fun ls hl => ?_)
  refine lv_iconst (v := 0) hx hb dX8_offOf_2 (by decide) ?_
  refine lv_istore_n (lv' := [(2, .int 0), (1, .int 0), (0, .ref (a 0))]) hx hb dX8_offOf_3 rfl hl (by decide) rfl (fun ls hl => ?_)
  have L4 : ∀ (n : Nat) (s4 : Int32 × Int32) (H : Heap) (locs : List Loc) (ls : Array Slot), va_P G vwCl (wMo cy a m0 m1 m2 m3 m4 m5 m6 m7 m8 m9 mb ms md mp mf mi mo mw mn mk mt mq mz me) H → va_D A (wMo cy a m0 m1 m2 m3 m4 m5 m6 m7 m8 m9 mb ms md mp mf mi mo mw mn mk mt mq mz me) → va_S A s.heap H locs → lv_has ls 4 [(0, .ref (a 0)), (1, .int s4.1), (2, .int s4.2)] → zloop (b_X8_offOf_4 ms mo) n s4 = some o → W p l e (zR 2) s m ([.ref (a 0)] : List Value).toArray below meth c H locs 0 0 (MQ below (zQi G cy A (wMo cy a m0 m1 m2 m3 m4 m5 m6 m7 m8 m9 mb ms md mp mf mi mo mw mn mk mt mq mz me) o) ([.ref (a 0)] : List Value).toArray s 0 0 A) (F0 m 4 ls []) := by
    intro n
    induction n with
    | zero => exact fun s4 H locs ls _ _ _ _ hF => (zloop_0 hF).elim
    | succ n ih4 =>
      intro s4 H locs ls hP hD hS hl hF
      have hF : b_X8_offOf_4 ms mo (zloop (b_X8_offOf_4 ms mo) n) s4 = some o := hF
      generalize zloop (b_X8_offOf_4 ms mo) n = rc4 at ih4 hF
      unfold b_X8_offOf_4 at hF
      refine lv_iload_n hx hb dX8_offOf_4 rfl (lv_at hl 2 rfl) ?_
      refine lv_aload_n hx hb dX8_offOf_5 rfl (lv_at hl 0 rfl) ?_
      refine va_get (ci := 8) (C := RX8) (T := TX8) (N := 24) (fs := (zMo a m0 m1 m2 m3 m4 m5 m6 m7 m8 m9)) (v := .ref (a 2)) hx hb hts iX8 hown hK hP _ (wMo_at0 cy a m0 m1 m2 m3 m4 m5 m6 m7 m8 m9 mb ms md mp mf mi mo mw mn mk mt mq mz me) rfl 3 (by decide) k13 (fun _ h9 => h9) rfl dX8_offOf_6 ?_
      refine lv_iconst (v := 0) hx hb dX8_offOf_9 (by decide) ?_
      refine z_iald (n := 114) (f := ms) hx hb hK hP _ 1 (wMo_at2 cy a m0 m1 m2 m3 m4 m5 m6 m7 m8 m9 mb ms md mp mf mi mo mw mn mk mt mq mz me) rfl hF dX8_offOf_10 (fun hF => ?_)
      refine zi_ge (tgt := 47) hx hb hF dX8_offOf_11 (by decide) (fun hF => ?_) (fun hF => ?_)
      · refine lv_iload_n hx hb dX8_offOf_47 rfl (lv_at hl 1 rfl) ?_
        refine z_iret (o := o) (o1 := s4.1) (v := s4.1) (wf := (fun o => (wMo cy a m0 m1 m2 m3 m4 m5 m6 m7 m8 m9 mb ms md mp mf mi mo mw mn mk mt mq mz me))) (rf := fun o => o) hx hb hr hlocks hK ?_ ?_ hS ?_ rfl dX8_offOf_48
        · exact hP
        · exact hD
        · exact hF
      · refine lv_aload_n hx hb dX8_offOf_14 rfl (lv_at hl 0 rfl) ?_
        refine va_get (ci := 8) (C := RX8) (T := TX8) (N := 24) (fs := (zMo a m0 m1 m2 m3 m4 m5 m6 m7 m8 m9)) (v := .ref (a 7)) hx hb hts iX8 hown hK hP _ (wMo_at0 cy a m0 m1 m2 m3 m4 m5 m6 m7 m8 m9 mb ms md mp mf mi mo mw mn mk mt mq mz me) rfl 11 (by decide) k29 (fun _ h9 => h9) rfl dX8_offOf_15 ?_
        refine lv_iload_n hx hb dX8_offOf_18 rfl (lv_at hl 2 rfl) ?_
        refine z_iald (n := 4) (f := mo) hx hb hK hP _ 1 (wMo_at7 cy a m0 m1 m2 m3 m4 m5 m6 m7 m8 m9 mb ms md mp mf mi mo mw mn mk mt mq mz me) rfl hF dX8_offOf_19 (fun hF => ?_)
        refine lv_aload_n hx hb dX8_offOf_20 rfl (lv_at hl 0 rfl) ?_
        refine lv_iload_n hx hb dX8_offOf_21 rfl (lv_at hl 2 rfl) ?_
        refine lv_iconst (v := 1) hx hb dX8_offOf_22 (by decide) ?_
        refine z_cVi (b := a 0) (As := [.int s4.2, .int 1]) (rest := [.int (mo (zn s4.2))]) (wc := (wMo cy a m0 m1 m2 m3 m4 m5 m6 m7 m8 m9 mb ms md mp mf mi mo mw mn mk mt mq mz me)) (wcf := fun o' => (wMo cy a m0 m1 m2 m3 m4 m5 m6 m7 m8 m9 mb ms md mp mf mi mo mw mn mk mt mq mz me)) (wf := fun o' => (wMo cy a m0 m1 m2 m3 m4 m5 m6 m7 m8 m9 mb ms md mp mf mi mo mw mn mk mt mq mz me)) (rf := fun o' => o') hF (fun o' hz => c_X8_of l G cy st a m0 m1 m2 m3 m4 m5 m6 m7 m8 m9 mb ms md mp mf mi mo mw mn mk mt mq mz me s4.2 1 o' hz) (fun o' => zCut_all) ⟨hx, hb, hml, hown, hts⟩ (cwV 2 hts gX8_offOf_X8_of rfl rfl rfl (by decide +kernel) ⟨by decide, by decide⟩) (ci := 8) (q0 := 0) rfl (wMo_at0 cy a m0 m1 m2 m3 m4 m5 m6 m7 m8 m9 mb ms md mp mf mi mo mw mn mk mt mq mz me) hK hSE hA hP hD hS rfl hl.1 rfl (Nat.le_of_ble_eq_true rfl) dX8_offOf_23 ⟨Nat.le_refl _, Nat.le_refl _⟩ (fun o1 hF H locs hP hD hS => ?_)
        refine lv_isub hx hb dX8_offOf_26 ?_
        refine z_leti hF (fun x2 hF => ?_)
        refine lv_istore_n (lv' := [(3, .int x2), (0, .ref (a 0)), (1, .int s4.1), (2, .int s4.2)]) hx hb dX8_offOf_27 rfl hl (by decide) rfl (fun ls hl => ?_)
        refine lv_iload_n hx hb dX8_offOf_28 rfl (lv_at hl 2 rfl) ?_
        refine lv_iload_n hx hb dX8_offOf_29 rfl (lv_at hl 0 rfl) ?_
        have J39 : ∀ (t3 : Int32) (H : Heap) (locs : List Loc) (ls : Array Slot), va_P G vwCl (wMo cy a m0 m1 m2 m3 m4 m5 m6 m7 m8 m9 mb ms md mp mf mi mo mw mn mk mt mq mz me) H → va_D A (wMo cy a m0 m1 m2 m3 m4 m5 m6 m7 m8 m9 mb ms md mp mf mi mo mw mn mk mt mq mz me) → va_S A s.heap H locs → lv_has ls 4 [(0, .ref (a 0)), (2, .int s4.2)] → j_X8_offOf_39 rc4 s4 t3 = some o → W p l e (zR 2) s m ([.ref (a 0)] : List Value).toArray below meth c H locs 0 0 (MQ below (zQi G cy A (wMo cy a m0 m1 m2 m3 m4 m5 m6 m7 m8 m9 mb ms md mp mf mi mo mw mn mk mt mq mz me) o) ([.ref (a 0)] : List Value).toArray s 0 0 A) (F0 m 39 ls [.int t3, .int s4.1]) := by
          intro t3 H locs ls hP hD hS hl hF
          unfold j_X8_offOf_39 at hF
          refine lv_iadd hx hb dX8_offOf_39 ?_
          refine z_leti hF (fun x4 hF => ?_)
          refine lv_istore_n (lv' := [(1, .int x4), (0, .ref (a 0)), (2, .int s4.2)]) hx hb dX8_offOf_40 rfl hl (by decide) rfl (fun ls hl => ?_)
          refine z_name hF (fun x5 ex5 hF => ?_)
          refine lv_iinc (v := x5) (lv' := [(2, .int x5), (1, .int x4), (0, .ref (a 0))]) hx hb dX8_offOf_41 hl (k := 2) rfl (by rw [ex5]; rfl) (by decide) rfl (fun ls hl => ?_)
          refine lv_goto (tgt := 4) hx hb dX8_offOf_44 (by decide) ?_
          exact ih4 (x4, x5) _ _ ls hP hD hS (lv_sub hl [2, 1, 0] rfl) hF
        refine zf_ge (tgt := 38) hx hb hF dX8_offOf_30 (by decide) (fun hF => ?_) (fun hF => ?_)
        · refine lv_iload_n hx hb dX8_offOf_38 rfl (lv_at hl 0 rfl) ?_
          exact J39 x2 _ _ ls hP hD hS (lv_sub hl [1, 3] rfl) hF
        · refine lv_iload_n hx hb dX8_offOf_33 rfl (lv_at hl 0 rfl) ?_
          refine lv_ineg hx hb dX8_offOf_34 ?_
          refine lv_goto (tgt := 39) hx hb dX8_offOf_35 (by decide) ?_
          exact J39 (-x2) _ _ ls hP hD hS (lv_sub hl [1, 3] rfl) hF
  exact L4 1000 (0, 0) _ _ ls hP hD hS (lv_sub hl [2, 1, 0] rfl) hF
def j_X8_counts_100 (rc2 : (Int32 × (Nat → Int32) × (Nat → Int32)) → Option ((Nat → Int32) × (Nat → Int32))) (s2 : Int32 × (Nat → Int32) × (Nat → Int32)) (o3 : (Nat → Int32)) (t6 : Int32) : Option ((Nat → Int32) × (Nat → Int32)) :=
zg (zin s2.1 4) (
zlet (upd s2.2.2 (zn s2.1) (vp_nar .boolean t6)) fun mk_7 =>
zlet (s2.1 + 1) fun x8 =>
rc2 (x8, o3, mk_7))
def j_X8_counts_58 (mw : Nat → Int32) (rc2 : (Int32 × (Nat → Int32) × (Nat → Int32)) → Option ((Nat → Int32) × (Nat → Int32))) (s2 : Int32 × (Nat → Int32) × (Nat → Int32)) (t1 : Int32) : Option ((Nat → Int32) × (Nat → Int32)) :=
zbd (f_X8_puts s2.2.1 s2.1 9 t1) fun o2 =>
zg (zin s2.1 4) (
zbd (f_X8_puts o2 s2.1 10 (mw (zn s2.1))) fun o3 =>
zbd (f_X8_of o3 s2.1 9) fun o4 =>
zbd (f_X8_of o3 s2.1 3) fun o5 =>
if o4 < o5 then (
j_X8_counts_100 rc2 s2 o3 0) else (
j_X8_counts_100 rc2 s2 o3 1))
def b_X8_counts_2 (mw : Nat → Int32) (rc2 : (Int32 × (Nat → Int32) × (Nat → Int32)) → Option ((Nat → Int32) × (Nat → Int32))) (s2 : Int32 × (Nat → Int32) × (Nat → Int32)) : Option ((Nat → Int32) × (Nat → Int32)) :=
zg (zin 0 114) (
if (s2.2.1 (zn 0)) ≤ s2.1 then (
some (s2.2.1, s2.2.2)) else (
zg (zin s2.1 4) (
if (mw (zn s2.1)) = 0 then (
j_X8_counts_58 mw rc2 s2 0) else (
zg (zin s2.1 4) (
zbd (f_X8_of s2.2.1 s2.1 10) fun o9 =>
if (mw (zn s2.1)) = o9 then (
zbd (f_X8_of s2.2.1 s2.1 9) fun o10 =>
j_X8_counts_58 mw rc2 s2 (o10 + 1)) else (
j_X8_counts_58 mw rc2 s2 1))))))
def f_X8_counts (ms : Nat → Int32) (mw : Nat → Int32) (mk : Nat → Int32) : Option ((Nat → Int32) × (Nat → Int32)) :=
zloop (b_X8_counts_2 mw) 1000 (0, ms, mk)
set_option maxHeartbeats 4000000 in
set_option maxRecDepth 100000 in
theorem c_X8_counts (l : Launch) (G : va_G) (cy : Nat → ClassId) (st : Nat → Nat) (a : Nat → Nat) (m0 : Int32) (m1 : Int32) (m2 : Int32) (m3 : Int32) (m4 : Int32) (m5 : Int32) (m6 : Int32) (m7 : Int32) (m8 : Int32) (m9 : Int32) (mb : Nat → Int32) (ms : Nat → Int32) (md : Nat → Int32) (mp : Nat → Int32) (mf : Nat → Int32) (mi : Nat → Int32) (mo : Nat → Int32) (mw : Nat → Int32) (mn : Nat → Int32) (mk : Nat → Int32) (mt : Nat → Int64) (mq : Nat → Int32) (mz : Nat → Int32) (me : Nat → Int32) (o : (Nat → Int32) × (Nat → Int32)) (hF : f_X8_counts ms mw mk = some o) : zMv l yX8_counts wsX8_counts (zR 2) G cy st [.ref (a 0)] (wMo cy a m0 m1 m2 m3 m4 m5 m6 m7 m8 m9 mb ms md mp mf mi mo mw mn mk mt mq mz me) (wMo cy a m0 m1 m2 m3 m4 m5 m6 m7 m8 m9 mb o.1 md mp mf mi mo mw mn o.2 mt mq mz me) := by
  refine zM_of (cc := cX8_counts) (maxL := 2) (ret := none) (Qc := fun A => zQv G cy A (wMo cy a m0 m1 m2 m3 m4 m5 m6 m7 m8 m9 mb o.1 md mp mf mi mo mw mn o.2 mt mq mz me)) (by decide) rfl (Nat.le_of_ble_eq_true rfl) ?_
  intro p e s m below meth c A ls hx hb hml hr hlocks hown hts hK hSE hA hP hD hS hl
  have hown : s.vm.findClass RX8 = some m.cls := hown
  have hl : lv_has ls 2 [(0, .ref (a 0))] := hl
  have k13 := hts (.fieldLink RX8 13 "TapCascadeModel" "s" "[I") (by decide +kernel)
  have iX8 : ∀ w ∈ wsX80, w ∈ wsX8_counts := fun w h => List.mem_cons_of_mem _ (List.mem_append_right _ h)
  have k32 := hts (.fieldLink RX8 32 "TapCascadeModel" "want" "[I") (by decide +kernel)
  have k39 := hts (.fieldLink RX8 39 "TapCascadeModel" "called" "[Z") (by decide +kernel)
  unfold f_X8_counts at hF
  refine lv_iconst (v := 0) hx hb dX8_counts_0 (by decide) ?_
  refine lv_istore_n (lv' := [(1, .int 0), (0, .ref (a 0))]) hx hb dX8_counts_1 rfl hl (by decide) rfl (fun ls hl => ?_)
  have L2 : ∀ (n : Nat) (s2 : Int32 × (Nat → Int32) × (Nat → Int32)) (H : Heap) (locs : List Loc) (ls : Array Slot), va_P G vwCl (wMo cy a m0 m1 m2 m3 m4 m5 m6 m7 m8 m9 mb s2.2.1 md mp mf mi mo mw mn s2.2.2 mt mq mz me) H → va_D A (wMo cy a m0 m1 m2 m3 m4 m5 m6 m7 m8 m9 mb s2.2.1 md mp mf mi mo mw mn s2.2.2 mt mq mz me) → va_S A s.heap H locs → lv_has ls 2 [(0, .ref (a 0)), (1, .int s2.1)] → zloop (b_X8_counts_2 mw) n s2 = some o → W p l e (zR 2) s m ([.ref (a 0)] : List Value).toArray below meth c H locs 0 0 (MQ below (zQv G cy A (wMo cy a m0 m1 m2 m3 m4 m5 m6 m7 m8 m9 mb o.1 md mp mf mi mo mw mn o.2 mt mq mz me)) ([.ref (a 0)] : List Value).toArray s 0 0 A) (F0 m 2 ls []) := by
    intro n
    induction n with
    | zero => exact fun s2 H locs ls _ _ _ _ hF => (zloop_0 hF).elim
    | succ n ih2 =>
      intro s2 H locs ls hP hD hS hl hF
      have hF : b_X8_counts_2 mw (zloop (b_X8_counts_2 mw) n) s2 = some o := hF
      generalize zloop (b_X8_counts_2 mw) n = rc2 at ih2 hF
      unfold b_X8_counts_2 at hF
      refine lv_iload_n hx hb dX8_counts_2 rfl (lv_at hl 1 rfl) ?_
      refine lv_aload_n hx hb dX8_counts_3 rfl (lv_at hl 0 rfl) ?_
      refine va_get (ci := 8) (C := RX8) (T := TX8) (N := 24) (fs := (zMo a m0 m1 m2 m3 m4 m5 m6 m7 m8 m9)) (v := .ref (a 2)) hx hb hts iX8 hown hK hP _ (wMo_at0 cy a m0 m1 m2 m3 m4 m5 m6 m7 m8 m9 mb s2.2.1 md mp mf mi mo mw mn s2.2.2 mt mq mz me) rfl 3 (by decide) k13 (fun _ h9 => h9) rfl dX8_counts_4 ?_
      refine lv_iconst (v := 0) hx hb dX8_counts_7 (by decide) ?_
      refine z_iald (n := 114) (f := s2.2.1) hx hb hK hP _ 1 (wMo_at2 cy a m0 m1 m2 m3 m4 m5 m6 m7 m8 m9 mb s2.2.1 md mp mf mi mo mw mn s2.2.2 mt mq mz me) rfl hF dX8_counts_8 (fun hF => ?_)
      refine zi_ge (tgt := 107) hx hb hF dX8_counts_9 (by decide) (fun hF => ?_) (fun hF => ?_)
      · refine z_vret (o := o) (o1 := (s2.2.1, s2.2.2)) (wf := (fun o => (wMo cy a m0 m1 m2 m3 m4 m5 m6 m7 m8 m9 mb o.1 md mp mf mi mo mw mn o.2 mt mq mz me))) hx hb hr hlocks hK ?_ ?_ hS ?_ dX8_counts_107
        · exact hP
        · exact hD
        · exact hF
      · refine lv_aload_n hx hb dX8_counts_12 rfl (lv_at hl 0 rfl) ?_
        refine lv_iload_n hx hb dX8_counts_13 rfl (lv_at hl 1 rfl) ?_
        refine lv_bipush (v := 9) hx hb dX8_counts_14 (by decide) ?_
        refine lv_aload_n hx hb dX8_counts_16 rfl (lv_at hl 0 rfl) ?_
        refine va_get (ci := 8) (C := RX8) (T := TX8) (N := 24) (fs := (zMo a m0 m1 m2 m3 m4 m5 m6 m7 m8 m9)) (v := .ref (a 8)) hx hb hts iX8 hown hK hP _ (wMo_at0 cy a m0 m1 m2 m3 m4 m5 m6 m7 m8 m9 mb s2.2.1 md mp mf mi mo mw mn s2.2.2 mt mq mz me) rfl 12 (by decide) k32 (fun _ h9 => h9) rfl dX8_counts_17 ?_
        refine lv_iload_n hx hb dX8_counts_20 rfl (lv_at hl 1 rfl) ?_
        refine z_iald (n := 4) (f := mw) hx hb hK hP _ 1 (wMo_at8 cy a m0 m1 m2 m3 m4 m5 m6 m7 m8 m9 mb s2.2.1 md mp mf mi mo mw mn s2.2.2 mt mq mz me) rfl hF dX8_counts_21 (fun hF => ?_)
        have J58 : ∀ (t1 : Int32) (H : Heap) (locs : List Loc) (ls : Array Slot), va_P G vwCl (wMo cy a m0 m1 m2 m3 m4 m5 m6 m7 m8 m9 mb s2.2.1 md mp mf mi mo mw mn s2.2.2 mt mq mz me) H → va_D A (wMo cy a m0 m1 m2 m3 m4 m5 m6 m7 m8 m9 mb s2.2.1 md mp mf mi mo mw mn s2.2.2 mt mq mz me) → va_S A s.heap H locs → lv_has ls 2 [(0, .ref (a 0)), (1, .int s2.1)] → j_X8_counts_58 mw rc2 s2 t1 = some o → W p l e (zR 2) s m ([.ref (a 0)] : List Value).toArray below meth c H locs 0 0 (MQ below (zQv G cy A (wMo cy a m0 m1 m2 m3 m4 m5 m6 m7 m8 m9 mb o.1 md mp mf mi mo mw mn o.2 mt mq mz me)) ([.ref (a 0)] : List Value).toArray s 0 0 A) (F0 m 58 ls [.int t1, .int 9, .int s2.1, .ref (a 0)]) := by
          intro t1 H locs ls hP hD hS hl hF
          unfold j_X8_counts_58 at hF
          refine z_cVv (b := a 0) (As := [.int s2.1, .int 9, .int t1]) (rest := []) (wc := (wMo cy a m0 m1 m2 m3 m4 m5 m6 m7 m8 m9 mb s2.2.1 md mp mf mi mo mw mn s2.2.2 mt mq mz me)) (wcf := fun o' => (wMo cy a m0 m1 m2 m3 m4 m5 m6 m7 m8 m9 mb o' md mp mf mi mo mw mn s2.2.2 mt mq mz me)) (wf := fun o' => (wMo cy a m0 m1 m2 m3 m4 m5 m6 m7 m8 m9 mb o' md mp mf mi mo mw mn s2.2.2 mt mq mz me)) hF (fun o' hz => c_X8_puts l G cy st a m0 m1 m2 m3 m4 m5 m6 m7 m8 m9 mb s2.2.1 md mp mf mi mo mw mn s2.2.2 mt mq mz me s2.1 9 t1 o' hz) (fun o' => zCut_all) ⟨hx, hb, hml, hown, hts⟩ (cwV 3 hts gX8_counts_X8_puts rfl rfl rfl (by decide +kernel) ⟨by decide, by decide⟩) (ci := 8) (q0 := 0) rfl (wMo_at0 cy a m0 m1 m2 m3 m4 m5 m6 m7 m8 m9 mb s2.2.1 md mp mf mi mo mw mn s2.2.2 mt mq mz me) hK hSE hA hP hD hS rfl hl.1 rfl (Nat.le_of_ble_eq_true rfl) dX8_counts_58 ⟨Nat.le_refl _, Nat.le_refl _⟩ (fun o2 hF H locs hP hD hS => ?_)
          refine lv_aload_n hx hb dX8_counts_61 rfl (lv_at hl 0 rfl) ?_
          refine lv_iload_n hx hb dX8_counts_62 rfl (lv_at hl 1 rfl) ?_
          refine lv_bipush (v := 10) hx hb dX8_counts_63 (by decide) ?_
          refine lv_aload_n hx hb dX8_counts_65 rfl (lv_at hl 0 rfl) ?_
          refine va_get (ci := 8) (C := RX8) (T := TX8) (N := 24) (fs := (zMo a m0 m1 m2 m3 m4 m5 m6 m7 m8 m9)) (v := .ref (a 8)) hx hb hts iX8 hown hK hP _ (wMo_at0 cy a m0 m1 m2 m3 m4 m5 m6 m7 m8 m9 mb o2 md mp mf mi mo mw mn s2.2.2 mt mq mz me) rfl 12 (by decide) k32 (fun _ h9 => h9) rfl dX8_counts_66 ?_
          refine lv_iload_n hx hb dX8_counts_69 rfl (lv_at hl 1 rfl) ?_
          refine z_iald (n := 4) (f := mw) hx hb hK hP _ 1 (wMo_at8 cy a m0 m1 m2 m3 m4 m5 m6 m7 m8 m9 mb o2 md mp mf mi mo mw mn s2.2.2 mt mq mz me) rfl hF dX8_counts_70 (fun hF => ?_)
          refine z_cVv (b := a 0) (As := [.int s2.1, .int 10, .int (mw (zn s2.1))]) (rest := []) (wc := (wMo cy a m0 m1 m2 m3 m4 m5 m6 m7 m8 m9 mb o2 md mp mf mi mo mw mn s2.2.2 mt mq mz me)) (wcf := fun o' => (wMo cy a m0 m1 m2 m3 m4 m5 m6 m7 m8 m9 mb o' md mp mf mi mo mw mn s2.2.2 mt mq mz me)) (wf := fun o' => (wMo cy a m0 m1 m2 m3 m4 m5 m6 m7 m8 m9 mb o' md mp mf mi mo mw mn s2.2.2 mt mq mz me)) hF (fun o' hz => c_X8_puts l G cy st a m0 m1 m2 m3 m4 m5 m6 m7 m8 m9 mb o2 md mp mf mi mo mw mn s2.2.2 mt mq mz me s2.1 10 (mw (zn s2.1)) o' hz) (fun o' => zCut_all) ⟨hx, hb, hml, hown, hts⟩ (cwV 3 hts gX8_counts_X8_puts rfl rfl rfl (by decide +kernel) ⟨by decide, by decide⟩) (ci := 8) (q0 := 0) rfl (wMo_at0 cy a m0 m1 m2 m3 m4 m5 m6 m7 m8 m9 mb o2 md mp mf mi mo mw mn s2.2.2 mt mq mz me) hK hSE hA hP hD hS rfl hl.1 rfl (Nat.le_of_ble_eq_true rfl) dX8_counts_71 ⟨Nat.le_refl _, Nat.le_refl _⟩ (fun o3 hF H locs hP hD hS => ?_)
          refine lv_aload_n hx hb dX8_counts_74 rfl (lv_at hl 0 rfl) ?_
          refine va_get (ci := 8) (C := RX8) (T := TX8) (N := 24) (fs := (zMo a m0 m1 m2 m3 m4 m5 m6 m7 m8 m9)) (v := .ref (a 10)) hx hb hts iX8 hown hK hP _ (wMo_at0 cy a m0 m1 m2 m3 m4 m5 m6 m7 m8 m9 mb o3 md mp mf mi mo mw mn s2.2.2 mt mq mz me) rfl 14 (by decide) k39 (fun _ h9 => h9) rfl dX8_counts_75 ?_
          refine lv_iload_n hx hb dX8_counts_78 rfl (lv_at hl 1 rfl) ?_
          refine lv_aload_n hx hb dX8_counts_79 rfl (lv_at hl 0 rfl) ?_
          refine lv_iload_n hx hb dX8_counts_80 rfl (lv_at hl 1 rfl) ?_
          refine lv_bipush (v := 9) hx hb dX8_counts_81 (by decide) ?_
          refine z_cVi (b := a 0) (As := [.int s2.1, .int 9]) (rest := [.int s2.1, .ref (a 10)]) (wc := (wMo cy a m0 m1 m2 m3 m4 m5 m6 m7 m8 m9 mb o3 md mp mf mi mo mw mn s2.2.2 mt mq mz me)) (wcf := fun o' => (wMo cy a m0 m1 m2 m3 m4 m5 m6 m7 m8 m9 mb o3 md mp mf mi mo mw mn s2.2.2 mt mq mz me)) (wf := fun o' => (wMo cy a m0 m1 m2 m3 m4 m5 m6 m7 m8 m9 mb o3 md mp mf mi mo mw mn s2.2.2 mt mq mz me)) (rf := fun o' => o') hF (fun o' hz => c_X8_of l G cy st a m0 m1 m2 m3 m4 m5 m6 m7 m8 m9 mb o3 md mp mf mi mo mw mn s2.2.2 mt mq mz me s2.1 9 o' hz) (fun o' => zCut_all) ⟨hx, hb, hml, hown, hts⟩ (cwV 2 hts gX8_counts_X8_of rfl rfl rfl (by decide +kernel) ⟨by decide, by decide⟩) (ci := 8) (q0 := 0) rfl (wMo_at0 cy a m0 m1 m2 m3 m4 m5 m6 m7 m8 m9 mb o3 md mp mf mi mo mw mn s2.2.2 mt mq mz me) hK hSE hA hP hD hS rfl hl.1 rfl (Nat.le_of_ble_eq_true rfl) dX8_counts_83 ⟨Nat.le_refl _, Nat.le_refl _⟩ (fun o4 hF H locs hP hD hS => ?_)
          refine lv_aload_n hx hb dX8_counts_86 rfl (lv_at hl 0 rfl) ?_
          refine lv_iload_n hx hb dX8_counts_87 rfl (lv_at hl 1 rfl) ?_
          refine lv_iconst (v := 3) hx hb dX8_counts_88 (by decide) ?_
          refine z_cVi (b := a 0) (As := [.int s2.1, .int 3]) (rest := [.int o4, .int s2.1, .ref (a 10)]) (wc := (wMo cy a m0 m1 m2 m3 m4 m5 m6 m7 m8 m9 mb o3 md mp mf mi mo mw mn s2.2.2 mt mq mz me)) (wcf := fun o' => (wMo cy a m0 m1 m2 m3 m4 m5 m6 m7 m8 m9 mb o3 md mp mf mi mo mw mn s2.2.2 mt mq mz me)) (wf := fun o' => (wMo cy a m0 m1 m2 m3 m4 m5 m6 m7 m8 m9 mb o3 md mp mf mi mo mw mn s2.2.2 mt mq mz me)) (rf := fun o' => o') hF (fun o' hz => c_X8_of l G cy st a m0 m1 m2 m3 m4 m5 m6 m7 m8 m9 mb o3 md mp mf mi mo mw mn s2.2.2 mt mq mz me s2.1 3 o' hz) (fun o' => zCut_all) ⟨hx, hb, hml, hown, hts⟩ (cwV 2 hts gX8_counts_X8_of rfl rfl rfl (by decide +kernel) ⟨by decide, by decide⟩) (ci := 8) (q0 := 0) rfl (wMo_at0 cy a m0 m1 m2 m3 m4 m5 m6 m7 m8 m9 mb o3 md mp mf mi mo mw mn s2.2.2 mt mq mz me) hK hSE hA hP hD hS rfl hl.1 rfl (Nat.le_of_ble_eq_true rfl) dX8_counts_89 ⟨Nat.le_refl _, Nat.le_refl _⟩ (fun o5 hF H locs hP hD hS => ?_)
          have J100 : ∀ (t6 : Int32) (H : Heap) (locs : List Loc) (ls : Array Slot), va_P G vwCl (wMo cy a m0 m1 m2 m3 m4 m5 m6 m7 m8 m9 mb o3 md mp mf mi mo mw mn s2.2.2 mt mq mz me) H → va_D A (wMo cy a m0 m1 m2 m3 m4 m5 m6 m7 m8 m9 mb o3 md mp mf mi mo mw mn s2.2.2 mt mq mz me) → va_S A s.heap H locs → lv_has ls 2 [(0, .ref (a 0)), (1, .int s2.1)] → j_X8_counts_100 rc2 s2 o3 t6 = some o → W p l e (zR 2) s m ([.ref (a 0)] : List Value).toArray below meth c H locs 0 0 (MQ below (zQv G cy A (wMo cy a m0 m1 m2 m3 m4 m5 m6 m7 m8 m9 mb o.1 md mp mf mi mo mw mn o.2 mt mq mz me)) ([.ref (a 0)] : List Value).toArray s 0 0 A) (F0 m 100 ls [.int t6, .int s2.1, .ref (a 10)]) := by
            intro t6 H locs ls hP hD hS hl hF
            unfold j_X8_counts_100 at hF
            refine z_zast (n := 4) (f := s2.2.2) (i := s2.1) (x := t6) (wf := (fun y => (wMo cy a m0 m1 m2 m3 m4 m5 m6 m7 m8 m9 mb o3 md mp mf mi mo mw mn y mt mq mz me))) hx hb hK hP hD hS _ 3 (wMo_foc10 cy a m0 m1 m2 m3 m4 m5 m6 m7 m8 m9 mb o3 md mp mf mi mo mw mn s2.2.2 mt mq mz me _) rfl hF dX8_counts_100 (fun mk_7 hF H locs hP hD hS => ?_)
            refine z_name hF (fun x8 ex8 hF => ?_)
            refine lv_iinc (v := x8) (lv' := [(1, .int x8), (0, .ref (a 0))]) hx hb dX8_counts_101 hl (k := 1) rfl (by rw [ex8]; rfl) (by decide) rfl (fun ls hl => ?_)
            refine lv_goto (tgt := 2) hx hb dX8_counts_104 (by decide) ?_
            exact ih2 (x8, o3, mk_7) _ _ ls hP hD hS (lv_sub hl [1, 0] rfl) hF
          refine zi_lt (tgt := 99) hx hb hF dX8_counts_92 (by decide) (fun hF => ?_) (fun hF => ?_)
          · refine lv_iconst (v := 0) hx hb dX8_counts_99 (by decide) ?_
            exact J100 0 _ _ ls hP hD hS (lv_sub hl [0, 1] rfl) hF
          · refine lv_iconst (v := 1) hx hb dX8_counts_95 (by decide) ?_
            refine lv_goto (tgt := 100) hx hb dX8_counts_96 (by decide) ?_
            exact J100 1 _ _ ls hP hD hS (lv_sub hl [0, 1] rfl) hF
        refine zf_ne (tgt := 29) hx hb hF dX8_counts_22 (by decide) (fun hF => ?_) (fun hF => ?_)
        · refine lv_aload_n hx hb dX8_counts_29 rfl (lv_at hl 0 rfl) ?_
          refine va_get (ci := 8) (C := RX8) (T := TX8) (N := 24) (fs := (zMo a m0 m1 m2 m3 m4 m5 m6 m7 m8 m9)) (v := .ref (a 8)) hx hb hts iX8 hown hK hP _ (wMo_at0 cy a m0 m1 m2 m3 m4 m5 m6 m7 m8 m9 mb s2.2.1 md mp mf mi mo mw mn s2.2.2 mt mq mz me) rfl 12 (by decide) k32 (fun _ h9 => h9) rfl dX8_counts_30 ?_
          refine lv_iload_n hx hb dX8_counts_33 rfl (lv_at hl 1 rfl) ?_
          refine z_iald (n := 4) (f := mw) hx hb hK hP _ 1 (wMo_at8 cy a m0 m1 m2 m3 m4 m5 m6 m7 m8 m9 mb s2.2.1 md mp mf mi mo mw mn s2.2.2 mt mq mz me) rfl hF dX8_counts_34 (fun hF => ?_)
          refine lv_aload_n hx hb dX8_counts_35 rfl (lv_at hl 0 rfl) ?_
          refine lv_iload_n hx hb dX8_counts_36 rfl (lv_at hl 1 rfl) ?_
          refine lv_bipush (v := 10) hx hb dX8_counts_37 (by decide) ?_
          refine z_cVi (b := a 0) (As := [.int s2.1, .int 10]) (rest := [.int (mw (zn s2.1)), .int 9, .int s2.1, .ref (a 0)]) (wc := (wMo cy a m0 m1 m2 m3 m4 m5 m6 m7 m8 m9 mb s2.2.1 md mp mf mi mo mw mn s2.2.2 mt mq mz me)) (wcf := fun o' => (wMo cy a m0 m1 m2 m3 m4 m5 m6 m7 m8 m9 mb s2.2.1 md mp mf mi mo mw mn s2.2.2 mt mq mz me)) (wf := fun o' => (wMo cy a m0 m1 m2 m3 m4 m5 m6 m7 m8 m9 mb s2.2.1 md mp mf mi mo mw mn s2.2.2 mt mq mz me)) (rf := fun o' => o') hF (fun o' hz => c_X8_of l G cy st a m0 m1 m2 m3 m4 m5 m6 m7 m8 m9 mb s2.2.1 md mp mf mi mo mw mn s2.2.2 mt mq mz me s2.1 10 o' hz) (fun o' => zCut_all) ⟨hx, hb, hml, hown, hts⟩ (cwV 2 hts gX8_counts_X8_of rfl rfl rfl (by decide +kernel) ⟨by decide, by decide⟩) (ci := 8) (q0 := 0) rfl (wMo_at0 cy a m0 m1 m2 m3 m4 m5 m6 m7 m8 m9 mb s2.2.1 md mp mf mi mo mw mn s2.2.2 mt mq mz me) hK hSE hA hP hD hS rfl hl.1 rfl (Nat.le_of_ble_eq_true rfl) dX8_counts_39 ⟨Nat.le_refl _, Nat.le_refl _⟩ (fun o9 hF H locs hP hD hS => ?_)
          refine zi_ne (tgt := 57) hx hb hF dX8_counts_42 (by decide) (fun hF => ?_) (fun hF => ?_)
          · refine lv_iconst (v := 1) hx hb dX8_counts_57 (by decide) ?_
            exact J58 1 _ _ ls hP hD hS (lv_sub hl [0, 1] rfl) hF
          · refine lv_aload_n hx hb dX8_counts_45 rfl (lv_at hl 0 rfl) ?_
            refine lv_iload_n hx hb dX8_counts_46 rfl (lv_at hl 1 rfl) ?_
            refine lv_bipush (v := 9) hx hb dX8_counts_47 (by decide) ?_
            refine z_cVi (b := a 0) (As := [.int s2.1, .int 9]) (rest := [.int 9, .int s2.1, .ref (a 0)]) (wc := (wMo cy a m0 m1 m2 m3 m4 m5 m6 m7 m8 m9 mb s2.2.1 md mp mf mi mo mw mn s2.2.2 mt mq mz me)) (wcf := fun o' => (wMo cy a m0 m1 m2 m3 m4 m5 m6 m7 m8 m9 mb s2.2.1 md mp mf mi mo mw mn s2.2.2 mt mq mz me)) (wf := fun o' => (wMo cy a m0 m1 m2 m3 m4 m5 m6 m7 m8 m9 mb s2.2.1 md mp mf mi mo mw mn s2.2.2 mt mq mz me)) (rf := fun o' => o') hF (fun o' hz => c_X8_of l G cy st a m0 m1 m2 m3 m4 m5 m6 m7 m8 m9 mb s2.2.1 md mp mf mi mo mw mn s2.2.2 mt mq mz me s2.1 9 o' hz) (fun o' => zCut_all) ⟨hx, hb, hml, hown, hts⟩ (cwV 2 hts gX8_counts_X8_of rfl rfl rfl (by decide +kernel) ⟨by decide, by decide⟩) (ci := 8) (q0 := 0) rfl (wMo_at0 cy a m0 m1 m2 m3 m4 m5 m6 m7 m8 m9 mb s2.2.1 md mp mf mi mo mw mn s2.2.2 mt mq mz me) hK hSE hA hP hD hS rfl hl.1 rfl (Nat.le_of_ble_eq_true rfl) dX8_counts_49 ⟨Nat.le_refl _, Nat.le_refl _⟩ (fun o10 hF H locs hP hD hS => ?_)
            refine lv_iconst (v := 1) hx hb dX8_counts_52 (by decide) ?_
            refine lv_iadd hx hb dX8_counts_53 ?_
            refine lv_goto (tgt := 58) hx hb dX8_counts_54 (by decide) ?_
            exact J58 (o10 + 1) _ _ ls hP hD hS (lv_sub hl [0, 1] rfl) hF
        · refine lv_iconst (v := 0) hx hb dX8_counts_25 (by decide) ?_
          refine lv_goto (tgt := 58) hx hb dX8_counts_26 (by decide) ?_
          exact J58 0 _ _ ls hP hD hS (lv_sub hl [0, 1] rfl) hF
  exact L2 1000 (0, ms, mk) _ _ ls hP hD hS (lv_sub hl [1, 0] rfl) hF
def j_X8_passesOn_76 (rc2 : (Int32 × (Nat → Int32)) → Option ((Nat → Int32))) (s2 : Int32 × (Nat → Int32)) (mk_1 : Nat → Int32) : Option ((Nat → Int32)) :=
zlet (s2.1 + 1) fun x2 =>
rc2 (x2, mk_1)
def j_X8_passesOn_59 (ms : Nat → Int32) (rc2 : (Int32 × (Nat → Int32)) → Option ((Nat → Int32))) (s2 : Int32 × (Nat → Int32)) (y4 : Int32) : Option ((Nat → Int32)) :=
zg (zin 0 114) (
if (ms (zn 0)) ≤ y4 then (
j_X8_passesOn_76 rc2 s2 s2.2) else (
zg (zin y4 4) (
zlet (upd s2.2 (zn y4) (vp_nar .boolean 1)) fun mk_5 =>
j_X8_passesOn_76 rc2 s2 mk_5)))
def b_X8_passesOn_34 (ms : Nat → Int32) (mw : Nat → Int32) (rc2 : (Int32 × (Nat → Int32)) → Option ((Nat → Int32))) (s2 : Int32 × (Nat → Int32)) (rc34 : (Int32) → Option ((Nat → Int32))) (s34 : Int32) : Option ((Nat → Int32)) :=
zg (zin 0 114) (
if (ms (zn 0)) ≤ s34 then (
j_X8_passesOn_59 ms rc2 s2 s34) else (
zg (zin s34 4) (
if (mw (zn s34)) = 0 then (
zlet (s34 + 1) fun x6 =>
rc34 (x6)) else (
j_X8_passesOn_59 ms rc2 s2 s34))))
def b_X8_passesOn_2 (ms : Nat → Int32) (mw : Nat → Int32) (mn : Nat → Int32) (rc2 : (Int32 × (Nat → Int32)) → Option ((Nat → Int32))) (s2 : Int32 × (Nat → Int32)) : Option ((Nat → Int32)) :=
zg (zin 0 114) (
if (ms (zn 0)) ≤ s2.1 then (
some s2.2) else (
zg (zin s2.1 4) (
if (s2.2 (zn s2.1)) = 0 then (
j_X8_passesOn_76 rc2 s2 s2.2) else (
zg (zin s2.1 4) (
if (mn (zn s2.1)) = 0 then (
zlet (s2.1 + 1) fun x3 =>
zloop (b_X8_passesOn_34 ms mw rc2 s2) 1000 (x3)) else (
j_X8_passesOn_76 rc2 s2 s2.2))))))
def f_X8_passesOn (ms : Nat → Int32) (mw : Nat → Int32) (mn : Nat → Int32) (mk : Nat → Int32) : Option ((Nat → Int32)) :=
zloop (b_X8_passesOn_2 ms mw mn) 1000 (0, mk)
set_option maxHeartbeats 4000000 in
set_option maxRecDepth 100000 in
theorem c_X8_passesOn (l : Launch) (G : va_G) (cy : Nat → ClassId) (st : Nat → Nat) (a : Nat → Nat) (m0 : Int32) (m1 : Int32) (m2 : Int32) (m3 : Int32) (m4 : Int32) (m5 : Int32) (m6 : Int32) (m7 : Int32) (m8 : Int32) (m9 : Int32) (mb : Nat → Int32) (ms : Nat → Int32) (md : Nat → Int32) (mp : Nat → Int32) (mf : Nat → Int32) (mi : Nat → Int32) (mo : Nat → Int32) (mw : Nat → Int32) (mn : Nat → Int32) (mk : Nat → Int32) (mt : Nat → Int64) (mq : Nat → Int32) (mz : Nat → Int32) (me : Nat → Int32) (o : (Nat → Int32)) (hF : f_X8_passesOn ms mw mn mk = some o) : zMv l yX8_passesOn wsX8_passesOn (zR 1) G cy st [.ref (a 0)] (wMo cy a m0 m1 m2 m3 m4 m5 m6 m7 m8 m9 mb ms md mp mf mi mo mw mn mk mt mq mz me) (wMo cy a m0 m1 m2 m3 m4 m5 m6 m7 m8 m9 mb ms md mp mf mi mo mw mn o mt mq mz me) := by
  refine zM_of (cc := cX8_passesOn) (maxL := 3) (ret := none) (Qc := fun A => zQv G cy A (wMo cy a m0 m1 m2 m3 m4 m5 m6 m7 m8 m9 mb ms md mp mf mi mo mw mn o mt mq mz me)) (by decide) rfl (Nat.le_of_ble_eq_true rfl) ?_
  intro p e s m below meth c A ls hx hb hml hr hlocks hown hts hK hSE hA hP hD hS hl
  have hown : s.vm.findClass RX8 = some m.cls := hown
  have hl : lv_has ls 3 [(0, .ref (a 0))] := hl
  have k13 := hts (.fieldLink RX8 13 "TapCascadeModel" "s" "[I") (by decide +kernel)
  have iX8 : ∀ w ∈ wsX80, w ∈ wsX8_passesOn := fun w h => List.mem_cons_of_mem _ (List.mem_append_right _ h)
  have k39 := hts (.fieldLink RX8 39 "TapCascadeModel" "called" "[Z") (by decide +kernel)
  have k35 := hts (.fieldLink RX8 35 "TapCascadeModel" "can" "[Z") (by decide +kernel)
  have k32 := hts (.fieldLink RX8 32 "TapCascadeModel" "want" "[I") (by decide +kernel)
  unfold f_X8_passesOn at hF
  refine lv_iconst (v := 0) hx hb dX8_passesOn_0 (by decide) ?_
  refine lv_istore_n (lv' := [(1, .int 0), (0, .ref (a 0))]) hx hb dX8_passesOn_1 rfl hl (by decide) rfl (fun ls hl => ?_)
  have L2 : ∀ (n : Nat) (s2 : Int32 × (Nat → Int32)) (H : Heap) (locs : List Loc) (ls : Array Slot), va_P G vwCl (wMo cy a m0 m1 m2 m3 m4 m5 m6 m7 m8 m9 mb ms md mp mf mi mo mw mn s2.2 mt mq mz me) H → va_D A (wMo cy a m0 m1 m2 m3 m4 m5 m6 m7 m8 m9 mb ms md mp mf mi mo mw mn s2.2 mt mq mz me) → va_S A s.heap H locs → lv_has ls 3 [(0, .ref (a 0)), (1, .int s2.1)] → zloop (b_X8_passesOn_2 ms mw mn) n s2 = some o → W p l e (zR 1) s m ([.ref (a 0)] : List Value).toArray below meth c H locs 0 0 (MQ below (zQv G cy A (wMo cy a m0 m1 m2 m3 m4 m5 m6 m7 m8 m9 mb ms md mp mf mi mo mw mn o mt mq mz me)) ([.ref (a 0)] : List Value).toArray s 0 0 A) (F0 m 2 ls []) := by
    intro n
    induction n with
    | zero => exact fun s2 H locs ls _ _ _ _ hF => (zloop_0 hF).elim
    | succ n ih2 =>
      intro s2 H locs ls hP hD hS hl hF
      have hF : b_X8_passesOn_2 ms mw mn (zloop (b_X8_passesOn_2 ms mw mn) n) s2 = some o := hF
      generalize zloop (b_X8_passesOn_2 ms mw mn) n = rc2 at ih2 hF
      unfold b_X8_passesOn_2 at hF
      refine lv_iload_n hx hb dX8_passesOn_2 rfl (lv_at hl 1 rfl) ?_
      refine lv_aload_n hx hb dX8_passesOn_3 rfl (lv_at hl 0 rfl) ?_
      refine va_get (ci := 8) (C := RX8) (T := TX8) (N := 24) (fs := (zMo a m0 m1 m2 m3 m4 m5 m6 m7 m8 m9)) (v := .ref (a 2)) hx hb hts iX8 hown hK hP _ (wMo_at0 cy a m0 m1 m2 m3 m4 m5 m6 m7 m8 m9 mb ms md mp mf mi mo mw mn s2.2 mt mq mz me) rfl 3 (by decide) k13 (fun _ h9 => h9) rfl dX8_passesOn_4 ?_
      refine lv_iconst (v := 0) hx hb dX8_passesOn_7 (by decide) ?_
      refine z_iald (n := 114) (f := ms) hx hb hK hP _ 1 (wMo_at2 cy a m0 m1 m2 m3 m4 m5 m6 m7 m8 m9 mb ms md mp mf mi mo mw mn s2.2 mt mq mz me) rfl hF dX8_passesOn_8 (fun hF => ?_)
      refine zi_ge (tgt := 82) hx hb hF dX8_passesOn_9 (by decide) (fun hF => ?_) (fun hF => ?_)
      · refine z_vret (o := o) (o1 := s2.2) (wf := (fun o => (wMo cy a m0 m1 m2 m3 m4 m5 m6 m7 m8 m9 mb ms md mp mf mi mo mw mn o mt mq mz me))) hx hb hr hlocks hK ?_ ?_ hS ?_ dX8_passesOn_82
        · exact hP
        · exact hD
        · exact hF
      · refine lv_aload_n hx hb dX8_passesOn_12 rfl (lv_at hl 0 rfl) ?_
        refine va_get (ci := 8) (C := RX8) (T := TX8) (N := 24) (fs := (zMo a m0 m1 m2 m3 m4 m5 m6 m7 m8 m9)) (v := .ref (a 10)) hx hb hts iX8 hown hK hP _ (wMo_at0 cy a m0 m1 m2 m3 m4 m5 m6 m7 m8 m9 mb ms md mp mf mi mo mw mn s2.2 mt mq mz me) rfl 14 (by decide) k39 (fun _ h9 => h9) rfl dX8_passesOn_13 ?_
        refine lv_iload_n hx hb dX8_passesOn_16 rfl (lv_at hl 1 rfl) ?_
        refine z_zald (n := 4) (f := s2.2) hx hb hK hP _ 3 (wMo_at10 cy a m0 m1 m2 m3 m4 m5 m6 m7 m8 m9 mb ms md mp mf mi mo mw mn s2.2 mt mq mz me) rfl hF dX8_passesOn_17 (fun hF => ?_)
        have J76 : ∀ (mk_1 : Nat → Int32) (H : Heap) (locs : List Loc) (ls : Array Slot), va_P G vwCl (wMo cy a m0 m1 m2 m3 m4 m5 m6 m7 m8 m9 mb ms md mp mf mi mo mw mn mk_1 mt mq mz me) H → va_D A (wMo cy a m0 m1 m2 m3 m4 m5 m6 m7 m8 m9 mb ms md mp mf mi mo mw mn mk_1 mt mq mz me) → va_S A s.heap H locs → lv_has ls 3 [(0, .ref (a 0)), (1, .int s2.1)] → j_X8_passesOn_76 rc2 s2 mk_1 = some o → W p l e (zR 1) s m ([.ref (a 0)] : List Value).toArray below meth c H locs 0 0 (MQ below (zQv G cy A (wMo cy a m0 m1 m2 m3 m4 m5 m6 m7 m8 m9 mb ms md mp mf mi mo mw mn o mt mq mz me)) ([.ref (a 0)] : List Value).toArray s 0 0 A) (F0 m 76 ls []) := by
          intro mk_1 H locs ls hP hD hS hl hF
          unfold j_X8_passesOn_76 at hF
          refine z_name hF (fun x2 ex2 hF => ?_)
          refine lv_iinc (v := x2) (lv' := [(1, .int x2), (0, .ref (a 0))]) hx hb dX8_passesOn_76 hl (k := 1) rfl (by rw [ex2]; rfl) (by decide) rfl (fun ls hl => ?_)
          refine lv_goto (tgt := 2) hx hb dX8_passesOn_79 (by decide) ?_
          exact ih2 (x2, mk_1) _ _ ls hP hD hS (lv_sub hl [1, 0] rfl) hF
        refine zf_eq (tgt := 76) hx hb hF dX8_passesOn_18 (by decide) (fun hF => ?_) (fun hF => ?_)
        · exact J76 s2.2 _ _ ls hP hD hS (lv_sub hl [0, 1] rfl) hF
        · refine lv_aload_n hx hb dX8_passesOn_21 rfl (lv_at hl 0 rfl) ?_
          refine va_get (ci := 8) (C := RX8) (T := TX8) (N := 24) (fs := (zMo a m0 m1 m2 m3 m4 m5 m6 m7 m8 m9)) (v := .ref (a 9)) hx hb hts iX8 hown hK hP _ (wMo_at0 cy a m0 m1 m2 m3 m4 m5 m6 m7 m8 m9 mb ms md mp mf mi mo mw mn s2.2 mt mq mz me) rfl 13 (by decide) k35 (fun _ h9 => h9) rfl dX8_passesOn_22 ?_
          refine lv_iload_n hx hb dX8_passesOn_25 rfl (lv_at hl 1 rfl) ?_
          refine z_zald (n := 4) (f := mn) hx hb hK hP _ 3 (wMo_at9 cy a m0 m1 m2 m3 m4 m5 m6 m7 m8 m9 mb ms md mp mf mi mo mw mn s2.2 mt mq mz me) rfl hF dX8_passesOn_26 (fun hF => ?_)
          refine zf_ne (tgt := 76) hx hb hF dX8_passesOn_27 (by decide) (fun hF => ?_) (fun hF => ?_)
          · exact J76 s2.2 _ _ ls hP hD hS (lv_sub hl [0, 1] rfl) hF
          · refine lv_iload_n hx hb dX8_passesOn_30 rfl (lv_at hl 1 rfl) ?_
            refine lv_iconst (v := 1) hx hb dX8_passesOn_31 (by decide) ?_
            refine lv_iadd hx hb dX8_passesOn_32 ?_
            refine z_leti hF (fun x3 hF => ?_)
            refine lv_istore_n (lv' := [(2, .int x3), (0, .ref (a 0)), (1, .int s2.1)]) hx hb dX8_passesOn_33 rfl hl (by decide) rfl (fun ls hl => ?_)
            have J59 : ∀ (y4 : Int32) (H : Heap) (locs : List Loc) (ls : Array Slot), va_P G vwCl (wMo cy a m0 m1 m2 m3 m4 m5 m6 m7 m8 m9 mb ms md mp mf mi mo mw mn s2.2 mt mq mz me) H → va_D A (wMo cy a m0 m1 m2 m3 m4 m5 m6 m7 m8 m9 mb ms md mp mf mi mo mw mn s2.2 mt mq mz me) → va_S A s.heap H locs → lv_has ls 3 [(0, .ref (a 0)), (1, .int s2.1), (2, .int y4)] → j_X8_passesOn_59 ms rc2 s2 y4 = some o → W p l e (zR 1) s m ([.ref (a 0)] : List Value).toArray below meth c H locs 0 0 (MQ below (zQv G cy A (wMo cy a m0 m1 m2 m3 m4 m5 m6 m7 m8 m9 mb ms md mp mf mi mo mw mn o mt mq mz me)) ([.ref (a 0)] : List Value).toArray s 0 0 A) (F0 m 59 ls []) := by
              intro y4 H locs ls hP hD hS hl hF
              unfold j_X8_passesOn_59 at hF
              refine lv_iload_n hx hb dX8_passesOn_59 rfl (lv_at hl 2 rfl) ?_
              refine lv_aload_n hx hb dX8_passesOn_60 rfl (lv_at hl 0 rfl) ?_
              refine va_get (ci := 8) (C := RX8) (T := TX8) (N := 24) (fs := (zMo a m0 m1 m2 m3 m4 m5 m6 m7 m8 m9)) (v := .ref (a 2)) hx hb hts iX8 hown hK hP _ (wMo_at0 cy a m0 m1 m2 m3 m4 m5 m6 m7 m8 m9 mb ms md mp mf mi mo mw mn s2.2 mt mq mz me) rfl 3 (by decide) k13 (fun _ h9 => h9) rfl dX8_passesOn_61 ?_
              refine lv_iconst (v := 0) hx hb dX8_passesOn_64 (by decide) ?_
              refine z_iald (n := 114) (f := ms) hx hb hK hP _ 1 (wMo_at2 cy a m0 m1 m2 m3 m4 m5 m6 m7 m8 m9 mb ms md mp mf mi mo mw mn s2.2 mt mq mz me) rfl hF dX8_passesOn_65 (fun hF => ?_)
              refine zi_ge (tgt := 76) hx hb hF dX8_passesOn_66 (by decide) (fun hF => ?_) (fun hF => ?_)
              · exact J76 s2.2 _ _ ls hP hD hS (lv_sub hl [0, 1] rfl) hF
              · refine lv_aload_n hx hb dX8_passesOn_69 rfl (lv_at hl 0 rfl) ?_
                refine va_get (ci := 8) (C := RX8) (T := TX8) (N := 24) (fs := (zMo a m0 m1 m2 m3 m4 m5 m6 m7 m8 m9)) (v := .ref (a 10)) hx hb hts iX8 hown hK hP _ (wMo_at0 cy a m0 m1 m2 m3 m4 m5 m6 m7 m8 m9 mb ms md mp mf mi mo mw mn s2.2 mt mq mz me) rfl 14 (by decide) k39 (fun _ h9 => h9) rfl dX8_passesOn_70 ?_
                refine lv_iload_n hx hb dX8_passesOn_73 rfl (lv_at hl 2 rfl) ?_
                refine lv_iconst (v := 1) hx hb dX8_passesOn_74 (by decide) ?_
                refine z_zast (n := 4) (f := s2.2) (i := y4) (x := 1) (wf := (fun y => (wMo cy a m0 m1 m2 m3 m4 m5 m6 m7 m8 m9 mb ms md mp mf mi mo mw mn y mt mq mz me))) hx hb hK hP hD hS _ 3 (wMo_foc10 cy a m0 m1 m2 m3 m4 m5 m6 m7 m8 m9 mb ms md mp mf mi mo mw mn s2.2 mt mq mz me _) rfl hF dX8_passesOn_75 (fun mk_5 hF H locs hP hD hS => ?_)
                exact J76 mk_5 _ _ ls hP hD hS (lv_sub hl [0, 1] rfl) hF
            have L34 : ∀ (n : Nat) (s34 : Int32) (H : Heap) (locs : List Loc) (ls : Array Slot), va_P G vwCl (wMo cy a m0 m1 m2 m3 m4 m5 m6 m7 m8 m9 mb ms md mp mf mi mo mw mn s2.2 mt mq mz me) H → va_D A (wMo cy a m0 m1 m2 m3 m4 m5 m6 m7 m8 m9 mb ms md mp mf mi mo mw mn s2.2 mt mq mz me) → va_S A s.heap H locs → lv_has ls 3 [(0, .ref (a 0)), (1, .int s2.1), (2, .int s34)] → zloop (b_X8_passesOn_34 ms mw rc2 s2) n s34 = some o → W p l e (zR 1) s m ([.ref (a 0)] : List Value).toArray below meth c H locs 0 0 (MQ below (zQv G cy A (wMo cy a m0 m1 m2 m3 m4 m5 m6 m7 m8 m9 mb ms md mp mf mi mo mw mn o mt mq mz me)) ([.ref (a 0)] : List Value).toArray s 0 0 A) (F0 m 34 ls []) := by
              intro n
              induction n with
              | zero => exact fun s34 H locs ls _ _ _ _ hF => (zloop_0 hF).elim
              | succ n ih34 =>
                intro s34 H locs ls hP hD hS hl hF
                have hF : b_X8_passesOn_34 ms mw rc2 s2 (zloop (b_X8_passesOn_34 ms mw rc2 s2) n) s34 = some o := hF
                generalize zloop (b_X8_passesOn_34 ms mw rc2 s2) n = rc34 at ih34 hF
                unfold b_X8_passesOn_34 at hF
                refine lv_iload_n hx hb dX8_passesOn_34 rfl (lv_at hl 2 rfl) ?_
                refine lv_aload_n hx hb dX8_passesOn_35 rfl (lv_at hl 0 rfl) ?_
                refine va_get (ci := 8) (C := RX8) (T := TX8) (N := 24) (fs := (zMo a m0 m1 m2 m3 m4 m5 m6 m7 m8 m9)) (v := .ref (a 2)) hx hb hts iX8 hown hK hP _ (wMo_at0 cy a m0 m1 m2 m3 m4 m5 m6 m7 m8 m9 mb ms md mp mf mi mo mw mn s2.2 mt mq mz me) rfl 3 (by decide) k13 (fun _ h9 => h9) rfl dX8_passesOn_36 ?_
                refine lv_iconst (v := 0) hx hb dX8_passesOn_39 (by decide) ?_
                refine z_iald (n := 114) (f := ms) hx hb hK hP _ 1 (wMo_at2 cy a m0 m1 m2 m3 m4 m5 m6 m7 m8 m9 mb ms md mp mf mi mo mw mn s2.2 mt mq mz me) rfl hF dX8_passesOn_40 (fun hF => ?_)
                refine zi_ge (tgt := 59) hx hb hF dX8_passesOn_41 (by decide) (fun hF => ?_) (fun hF => ?_)
                · exact J59 s34 _ _ ls hP hD hS (lv_sub hl [0, 1, 2] rfl) hF
                · refine lv_aload_n hx hb dX8_passesOn_44 rfl (lv_at hl 0 rfl) ?_
                  refine va_get (ci := 8) (C := RX8) (T := TX8) (N := 24) (fs := (zMo a m0 m1 m2 m3 m4 m5 m6 m7 m8 m9)) (v := .ref (a 8)) hx hb hts iX8 hown hK hP _ (wMo_at0 cy a m0 m1 m2 m3 m4 m5 m6 m7 m8 m9 mb ms md mp mf mi mo mw mn s2.2 mt mq mz me) rfl 12 (by decide) k32 (fun _ h9 => h9) rfl dX8_passesOn_45 ?_
                  refine lv_iload_n hx hb dX8_passesOn_48 rfl (lv_at hl 2 rfl) ?_
                  refine z_iald (n := 4) (f := mw) hx hb hK hP _ 1 (wMo_at8 cy a m0 m1 m2 m3 m4 m5 m6 m7 m8 m9 mb ms md mp mf mi mo mw mn s2.2 mt mq mz me) rfl hF dX8_passesOn_49 (fun hF => ?_)
                  refine zf_ne (tgt := 59) hx hb hF dX8_passesOn_50 (by decide) (fun hF => ?_) (fun hF => ?_)
                  · exact J59 s34 _ _ ls hP hD hS (lv_sub hl [0, 1, 2] rfl) hF
                  · refine z_name hF (fun x6 ex6 hF => ?_)
                    refine lv_iinc (v := x6) (lv' := [(2, .int x6), (0, .ref (a 0)), (1, .int s2.1)]) hx hb dX8_passesOn_53 hl (k := 2) rfl (by rw [ex6]; rfl) (by decide) rfl (fun ls hl => ?_)
                    refine lv_goto (tgt := 34) hx hb dX8_passesOn_56 (by decide) ?_
                    exact ih34 (x6) _ _ ls hP hD hS (lv_sub hl [1, 2, 0] rfl) hF
            exact L34 1000 (x3) _ _ ls hP hD hS (lv_sub hl [1, 2, 0] rfl) hF
  exact L2 1000 (0, mk) _ _ ls hP hD hS (lv_sub hl [1, 0] rfl) hF
