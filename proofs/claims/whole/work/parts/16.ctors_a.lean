/-! ===== the constructors of the parts, laid by a program ===== -/
set_option maxHeartbeats 4000000 in
set_option maxRecDepth 100000 in
theorem c_X4_init (l : Launch) (G : va_G) (cy : Nat → ClassId) (st : Nat → Nat) (h0 : Nat) : zMc (τ := Unit) l yX4_init wsX4_init (zRc 1 0 0) G cy st [.ref h0] [(h0, .inr (4, zSt (fun _ => 0)))] (fun _ => True) (fun _ => wSt cy h0 (fun _ => 0)) 0 0 := by
  refine zMc_of (cc := cX4_init) (maxL := 1) (by decide) rfl rfl (Nat.le_of_ble_eq_true rfl) ?_
  intro p e s m below meth c A ls hx hb hml hr hlocks hown hts hinm hK hSE hA hP hD hS hl
  have hown : s.vm.findClass RX4 = some m.cls := hown
  have hl : lv_has ls 1 [(0, .ref h0)] := hl
  have k3 := hts (.methodLink RX4 3 objectInit) (by decide +kernel)
  have kOi := hts (.instanceMethod objectInit) (by decide +kernel)
  have kOc := hts (.code objectInit ⟨#[0xb1]⟩ 1 none) (by decide +kernel)
  refine lv_aload_n hx hb dX4_init_0 rfl (lv_at hl 0 rfl) ?_
  refine W.objInit hx hb hown k3 kOi kOc rfl (by rw [hml]; exact hl.1) rfl dX4_init_1 (Nat.le_of_ble_eq_true rfl) (Nat.le_of_ble_eq_true rfl) ?_
  refine W.eq (g2 := F0 m 4 ls []) rfl ?_
  exact z_vretc (u := ()) trivial hx hb hr hlocks hK hP hD hS dX4_init_4
set_option maxHeartbeats 4000000 in
set_option maxRecDepth 100000 in
theorem c_X5_init (l : Launch) (G : va_G) (cy : Nat → ClassId) (st : Nat → Nat) (h0 : Nat) : zMc (τ := (Nat → Nat)) l yX5_init wsX5_init (zRc 1 3 60) G cy st [.ref h0] [(h0, .inr (5, [.null, .null, .null, .int 0, .int 0]))] (fun u => u 0 = h0) (fun u => wLg cy u (fun _ => 0) (fun _ => 0) (fun _ => 0) 0 0) 3 60 := by
  refine zMc_of (cc := cX5_init) (maxL := 1) (by decide) rfl rfl (Nat.le_of_ble_eq_true rfl) ?_
  intro p e s m below meth c A ls hx hb hml hr hlocks hown hts hinm hK hSE hA hP hD hS hl
  have hown : s.vm.findClass RX5 = some m.cls := hown
  have hl : lv_has ls 1 [(0, .ref h0)] := hl
  have k3 := hts (.methodLink RX5 3 objectInit) (by decide +kernel)
  have kOi := hts (.instanceMethod objectInit) (by decide +kernel)
  have kOc := hts (.code objectInit ⟨#[0xb1]⟩ 1 none) (by decide +kernel)
  have kAint := hts (.arrayClass .int) (by decide +kernel)
  have iX5 : ∀ w ∈ wsX50, w ∈ wsX5_init := fun w h => List.mem_cons_of_mem _ (List.mem_append_right _ h)
  have k9 := hts (.fieldLink RX5 9 "TapCascade$StepLog" "ticks" "[I") (by decide +kernel)
  have k15 := hts (.fieldLink RX5 15 "TapCascade$StepLog" "stages" "[I") (by decide +kernel)
  have k18 := hts (.fieldLink RX5 18 "TapCascade$StepLog" "ways" "[I") (by decide +kernel)
  refine lv_aload_n hx hb dX5_init_0 rfl (lv_at hl 0 rfl) ?_
  refine W.objInit hx hb hown k3 kOi kOc rfl (by rw [hml]; exact hl.1) rfl dX5_init_1 (Nat.le_of_ble_eq_true rfl) (Nat.le_of_ble_eq_true rfl) ?_
  refine W.eq (g2 := F0 m 4 ls []) rfl ?_
  refine lv_aload_n hx hb dX5_init_4 rfl (lv_at hl 0 rfl) ?_
  refine lv_bipush (v := 20) hx hb dX5_init_5 (by decide) ?_
  refine z_newa (atype := .int) (ty := .int) (a0 := (20, .inl (fun _ => 0))) hx hb kAint rfl hK hP hD hS hA 1 rfl (fun _ => rfl) (by decide) (by decide) (Nat.le_of_ble_eq_true rfl) (Nat.le_of_ble_eq_true rfl) (Nat.le_of_ble_eq_true rfl) dX5_init_7 (fun q1 H hP hD hS => ?_)
  refine z_putF (ci := 5) (v := .ref q1) (fs := [.null, .null, .null, .int 0, .int 0]) (C := RX5) (T := TX5) (N := 5) (ty := (tyX5 0)) hx hb hts iX5 tyX5 tyX5_ok nmX5 hown hK hP hD hS _ 0 (zFoc_l zFoc_1) rfl (by decide) k9 (fun _ h9 => h9) rfl hinm rfl (by decide +kernel) rfl rfl (Nat.le_of_ble_eq_true rfl) dX5_init_9 (fun H locs hP hD hS => ?_)
  have hP : va_P G vwCl ([(h0, .inr (5, [.ref q1, .null, .null, .int 0, .int 0]))] ++ [(q1, .inl (cy 1, 20, .inl (fun _ => 0)))]) H := hP
  have hD : va_D A ([(h0, .inr (5, [.ref q1, .null, .null, .int 0, .int 0]))] ++ [(q1, .inl (cy 1, 20, .inl (fun _ => 0)))]) := hD
  refine lv_aload_n hx hb dX5_init_12 rfl (lv_at hl 0 rfl) ?_
  refine lv_bipush (v := 20) hx hb dX5_init_13 (by decide) ?_
  refine z_newa (atype := .int) (ty := .int) (a0 := (20, .inl (fun _ => 0))) hx hb kAint rfl hK hP hD hS hA 1 rfl (fun _ => rfl) (by decide) (by decide) (Nat.le_of_ble_eq_true rfl) (Nat.le_of_ble_eq_true rfl) (Nat.le_of_ble_eq_true rfl) dX5_init_15 (fun q2 H hP hD hS => ?_)
  refine z_putF (ci := 5) (v := .ref q2) (fs := [.ref q1, .null, .null, .int 0, .int 0]) (C := RX5) (T := TX5) (N := 5) (ty := (tyX5 1)) hx hb hts iX5 tyX5 tyX5_ok nmX5 hown hK hP hD hS _ 1 (zFoc_l (zFoc_l zFoc_1)) rfl (by decide) k15 (fun _ h9 => h9) rfl hinm rfl (by decide +kernel) rfl rfl (Nat.le_of_ble_eq_true rfl) dX5_init_17 (fun H locs hP hD hS => ?_)
  have hP : va_P G vwCl (([(h0, .inr (5, [.ref q1, .ref q2, .null, .int 0, .int 0]))] ++ [(q1, .inl (cy 1, 20, .inl (fun _ => 0)))]) ++ [(q2, .inl (cy 1, 20, .inl (fun _ => 0)))]) H := hP
  have hD : va_D A (([(h0, .inr (5, [.ref q1, .ref q2, .null, .int 0, .int 0]))] ++ [(q1, .inl (cy 1, 20, .inl (fun _ => 0)))]) ++ [(q2, .inl (cy 1, 20, .inl (fun _ => 0)))]) := hD
  refine lv_aload_n hx hb dX5_init_20 rfl (lv_at hl 0 rfl) ?_
  refine lv_bipush (v := 20) hx hb dX5_init_21 (by decide) ?_
  refine z_newa (atype := .int) (ty := .int) (a0 := (20, .inl (fun _ => 0))) hx hb kAint rfl hK hP hD hS hA 1 rfl (fun _ => rfl) (by decide) (by decide) (Nat.le_of_ble_eq_true rfl) (Nat.le_of_ble_eq_true rfl) (Nat.le_of_ble_eq_true rfl) dX5_init_23 (fun q3 H hP hD hS => ?_)
  refine z_putF (ci := 5) (v := .ref q3) (fs := [.ref q1, .ref q2, .null, .int 0, .int 0]) (C := RX5) (T := TX5) (N := 5) (ty := (tyX5 2)) hx hb hts iX5 tyX5 tyX5_ok nmX5 hown hK hP hD hS _ 2 (zFoc_l (zFoc_l (zFoc_l zFoc_1))) rfl (by decide) k18 (fun _ h9 => h9) rfl hinm rfl (by decide +kernel) rfl rfl (Nat.le_of_ble_eq_true rfl) dX5_init_25 (fun H locs hP hD hS => ?_)
  have hP : va_P G vwCl ((([(h0, .inr (5, [.ref q1, .ref q2, .ref q3, .int 0, .int 0]))] ++ [(q1, .inl (cy 1, 20, .inl (fun _ => 0)))]) ++ [(q2, .inl (cy 1, 20, .inl (fun _ => 0)))]) ++ [(q3, .inl (cy 1, 20, .inl (fun _ => 0)))]) H := hP
  have hD : va_D A ((([(h0, .inr (5, [.ref q1, .ref q2, .ref q3, .int 0, .int 0]))] ++ [(q1, .inl (cy 1, 20, .inl (fun _ => 0)))]) ++ [(q2, .inl (cy 1, 20, .inl (fun _ => 0)))]) ++ [(q3, .inl (cy 1, 20, .inl (fun _ => 0)))]) := hD
  refine W.widen (k := 3) (n := 60) (Nat.le_of_ble_eq_true rfl) (Nat.le_of_ble_eq_true rfl) ?_
  exact z_vretc (u := ((fun k => match k with | 0 => h0 | 1 => q1 | 2 => q2 | _ => q3) : Nat → Nat)) rfl hx hb hr hlocks hK hP hD hS dX5_init_28
set_option maxHeartbeats 4000000 in
set_option maxRecDepth 100000 in
theorem c_X3_init (l : Launch) (G : va_G) (cy : Nat → ClassId) (st : Nat → Nat) (h0 : Nat) : zMc (τ := (Nat → Nat)) l yX3_init wsX3_init (zRc 1 2 8) G cy st [.ref h0] [(h0, .inr (3, [.null, .null, .int 0]))] (fun u => u 0 = h0) (fun u => wSe cy u (fun _ => 0) (fun _ => 0) 0) 2 8 := by
  refine zMc_of (cc := cX3_init) (maxL := 1) (by decide) rfl rfl (Nat.le_of_ble_eq_true rfl) ?_
  intro p e s m below meth c A ls hx hb hml hr hlocks hown hts hinm hK hSE hA hP hD hS hl
  have hown : s.vm.findClass RX3 = some m.cls := hown
  have hl : lv_has ls 1 [(0, .ref h0)] := hl
  have k3 := hts (.methodLink RX3 3 objectInit) (by decide +kernel)
  have kOi := hts (.instanceMethod objectInit) (by decide +kernel)
  have kOc := hts (.code objectInit ⟨#[0xb1]⟩ 1 none) (by decide +kernel)
  have kAint := hts (.arrayClass .int) (by decide +kernel)
  have iX3 : ∀ w ∈ wsX30, w ∈ wsX3_init := fun w h => List.mem_cons_of_mem _ (List.mem_append_right _ h)
  have k9 := hts (.fieldLink RX3 9 "TapCascade$Search" "taps" "[I") (by decide +kernel)
  have k15 := hts (.fieldLink RX3 15 "TapCascade$Search" "bestTaps" "[I") (by decide +kernel)
  refine lv_aload_n hx hb dX3_init_0 rfl (lv_at hl 0 rfl) ?_
  refine W.objInit hx hb hown k3 kOi kOc rfl (by rw [hml]; exact hl.1) rfl dX3_init_1 (Nat.le_of_ble_eq_true rfl) (Nat.le_of_ble_eq_true rfl) ?_
  refine W.eq (g2 := F0 m 4 ls []) rfl ?_
  refine lv_aload_n hx hb dX3_init_4 rfl (lv_at hl 0 rfl) ?_
  refine lv_iconst (v := 4) hx hb dX3_init_5 (by decide) ?_
  refine z_newa (atype := .int) (ty := .int) (a0 := (4, .inl (fun _ => 0))) hx hb kAint rfl hK hP hD hS hA 1 rfl (fun _ => rfl) (by decide) (by decide) (Nat.le_of_ble_eq_true rfl) (Nat.le_of_ble_eq_true rfl) (Nat.le_of_ble_eq_true rfl) dX3_init_6 (fun q1 H hP hD hS => ?_)
  refine z_putF (ci := 3) (v := .ref q1) (fs := [.null, .null, .int 0]) (C := RX3) (T := TX3) (N := 3) (ty := (tyX3 0)) hx hb hts iX3 tyX3 tyX3_ok nmX3 hown hK hP hD hS _ 0 (zFoc_l zFoc_1) rfl (by decide) k9 (fun _ h9 => h9) rfl hinm rfl (by decide +kernel) rfl rfl (Nat.le_of_ble_eq_true rfl) dX3_init_8 (fun H locs hP hD hS => ?_)
  have hP : va_P G vwCl ([(h0, .inr (3, [.ref q1, .null, .int 0]))] ++ [(q1, .inl (cy 1, 4, .inl (fun _ => 0)))]) H := hP
  have hD : va_D A ([(h0, .inr (3, [.ref q1, .null, .int 0]))] ++ [(q1, .inl (cy 1, 4, .inl (fun _ => 0)))]) := hD
  refine lv_aload_n hx hb dX3_init_11 rfl (lv_at hl 0 rfl) ?_
  refine lv_iconst (v := 4) hx hb dX3_init_12 (by decide) ?_
  refine z_newa (atype := .int) (ty := .int) (a0 := (4, .inl (fun _ => 0))) hx hb kAint rfl hK hP hD hS hA 1 rfl (fun _ => rfl) (by decide) (by decide) (Nat.le_of_ble_eq_true rfl) (Nat.le_of_ble_eq_true rfl) (Nat.le_of_ble_eq_true rfl) dX3_init_13 (fun q2 H hP hD hS => ?_)
  refine z_putF (ci := 3) (v := .ref q2) (fs := [.ref q1, .null, .int 0]) (C := RX3) (T := TX3) (N := 3) (ty := (tyX3 1)) hx hb hts iX3 tyX3 tyX3_ok nmX3 hown hK hP hD hS _ 1 (zFoc_l (zFoc_l zFoc_1)) rfl (by decide) k15 (fun _ h9 => h9) rfl hinm rfl (by decide +kernel) rfl rfl (Nat.le_of_ble_eq_true rfl) dX3_init_15 (fun H locs hP hD hS => ?_)
  have hP : va_P G vwCl (([(h0, .inr (3, [.ref q1, .ref q2, .int 0]))] ++ [(q1, .inl (cy 1, 4, .inl (fun _ => 0)))]) ++ [(q2, .inl (cy 1, 4, .inl (fun _ => 0)))]) H := hP
  have hD : va_D A (([(h0, .inr (3, [.ref q1, .ref q2, .int 0]))] ++ [(q1, .inl (cy 1, 4, .inl (fun _ => 0)))]) ++ [(q2, .inl (cy 1, 4, .inl (fun _ => 0)))]) := hD
  refine W.widen (k := 2) (n := 8) (Nat.le_of_ble_eq_true rfl) (Nat.le_of_ble_eq_true rfl) ?_
  exact z_vretc (u := ((fun k => match k with | 0 => h0 | 1 => q1 | _ => q2) : Nat → Nat)) rfl hx hb hr hlocks hK hP hD hS dX3_init_18
set_option maxHeartbeats 4000000 in
set_option maxRecDepth 100000 in
theorem c_X6_init (l : Launch) (G : va_G) (cy : Nat → ClassId) (st : Nat → Nat) (h0 : Nat) : zMc (τ := (Nat → Nat)) l yX6_init wsX6_init (zRc 1 2 207) G cy st [.ref h0] [(h0, .inr (6, [.null, .null, .int 0, .int 0]))] (fun u => u 0 = h0) (fun u => wTx cy u (fun _ => 0) (fun _ => 0) 0 0) 2 207 := by
  refine zMc_of (cc := cX6_init) (maxL := 1) (by decide) rfl rfl (Nat.le_of_ble_eq_true rfl) ?_
  intro p e s m below meth c A ls hx hb hml hr hlocks hown hts hinm hK hSE hA hP hD hS hl
  have hown : s.vm.findClass RX6 = some m.cls := hown
  have hl : lv_has ls 1 [(0, .ref h0)] := hl
  have k3 := hts (.methodLink RX6 3 objectInit) (by decide +kernel)
  have kOi := hts (.instanceMethod objectInit) (by decide +kernel)
  have kOc := hts (.code objectInit ⟨#[0xb1]⟩ 1 none) (by decide +kernel)
  have kAint := hts (.arrayClass .int) (by decide +kernel)
  have iX6 : ∀ w ∈ wsX60, w ∈ wsX6_init := fun w h => List.mem_cons_of_mem _ (List.mem_append_right _ h)
  have k9 := hts (.fieldLink RX6 9 "TapCascade$Text" "letters" "[I") (by decide +kernel)
  have k18 := hts (.fieldLink RX6 18 "TapCascade$Text" "told" "[I") (by decide +kernel)
  refine lv_aload_n hx hb dX6_init_0 rfl (lv_at hl 0 rfl) ?_
  refine W.objInit hx hb hown k3 kOi kOc rfl (by rw [hml]; exact hl.1) rfl dX6_init_1 (Nat.le_of_ble_eq_true rfl) (Nat.le_of_ble_eq_true rfl) ?_
  refine W.eq (g2 := F0 m 4 ls []) rfl ?_
  refine lv_aload_n hx hb dX6_init_4 rfl (lv_at hl 0 rfl) ?_
  refine lv_sipush (v := 200) hx hb dX6_init_5 (by decide) ?_
  refine z_newa (atype := .int) (ty := .int) (a0 := (200, .inl (fun _ => 0))) hx hb kAint rfl hK hP hD hS hA 1 rfl (fun _ => rfl) (by decide) (by decide) (Nat.le_of_ble_eq_true rfl) (Nat.le_of_ble_eq_true rfl) (Nat.le_of_ble_eq_true rfl) dX6_init_8 (fun q1 H hP hD hS => ?_)
  refine z_putF (ci := 6) (v := .ref q1) (fs := [.null, .null, .int 0, .int 0]) (C := RX6) (T := TX6) (N := 4) (ty := (tyX6 0)) hx hb hts iX6 tyX6 tyX6_ok nmX6 hown hK hP hD hS _ 0 (zFoc_l zFoc_1) rfl (by decide) k9 (fun _ h9 => h9) rfl hinm rfl (by decide +kernel) rfl rfl (Nat.le_of_ble_eq_true rfl) dX6_init_10 (fun H locs hP hD hS => ?_)
  have hP : va_P G vwCl ([(h0, .inr (6, [.ref q1, .null, .int 0, .int 0]))] ++ [(q1, .inl (cy 1, 200, .inl (fun _ => 0)))]) H := hP
  have hD : va_D A ([(h0, .inr (6, [.ref q1, .null, .int 0, .int 0]))] ++ [(q1, .inl (cy 1, 200, .inl (fun _ => 0)))]) := hD
  refine lv_aload_n hx hb dX6_init_13 rfl (lv_at hl 0 rfl) ?_
  refine va_getsN hx hb hSE.1.1 hS hown (va_Nw.use rfl hSE.2.2.1.2.1) (fun _ h9 => h9) dX6_init_14 ?_
  refine va_tlen (N := 7) (v := 7) hx hb hSE.1.2 hS (by decide) dX6_init_17 ?_
  refine z_newa (atype := .int) (ty := .int) (a0 := (7, .inl (fun _ => 0))) hx hb kAint rfl hK hP hD hS hA 1 rfl (fun _ => rfl) (by decide) (by decide) (Nat.le_of_ble_eq_true rfl) (Nat.le_of_ble_eq_true rfl) (Nat.le_of_ble_eq_true rfl) dX6_init_18 (fun q2 H hP hD hS => ?_)
  refine z_putF (ci := 6) (v := .ref q2) (fs := [.ref q1, .null, .int 0, .int 0]) (C := RX6) (T := TX6) (N := 4) (ty := (tyX6 1)) hx hb hts iX6 tyX6 tyX6_ok nmX6 hown hK hP hD hS _ 1 (zFoc_l (zFoc_l zFoc_1)) rfl (by decide) k18 (fun _ h9 => h9) rfl hinm rfl (by decide +kernel) rfl rfl (Nat.le_of_ble_eq_true rfl) dX6_init_20 (fun H locs hP hD hS => ?_)
  have hP : va_P G vwCl (([(h0, .inr (6, [.ref q1, .ref q2, .int 0, .int 0]))] ++ [(q1, .inl (cy 1, 200, .inl (fun _ => 0)))]) ++ [(q2, .inl (cy 1, 7, .inl (fun _ => 0)))]) H := hP
  have hD : va_D A (([(h0, .inr (6, [.ref q1, .ref q2, .int 0, .int 0]))] ++ [(q1, .inl (cy 1, 200, .inl (fun _ => 0)))]) ++ [(q2, .inl (cy 1, 7, .inl (fun _ => 0)))]) := hD
  refine W.widen (k := 2) (n := 207) (Nat.le_of_ble_eq_true rfl) (Nat.le_of_ble_eq_true rfl) ?_
  exact z_vretc (u := ((fun k => match k with | 0 => h0 | 1 => q1 | _ => q2) : Nat → Nat)) rfl hx hb hr hlocks hK hP hD hS dX6_init_23
set_option maxHeartbeats 4000000 in
set_option maxRecDepth 100000 in
theorem c_X1_init (l : Launch) (G : va_G) (cy : Nat → ClassId) (st : Nat → Nat) (h0 : Nat) : zMc (τ := (Nat → Nat)) l yX1_init wsX1_init (zRc 2 10 133) G cy st [.ref h0] [(h0, .inr (1, [.null, .null, .null, .int 0, .int 0, .int 0]))] (fun u => u 0 = h0) (fun u => wLn cy u (fun _ _ => 0)) 10 133 := by
  refine zMc_of (cc := cX1_init) (maxL := 2) (by decide) rfl rfl (Nat.le_of_ble_eq_true rfl) ?_
  intro p e s m below meth c A ls hx hb hml hr hlocks hown hts hinm hK hSE hA hP hD hS hl
  have hown : s.vm.findClass RX1 = some m.cls := hown
  have hl : lv_has ls 2 [(0, .ref h0)] := hl
  have k3 := hts (.methodLink RX1 3 objectInit) (by decide +kernel)
  have kOi := hts (.instanceMethod objectInit) (by decide +kernel)
  have kOc := hts (.code objectInit ⟨#[0xb1]⟩ 1 none) (by decide +kernel)
  have kC9 := hts (.classLink RX1 9 RX4) (by decide +kernel)
  have iX1 : ∀ w ∈ wsX10, w ∈ wsX1_init := fun w h => List.mem_cons_of_mem _ (List.mem_append_left _ (List.mem_append_left _ (List.mem_append_right _ h)))
  have k11 := hts (.fieldLink RX1 11 "TapCascade$Line" "stages" "[LTapCascade$Stage;") (by decide +kernel)
  have kAboolean := hts (.arrayClass .boolean) (by decide +kernel)
  have k17 := hts (.fieldLink RX1 17 "TapCascade$Line" "called" "[Z") (by decide +kernel)
  have kC21 := hts (.classLink RX1 21 RX5) (by decide +kernel)
  have kIX5 := hts (.instantiable RX5 5) (by decide +kernel)
  have kNX5 := hts (.initialized RX5) (by decide +kernel)
  have iX5 : ∀ w ∈ wsX50, w ∈ wsX1_init := fun w h => List.mem_cons_of_mem _ (List.mem_append_left _ (List.mem_append_right _ h))
  have k23 := hts (.methodLink RX1 23 yX5_init) (by decide +kernel)
  have kJX5 := hts (.instanceMethod yX5_init) (by decide +kernel)
  have k24 := hts (.fieldLink RX1 24 "TapCascade$Line" "log" "LTapCascade$StepLog;") (by decide +kernel)
  have kIX4 := hts (.instantiable RX4 15) (by decide +kernel)
  have kNX4 := hts (.initialized RX4) (by decide +kernel)
  have iX4 : ∀ w ∈ wsX40, w ∈ wsX1_init := fun w h => List.mem_cons_of_mem _ (List.mem_append_right _ h)
  have k28 := hts (.methodLink RX1 28 yX4_init) (by decide +kernel)
  have kJX4 := hts (.instanceMethod yX4_init) (by decide +kernel)
  refine lv_aload_n hx hb dX1_init_0 rfl (lv_at hl 0 rfl) ?_
  refine W.objInit hx hb hown k3 kOi kOc rfl (by rw [hml]; exact hl.1) rfl dX1_init_1 (Nat.le_of_ble_eq_true rfl) (Nat.le_of_ble_eq_true rfl) ?_
  refine W.eq (g2 := F0 m 4 ls []) rfl ?_
  refine lv_aload_n hx hb dX1_init_4 rfl (lv_at hl 0 rfl) ?_
  refine lv_iconst (v := 4) hx hb dX1_init_5 (by decide) ?_
  refine z_newq (C := RX4) (N' := 4) hx hb hown kC9 hSE.2.2.2.2.2.2.1 hK hP hD hS hA 5 rfl (by decide) (by decide) (Nat.le_of_ble_eq_true rfl) (Nat.le_of_ble_eq_true rfl) (Nat.le_of_ble_eq_true rfl) dX1_init_6 (fun q1 H hP hD hS => ?_)
  refine z_putF (ci := 1) (v := .ref q1) (fs := [.null, .null, .null, .int 0, .int 0, .int 0]) (C := RX1) (T := TX1) (N := 6) (ty := (tyX1 0)) hx hb hts iX1 tyX1 tyX1_ok nmX1 hown hK hP hD hS _ 0 (zFoc_l zFoc_1) rfl (by decide) k11 (fun _ h9 => h9) rfl hinm rfl (by decide +kernel) rfl rfl (Nat.le_of_ble_eq_true rfl) dX1_init_9 (fun H locs hP hD hS => ?_)
  have hP : va_P G vwCl ([(h0, .inr (1, [.ref q1, .null, .null, .int 0, .int 0, .int 0]))] ++ [(q1, .inl (cy 5, 4, .inr (.inr (.inr (.inr (fun _ => none))))))]) H := hP
  have hD : va_D A ([(h0, .inr (1, [.ref q1, .null, .null, .int 0, .int 0, .int 0]))] ++ [(q1, .inl (cy 5, 4, .inr (.inr (.inr (.inr (fun _ => none))))))]) := hD
  refine lv_aload_n hx hb dX1_init_12 rfl (lv_at hl 0 rfl) ?_
  refine lv_iconst (v := 4) hx hb dX1_init_13 (by decide) ?_
  refine z_newa (atype := .boolean) (ty := .boolean) (a0 := (4, .inl (fun _ => 0))) hx hb kAboolean rfl hK hP hD hS hA 3 rfl (fun _ => rfl) (by decide) (by decide) (Nat.le_of_ble_eq_true rfl) (Nat.le_of_ble_eq_true rfl) (Nat.le_of_ble_eq_true rfl) dX1_init_14 (fun q2 H hP hD hS => ?_)
  refine z_putF (ci := 1) (v := .ref q2) (fs := [.ref q1, .null, .null, .int 0, .int 0, .int 0]) (C := RX1) (T := TX1) (N := 6) (ty := (tyX1 1)) hx hb hts iX1 tyX1 tyX1_ok nmX1 hown hK hP hD hS _ 1 (zFoc_l (zFoc_l zFoc_1)) rfl (by decide) k17 (fun _ h9 => h9) rfl hinm rfl (by decide +kernel) rfl rfl (Nat.le_of_ble_eq_true rfl) dX1_init_16 (fun H locs hP hD hS => ?_)
  have hP : va_P G vwCl (([(h0, .inr (1, [.ref q1, .ref q2, .null, .int 0, .int 0, .int 0]))] ++ [(q1, .inl (cy 5, 4, .inr (.inr (.inr (.inr (fun _ => none))))))]) ++ [(q2, .inl (cy 3, 4, .inl (fun _ => 0)))]) H := hP
  have hD : va_D A (([(h0, .inr (1, [.ref q1, .ref q2, .null, .int 0, .int 0, .int 0]))] ++ [(q1, .inl (cy 5, 4, .inr (.inr (.inr (.inr (fun _ => none))))))]) ++ [(q2, .inl (cy 3, 4, .inl (fun _ => 0)))]) := hD
  refine lv_aload_n hx hb dX1_init_19 rfl (lv_at hl 0 rfl) ?_
  refine va_new (ci := 5) (fs := [.null, .null, .null, .int 0, .int 0]) (C := RX5) (T := TX5) (N := 5) hx hb hts iX5 tyX5 tyX5_ok hown kC21 kIX5 kNX5 hK hP hD hS hA rfl (fun j hj => match j, hj with | 0, _ => rfl | 1, _ => rfl | 2, _ => rfl | 3, _ => rfl | 4, _ => rfl | j + 5, h => absurd h (by omega)) (Nat.le_of_ble_eq_true rfl) (Nat.le_of_ble_eq_true rfl) dX1_init_20 (fun q3 H hP hD hS => ?_)
  refine lv_dup hx hb dX1_init_23 rfl ?_
  refine z_cI (τ := (Nat → Nat)) (b := q3) (As := []) (rest := [.ref q3, .ref h0]) (wc := [(q3, .inr (5, [.null, .null, .null, .int 0, .int 0]))]) (wf := fun u => (([(h0, .inr (1, [.ref q1, .ref q2, .null, .int 0, .int 0, .int 0]))] ++ [(q1, .inl (cy 5, 4, .inr (.inr (.inr (.inr (fun _ => none))))))]) ++ [(q2, .inl (cy 3, 4, .inl (fun _ => 0)))]) ++ (fun u => wLg cy u (fun _ => 0) (fun _ => 0) (fun _ => 0) 0 0) u) (c_X5_init l G cy st q3) (zP_right hP) (zD_right hD) (fun u => zCut_r zCut_all) ⟨hx, hb, hml, hown, hts⟩ (cwI 0 hts gX1_init_X5_init rfl rfl rfl kNX5 k23 kJX5 rfl (by decide +kernel) ⟨Nat.le_of_ble_eq_true rfl, Nat.le_of_ble_eq_true rfl⟩) hK hSE hA hP hD hS rfl hl.1 rfl (Nat.le_of_ble_eq_true rfl) dX1_init_24 ⟨Nat.le_of_ble_eq_true rfl, Nat.le_of_ble_eq_true rfl⟩ (fun u4 e5 H locs hP2 hD2 hS2 => ?_)
  have e5 : u4 0 = q3 := e5
  subst e5
  have hP : va_P G vwCl ((([(h0, .inr (1, [.ref q1, .ref q2, .null, .int 0, .int 0, .int 0]))] ++ [(q1, .inl (cy 5, 4, .inr (.inr (.inr (.inr (fun _ => none))))))]) ++ [(q2, .inl (cy 3, 4, .inl (fun _ => 0)))]) ++ (wLg cy u4 (fun _ => 0) (fun _ => 0) (fun _ => 0) 0 0)) H := hP2
  have hD : va_D A ((([(h0, .inr (1, [.ref q1, .ref q2, .null, .int 0, .int 0, .int 0]))] ++ [(q1, .inl (cy 5, 4, .inr (.inr (.inr (.inr (fun _ => none))))))]) ++ [(q2, .inl (cy 3, 4, .inl (fun _ => 0)))]) ++ (wLg cy u4 (fun _ => 0) (fun _ => 0) (fun _ => 0) 0 0)) := hD2
  have hS := hS2
  refine z_putF (ci := 1) (v := .ref (u4 0)) (fs := [.ref q1, .ref q2, .null, .int 0, .int 0, .int 0]) (C := RX1) (T := TX1) (N := 6) (ty := (tyX1 2)) hx hb hts iX1 tyX1 tyX1_ok nmX1 hown hK hP hD hS _ 2 (zFoc_l (zFoc_l (zFoc_l zFoc_1))) rfl (by decide) k24 (fun _ h9 => h9) rfl hinm rfl (by decide +kernel) rfl rfl (Nat.le_of_ble_eq_true rfl) dX1_init_27 (fun H locs hP hD hS => ?_)
  have hP : va_P G vwCl ((([(h0, .inr (1, [.ref q1, .ref q2, .ref (u4 0), .int 0, .int 0, .int 0]))] ++ [(q1, .inl (cy 5, 4, .inr (.inr (.inr (.inr (fun _ => none))))))]) ++ [(q2, .inl (cy 3, 4, .inl (fun _ => 0)))]) ++ (wLg cy u4 (fun _ => 0) (fun _ => 0) (fun _ => 0) 0 0)) H := hP
  have hD : va_D A ((([(h0, .inr (1, [.ref q1, .ref q2, .ref (u4 0), .int 0, .int 0, .int 0]))] ++ [(q1, .inl (cy 5, 4, .inr (.inr (.inr (.inr (fun _ => none))))))]) ++ [(q2, .inl (cy 3, 4, .inl (fun _ => 0)))]) ++ (wLg cy u4 (fun _ => 0) (fun _ => 0) (fun _ => 0) 0 0)) := hD
  refine lv_iconst (v := 0) hx hb dX1_init_30 (by decide) ?_
  refine lv_istore_n (lv' := [(1, .int 0), (0, .ref h0)]) hx hb dX1_init_31 rfl hl (by decide) rfl (fun ls hl => ?_)
  refine lv_iload_n hx hb dX1_init_32 rfl (lv_at hl 0 rfl) ?_
  refine lv_iconst (v := 4) hx hb dX1_init_33 (by decide) ?_
  refine lv_icmp_ge (tgt := 56) hx hb dX1_init_34 (by decide) (fun h => absurd h (by decide)) (fun _ => ?_)
  refine lv_aload_n hx hb dX1_init_37 rfl (lv_at hl 1 rfl) ?_
  refine va_get (ci := 1) (C := RX1) (T := TX1) (N := 6) (fs := [.ref q1, .ref q2, .ref (u4 0), .int 0, .int 0, .int 0]) (v := .ref q1) hx hb hts iX1 hown hK hP _ (zat_l (zat_l (zat_l (show [_][0]? = some _ from rfl)))) rfl 0 (by decide) k11 (fun _ h9 => h9) rfl dX1_init_38 ?_
  refine lv_iload_n hx hb dX1_init_41 rfl (lv_at hl 0 rfl) ?_
  refine va_new (ci := 4) (fs := zSt (fun _ => 0)) (C := RX4) (T := TX4) (N := 15) hx hb hts iX4 tyX4 tyX4_ok hown kC9 kIX4 kNX4 hK hP hD hS hA rfl (fun j hj => match j, hj with | 0, _ => rfl | 1, _ => rfl | 2, _ => rfl | 3, _ => rfl | 4, _ => rfl | 5, _ => rfl | 6, _ => rfl | 7, _ => rfl | 8, _ => rfl | 9, _ => rfl | 10, _ => rfl | 11, _ => rfl | 12, _ => rfl | 13, _ => rfl | 14, _ => rfl | j + 15, h => absurd h (by omega)) (Nat.le_of_ble_eq_true rfl) (Nat.le_of_ble_eq_true rfl) dX1_init_42 (fun q6 H hP hD hS => ?_)
  refine lv_dup hx hb dX1_init_45 rfl ?_
  refine z_cI (τ := Unit) (b := q6) (As := []) (rest := [.ref q6, .int 0, .ref q1]) (wc := [(q6, .inr (4, zSt (fun _ => 0)))]) (wf := fun u => ((([(h0, .inr (1, [.ref q1, .ref q2, .ref (u4 0), .int 0, .int 0, .int 0]))] ++ [(q1, .inl (cy 5, 4, .inr (.inr (.inr (.inr (fun _ => none))))))]) ++ [(q2, .inl (cy 3, 4, .inl (fun _ => 0)))]) ++ (wLg cy u4 (fun _ => 0) (fun _ => 0) (fun _ => 0) 0 0)) ++ (fun _ => wSt cy q6 (fun _ => 0)) u) (c_X4_init l G cy st q6) (zP_right hP) (zD_right hD) (fun u => zCut_r zCut_all) ⟨hx, hb, hml, hown, hts⟩ (cwI 0 hts gX1_init_X4_init rfl rfl rfl kNX4 k28 kJX4 rfl (by decide +kernel) ⟨Nat.le_of_ble_eq_true rfl, Nat.le_of_ble_eq_true rfl⟩) hK hSE hA hP hD hS rfl hl.1 rfl (Nat.le_of_ble_eq_true rfl) dX1_init_46 ⟨Nat.le_of_ble_eq_true rfl, Nat.le_of_ble_eq_true rfl⟩ (fun u7 e8 H locs hP2 hD2 hS2 => ?_)
  have hP : va_P G vwCl (((([(h0, .inr (1, [.ref q1, .ref q2, .ref (u4 0), .int 0, .int 0, .int 0]))] ++ [(q1, .inl (cy 5, 4, .inr (.inr (.inr (.inr (fun _ => none))))))]) ++ [(q2, .inl (cy 3, 4, .inl (fun _ => 0)))]) ++ (wLg cy u4 (fun _ => 0) (fun _ => 0) (fun _ => 0) 0 0)) ++ [(q6, .inr (4, zSt (fun _ => 0)))]) H := hP2
  have hD : va_D A (((([(h0, .inr (1, [.ref q1, .ref q2, .ref (u4 0), .int 0, .int 0, .int 0]))] ++ [(q1, .inl (cy 5, 4, .inr (.inr (.inr (.inr (fun _ => none))))))]) ++ [(q2, .inl (cy 3, 4, .inl (fun _ => 0)))]) ++ (wLg cy u4 (fun _ => 0) (fun _ => 0) (fun _ => 0) 0 0)) ++ [(q6, .inr (4, zSt (fun _ => 0)))]) := hD2
  have hS := hS2
  refine z_astq (i := 0) (f := (fun _ => none)) (n := 4) hx hb hK hP hD hS _ 5 _ 4 (zFoc_l (zFoc_l (zFoc_l (zFoc_r (n := 1) (by simp only [List.length_append, List.length_cons, List.length_nil, wLn_len, wLg_len, wLs_len, wPo_len, wCo_len, wSe_len, wTx_len]) zFoc_1)))) rfl (zat_r (n := 7) (by simp only [List.length_append, List.length_cons, List.length_nil, wLn_len, wLg_len, wLs_len, wPo_len, wCo_len, wSe_len, wTx_len]) (show [_][0]? = some _ from rfl)) rfl (by unfold vp_in; decide) dX1_init_49 (fun H locs hP hD hS => ?_)
  have hP : va_P G vwCl (((([(h0, .inr (1, [.ref q1, .ref q2, .ref (u4 0), .int 0, .int 0, .int 0]))] ++ [(q1, .inl (cy 5, 4, .inr (.inr (.inr (.inr (va_up (fun _ => none) (zn 0) (some q6)))))))]) ++ [(q2, .inl (cy 3, 4, .inl (fun _ => 0)))]) ++ (wLg cy u4 (fun _ => 0) (fun _ => 0) (fun _ => 0) 0 0)) ++ [(q6, .inr (4, zSt (fun _ => 0)))]) H := hP
  have hD : va_D A (((([(h0, .inr (1, [.ref q1, .ref q2, .ref (u4 0), .int 0, .int 0, .int 0]))] ++ [(q1, .inl (cy 5, 4, .inr (.inr (.inr (.inr (va_up (fun _ => none) (zn 0) (some q6)))))))]) ++ [(q2, .inl (cy 3, 4, .inl (fun _ => 0)))]) ++ (wLg cy u4 (fun _ => 0) (fun _ => 0) (fun _ => 0) 0 0)) ++ [(q6, .inr (4, zSt (fun _ => 0)))]) := hD
  refine lv_iinc (v := 1) (lv' := [(1, .int 1), (0, .ref h0)]) hx hb dX1_init_50 hl (k := 0) rfl (by decide) (by decide) rfl (fun ls hl => ?_)
  refine lv_goto (tgt := 32) hx hb dX1_init_53 (by decide) ?_
  refine lv_iload_n hx hb dX1_init_32 rfl (lv_at hl 0 rfl) ?_
  refine lv_iconst (v := 4) hx hb dX1_init_33 (by decide) ?_
  refine lv_icmp_ge (tgt := 56) hx hb dX1_init_34 (by decide) (fun h => absurd h (by decide)) (fun _ => ?_)
  refine lv_aload_n hx hb dX1_init_37 rfl (lv_at hl 1 rfl) ?_
  refine va_get (ci := 1) (C := RX1) (T := TX1) (N := 6) (fs := [.ref q1, .ref q2, .ref (u4 0), .int 0, .int 0, .int 0]) (v := .ref q1) hx hb hts iX1 hown hK hP _ (zat_l (zat_l (zat_l (zat_l (show [_][0]? = some _ from rfl))))) rfl 0 (by decide) k11 (fun _ h9 => h9) rfl dX1_init_38 ?_
  refine lv_iload_n hx hb dX1_init_41 rfl (lv_at hl 0 rfl) ?_
  refine va_new (ci := 4) (fs := zSt (fun _ => 0)) (C := RX4) (T := TX4) (N := 15) hx hb hts iX4 tyX4 tyX4_ok hown kC9 kIX4 kNX4 hK hP hD hS hA rfl (fun j hj => match j, hj with | 0, _ => rfl | 1, _ => rfl | 2, _ => rfl | 3, _ => rfl | 4, _ => rfl | 5, _ => rfl | 6, _ => rfl | 7, _ => rfl | 8, _ => rfl | 9, _ => rfl | 10, _ => rfl | 11, _ => rfl | 12, _ => rfl | 13, _ => rfl | 14, _ => rfl | j + 15, h => absurd h (by omega)) (Nat.le_of_ble_eq_true rfl) (Nat.le_of_ble_eq_true rfl) dX1_init_42 (fun q9 H hP hD hS => ?_)
  refine lv_dup hx hb dX1_init_45 rfl ?_
  refine z_cI (τ := Unit) (b := q9) (As := []) (rest := [.ref q9, .int 1, .ref q1]) (wc := [(q9, .inr (4, zSt (fun _ => 0)))]) (wf := fun u => (((([(h0, .inr (1, [.ref q1, .ref q2, .ref (u4 0), .int 0, .int 0, .int 0]))] ++ [(q1, .inl (cy 5, 4, .inr (.inr (.inr (.inr (va_up (fun _ => none) (zn 0) (some q6)))))))]) ++ [(q2, .inl (cy 3, 4, .inl (fun _ => 0)))]) ++ (wLg cy u4 (fun _ => 0) (fun _ => 0) (fun _ => 0) 0 0)) ++ [(q6, .inr (4, zSt (fun _ => 0)))]) ++ (fun _ => wSt cy q9 (fun _ => 0)) u) (c_X4_init l G cy st q9) (zP_right hP) (zD_right hD) (fun u => zCut_r zCut_all) ⟨hx, hb, hml, hown, hts⟩ (cwI 0 hts gX1_init_X4_init rfl rfl rfl kNX4 k28 kJX4 rfl (by decide +kernel) ⟨Nat.le_of_ble_eq_true rfl, Nat.le_of_ble_eq_true rfl⟩) hK hSE hA hP hD hS rfl hl.1 rfl (Nat.le_of_ble_eq_true rfl) dX1_init_46 ⟨Nat.le_of_ble_eq_true rfl, Nat.le_of_ble_eq_true rfl⟩ (fun u10 e11 H locs hP2 hD2 hS2 => ?_)
  have hP : va_P G vwCl ((((([(h0, .inr (1, [.ref q1, .ref q2, .ref (u4 0), .int 0, .int 0, .int 0]))] ++ [(q1, .inl (cy 5, 4, .inr (.inr (.inr (.inr (va_up (fun _ => none) (zn 0) (some q6)))))))]) ++ [(q2, .inl (cy 3, 4, .inl (fun _ => 0)))]) ++ (wLg cy u4 (fun _ => 0) (fun _ => 0) (fun _ => 0) 0 0)) ++ [(q6, .inr (4, zSt (fun _ => 0)))]) ++ [(q9, .inr (4, zSt (fun _ => 0)))]) H := hP2
  have hD : va_D A ((((([(h0, .inr (1, [.ref q1, .ref q2, .ref (u4 0), .int 0, .int 0, .int 0]))] ++ [(q1, .inl (cy 5, 4, .inr (.inr (.inr (.inr (va_up (fun _ => none) (zn 0) (some q6)))))))]) ++ [(q2, .inl (cy 3, 4, .inl (fun _ => 0)))]) ++ (wLg cy u4 (fun _ => 0) (fun _ => 0) (fun _ => 0) 0 0)) ++ [(q6, .inr (4, zSt (fun _ => 0)))]) ++ [(q9, .inr (4, zSt (fun _ => 0)))]) := hD2
  have hS := hS2
  refine z_astq (i := 1) (f := (va_up (fun _ => none) (zn 0) (some q6))) (n := 4) hx hb hK hP hD hS _ 5 _ 4 (zFoc_l (zFoc_l (zFoc_l (zFoc_l (zFoc_r (n := 1) (by simp only [List.length_append, List.length_cons, List.length_nil, wLn_len, wLg_len, wLs_len, wPo_len, wCo_len, wSe_len, wTx_len]) zFoc_1))))) rfl (zat_r (n := 8) (by simp only [List.length_append, List.length_cons, List.length_nil, wLn_len, wLg_len, wLs_len, wPo_len, wCo_len, wSe_len, wTx_len]) (show [_][0]? = some _ from rfl)) rfl (by unfold vp_in; decide) dX1_init_49 (fun H locs hP hD hS => ?_)
  have hP : va_P G vwCl ((((([(h0, .inr (1, [.ref q1, .ref q2, .ref (u4 0), .int 0, .int 0, .int 0]))] ++ [(q1, .inl (cy 5, 4, .inr (.inr (.inr (.inr (va_up (va_up (fun _ => none) (zn 0) (some q6)) (zn 1) (some q9)))))))]) ++ [(q2, .inl (cy 3, 4, .inl (fun _ => 0)))]) ++ (wLg cy u4 (fun _ => 0) (fun _ => 0) (fun _ => 0) 0 0)) ++ [(q6, .inr (4, zSt (fun _ => 0)))]) ++ [(q9, .inr (4, zSt (fun _ => 0)))]) H := hP
  have hD : va_D A ((((([(h0, .inr (1, [.ref q1, .ref q2, .ref (u4 0), .int 0, .int 0, .int 0]))] ++ [(q1, .inl (cy 5, 4, .inr (.inr (.inr (.inr (va_up (va_up (fun _ => none) (zn 0) (some q6)) (zn 1) (some q9)))))))]) ++ [(q2, .inl (cy 3, 4, .inl (fun _ => 0)))]) ++ (wLg cy u4 (fun _ => 0) (fun _ => 0) (fun _ => 0) 0 0)) ++ [(q6, .inr (4, zSt (fun _ => 0)))]) ++ [(q9, .inr (4, zSt (fun _ => 0)))]) := hD
  refine lv_iinc (v := 2) (lv' := [(1, .int 2), (0, .ref h0)]) hx hb dX1_init_50 hl (k := 0) rfl (by decide) (by decide) rfl (fun ls hl => ?_)
  refine lv_goto (tgt := 32) hx hb dX1_init_53 (by decide) ?_
  refine lv_iload_n hx hb dX1_init_32 rfl (lv_at hl 0 rfl) ?_
  refine lv_iconst (v := 4) hx hb dX1_init_33 (by decide) ?_
  refine lv_icmp_ge (tgt := 56) hx hb dX1_init_34 (by decide) (fun h => absurd h (by decide)) (fun _ => ?_)
  refine lv_aload_n hx hb dX1_init_37 rfl (lv_at hl 1 rfl) ?_
  refine va_get (ci := 1) (C := RX1) (T := TX1) (N := 6) (fs := [.ref q1, .ref q2, .ref (u4 0), .int 0, .int 0, .int 0]) (v := .ref q1) hx hb hts iX1 hown hK hP _ (zat_l (zat_l (zat_l (zat_l (zat_l (show [_][0]? = some _ from rfl)))))) rfl 0 (by decide) k11 (fun _ h9 => h9) rfl dX1_init_38 ?_
  refine lv_iload_n hx hb dX1_init_41 rfl (lv_at hl 0 rfl) ?_
  refine va_new (ci := 4) (fs := zSt (fun _ => 0)) (C := RX4) (T := TX4) (N := 15) hx hb hts iX4 tyX4 tyX4_ok hown kC9 kIX4 kNX4 hK hP hD hS hA rfl (fun j hj => match j, hj with | 0, _ => rfl | 1, _ => rfl | 2, _ => rfl | 3, _ => rfl | 4, _ => rfl | 5, _ => rfl | 6, _ => rfl | 7, _ => rfl | 8, _ => rfl | 9, _ => rfl | 10, _ => rfl | 11, _ => rfl | 12, _ => rfl | 13, _ => rfl | 14, _ => rfl | j + 15, h => absurd h (by omega)) (Nat.le_of_ble_eq_true rfl) (Nat.le_of_ble_eq_true rfl) dX1_init_42 (fun q12 H hP hD hS => ?_)
  refine lv_dup hx hb dX1_init_45 rfl ?_
  refine z_cI (τ := Unit) (b := q12) (As := []) (rest := [.ref q12, .int 2, .ref q1]) (wc := [(q12, .inr (4, zSt (fun _ => 0)))]) (wf := fun u => ((((([(h0, .inr (1, [.ref q1, .ref q2, .ref (u4 0), .int 0, .int 0, .int 0]))] ++ [(q1, .inl (cy 5, 4, .inr (.inr (.inr (.inr (va_up (va_up (fun _ => none) (zn 0) (some q6)) (zn 1) (some q9)))))))]) ++ [(q2, .inl (cy 3, 4, .inl (fun _ => 0)))]) ++ (wLg cy u4 (fun _ => 0) (fun _ => 0) (fun _ => 0) 0 0)) ++ [(q6, .inr (4, zSt (fun _ => 0)))]) ++ [(q9, .inr (4, zSt (fun _ => 0)))]) ++ (fun _ => wSt cy q12 (fun _ => 0)) u) (c_X4_init l G cy st q12) (zP_right hP) (zD_right hD) (fun u => zCut_r zCut_all) ⟨hx, hb, hml, hown, hts⟩ (cwI 0 hts gX1_init_X4_init rfl rfl rfl kNX4 k28 kJX4 rfl (by decide +kernel) ⟨Nat.le_of_ble_eq_true rfl, Nat.le_of_ble_eq_true rfl⟩) hK hSE hA hP hD hS rfl hl.1 rfl (Nat.le_of_ble_eq_true rfl) dX1_init_46 ⟨Nat.le_of_ble_eq_true rfl, Nat.le_of_ble_eq_true rfl⟩ (fun u13 e14 H locs hP2 hD2 hS2 => ?_)
  have hP : va_P G vwCl (((((([(h0, .inr (1, [.ref q1, .ref q2, .ref (u4 0), .int 0, .int 0, .int 0]))] ++ [(q1, .inl (cy 5, 4, .inr (.inr (.inr (.inr (va_up (va_up (fun _ => none) (zn 0) (some q6)) (zn 1) (some q9)))))))]) ++ [(q2, .inl (cy 3, 4, .inl (fun _ => 0)))]) ++ (wLg cy u4 (fun _ => 0) (fun _ => 0) (fun _ => 0) 0 0)) ++ [(q6, .inr (4, zSt (fun _ => 0)))]) ++ [(q9, .inr (4, zSt (fun _ => 0)))]) ++ [(q12, .inr (4, zSt (fun _ => 0)))]) H := hP2
  have hD : va_D A (((((([(h0, .inr (1, [.ref q1, .ref q2, .ref (u4 0), .int 0, .int 0, .int 0]))] ++ [(q1, .inl (cy 5, 4, .inr (.inr (.inr (.inr (va_up (va_up (fun _ => none) (zn 0) (some q6)) (zn 1) (some q9)))))))]) ++ [(q2, .inl (cy 3, 4, .inl (fun _ => 0)))]) ++ (wLg cy u4 (fun _ => 0) (fun _ => 0) (fun _ => 0) 0 0)) ++ [(q6, .inr (4, zSt (fun _ => 0)))]) ++ [(q9, .inr (4, zSt (fun _ => 0)))]) ++ [(q12, .inr (4, zSt (fun _ => 0)))]) := hD2
  have hS := hS2
  refine z_astq (i := 2) (f := (va_up (va_up (fun _ => none) (zn 0) (some q6)) (zn 1) (some q9))) (n := 4) hx hb hK hP hD hS _ 5 _ 4 (zFoc_l (zFoc_l (zFoc_l (zFoc_l (zFoc_l (zFoc_r (n := 1) (by simp only [List.length_append, List.length_cons, List.length_nil, wLn_len, wLg_len, wLs_len, wPo_len, wCo_len, wSe_len, wTx_len]) zFoc_1)))))) rfl (zat_r (n := 9) (by simp only [List.length_append, List.length_cons, List.length_nil, wLn_len, wLg_len, wLs_len, wPo_len, wCo_len, wSe_len, wTx_len]) (show [_][0]? = some _ from rfl)) rfl (by unfold vp_in; decide) dX1_init_49 (fun H locs hP hD hS => ?_)
  have hP : va_P G vwCl (((((([(h0, .inr (1, [.ref q1, .ref q2, .ref (u4 0), .int 0, .int 0, .int 0]))] ++ [(q1, .inl (cy 5, 4, .inr (.inr (.inr (.inr (va_up (va_up (va_up (fun _ => none) (zn 0) (some q6)) (zn 1) (some q9)) (zn 2) (some q12)))))))]) ++ [(q2, .inl (cy 3, 4, .inl (fun _ => 0)))]) ++ (wLg cy u4 (fun _ => 0) (fun _ => 0) (fun _ => 0) 0 0)) ++ [(q6, .inr (4, zSt (fun _ => 0)))]) ++ [(q9, .inr (4, zSt (fun _ => 0)))]) ++ [(q12, .inr (4, zSt (fun _ => 0)))]) H := hP
  have hD : va_D A (((((([(h0, .inr (1, [.ref q1, .ref q2, .ref (u4 0), .int 0, .int 0, .int 0]))] ++ [(q1, .inl (cy 5, 4, .inr (.inr (.inr (.inr (va_up (va_up (va_up (fun _ => none) (zn 0) (some q6)) (zn 1) (some q9)) (zn 2) (some q12)))))))]) ++ [(q2, .inl (cy 3, 4, .inl (fun _ => 0)))]) ++ (wLg cy u4 (fun _ => 0) (fun _ => 0) (fun _ => 0) 0 0)) ++ [(q6, .inr (4, zSt (fun _ => 0)))]) ++ [(q9, .inr (4, zSt (fun _ => 0)))]) ++ [(q12, .inr (4, zSt (fun _ => 0)))]) := hD
  refine lv_iinc (v := 3) (lv' := [(1, .int 3), (0, .ref h0)]) hx hb dX1_init_50 hl (k := 0) rfl (by decide) (by decide) rfl (fun ls hl => ?_)
  refine lv_goto (tgt := 32) hx hb dX1_init_53 (by decide) ?_
  refine lv_iload_n hx hb dX1_init_32 rfl (lv_at hl 0 rfl) ?_
  refine lv_iconst (v := 4) hx hb dX1_init_33 (by decide) ?_
  refine lv_icmp_ge (tgt := 56) hx hb dX1_init_34 (by decide) (fun h => absurd h (by decide)) (fun _ => ?_)
  refine lv_aload_n hx hb dX1_init_37 rfl (lv_at hl 1 rfl) ?_
  refine va_get (ci := 1) (C := RX1) (T := TX1) (N := 6) (fs := [.ref q1, .ref q2, .ref (u4 0), .int 0, .int 0, .int 0]) (v := .ref q1) hx hb hts iX1 hown hK hP _ (zat_l (zat_l (zat_l (zat_l (zat_l (zat_l (show [_][0]? = some _ from rfl))))))) rfl 0 (by decide) k11 (fun _ h9 => h9) rfl dX1_init_38 ?_
  refine lv_iload_n hx hb dX1_init_41 rfl (lv_at hl 0 rfl) ?_
  refine va_new (ci := 4) (fs := zSt (fun _ => 0)) (C := RX4) (T := TX4) (N := 15) hx hb hts iX4 tyX4 tyX4_ok hown kC9 kIX4 kNX4 hK hP hD hS hA rfl (fun j hj => match j, hj with | 0, _ => rfl | 1, _ => rfl | 2, _ => rfl | 3, _ => rfl | 4, _ => rfl | 5, _ => rfl | 6, _ => rfl | 7, _ => rfl | 8, _ => rfl | 9, _ => rfl | 10, _ => rfl | 11, _ => rfl | 12, _ => rfl | 13, _ => rfl | 14, _ => rfl | j + 15, h => absurd h (by omega)) (Nat.le_of_ble_eq_true rfl) (Nat.le_of_ble_eq_true rfl) dX1_init_42 (fun q15 H hP hD hS => ?_)
  refine lv_dup hx hb dX1_init_45 rfl ?_
  refine z_cI (τ := Unit) (b := q15) (As := []) (rest := [.ref q15, .int 3, .ref q1]) (wc := [(q15, .inr (4, zSt (fun _ => 0)))]) (wf := fun u => (((((([(h0, .inr (1, [.ref q1, .ref q2, .ref (u4 0), .int 0, .int 0, .int 0]))] ++ [(q1, .inl (cy 5, 4, .inr (.inr (.inr (.inr (va_up (va_up (va_up (fun _ => none) (zn 0) (some q6)) (zn 1) (some q9)) (zn 2) (some q12)))))))]) ++ [(q2, .inl (cy 3, 4, .inl (fun _ => 0)))]) ++ (wLg cy u4 (fun _ => 0) (fun _ => 0) (fun _ => 0) 0 0)) ++ [(q6, .inr (4, zSt (fun _ => 0)))]) ++ [(q9, .inr (4, zSt (fun _ => 0)))]) ++ [(q12, .inr (4, zSt (fun _ => 0)))]) ++ (fun _ => wSt cy q15 (fun _ => 0)) u) (c_X4_init l G cy st q15) (zP_right hP) (zD_right hD) (fun u => zCut_r zCut_all) ⟨hx, hb, hml, hown, hts⟩ (cwI 0 hts gX1_init_X4_init rfl rfl rfl kNX4 k28 kJX4 rfl (by decide +kernel) ⟨Nat.le_of_ble_eq_true rfl, Nat.le_of_ble_eq_true rfl⟩) hK hSE hA hP hD hS rfl hl.1 rfl (Nat.le_of_ble_eq_true rfl) dX1_init_46 ⟨Nat.le_of_ble_eq_true rfl, Nat.le_of_ble_eq_true rfl⟩ (fun u16 e17 H locs hP2 hD2 hS2 => ?_)
  have hP : va_P G vwCl ((((((([(h0, .inr (1, [.ref q1, .ref q2, .ref (u4 0), .int 0, .int 0, .int 0]))] ++ [(q1, .inl (cy 5, 4, .inr (.inr (.inr (.inr (va_up (va_up (va_up (fun _ => none) (zn 0) (some q6)) (zn 1) (some q9)) (zn 2) (some q12)))))))]) ++ [(q2, .inl (cy 3, 4, .inl (fun _ => 0)))]) ++ (wLg cy u4 (fun _ => 0) (fun _ => 0) (fun _ => 0) 0 0)) ++ [(q6, .inr (4, zSt (fun _ => 0)))]) ++ [(q9, .inr (4, zSt (fun _ => 0)))]) ++ [(q12, .inr (4, zSt (fun _ => 0)))]) ++ [(q15, .inr (4, zSt (fun _ => 0)))]) H := hP2
  have hD : va_D A ((((((([(h0, .inr (1, [.ref q1, .ref q2, .ref (u4 0), .int 0, .int 0, .int 0]))] ++ [(q1, .inl (cy 5, 4, .inr (.inr (.inr (.inr (va_up (va_up (va_up (fun _ => none) (zn 0) (some q6)) (zn 1) (some q9)) (zn 2) (some q12)))))))]) ++ [(q2, .inl (cy 3, 4, .inl (fun _ => 0)))]) ++ (wLg cy u4 (fun _ => 0) (fun _ => 0) (fun _ => 0) 0 0)) ++ [(q6, .inr (4, zSt (fun _ => 0)))]) ++ [(q9, .inr (4, zSt (fun _ => 0)))]) ++ [(q12, .inr (4, zSt (fun _ => 0)))]) ++ [(q15, .inr (4, zSt (fun _ => 0)))]) := hD2
  have hS := hS2
  refine z_astq (i := 3) (f := (va_up (va_up (va_up (fun _ => none) (zn 0) (some q6)) (zn 1) (some q9)) (zn 2) (some q12))) (n := 4) hx hb hK hP hD hS _ 5 _ 4 (zFoc_l (zFoc_l (zFoc_l (zFoc_l (zFoc_l (zFoc_l (zFoc_r (n := 1) (by simp only [List.length_append, List.length_cons, List.length_nil, wLn_len, wLg_len, wLs_len, wPo_len, wCo_len, wSe_len, wTx_len]) zFoc_1))))))) rfl (zat_r (n := 10) (by simp only [List.length_append, List.length_cons, List.length_nil, wLn_len, wLg_len, wLs_len, wPo_len, wCo_len, wSe_len, wTx_len]) (show [_][0]? = some _ from rfl)) rfl (by unfold vp_in; decide) dX1_init_49 (fun H locs hP hD hS => ?_)
  have hP : va_P G vwCl ((((((([(h0, .inr (1, [.ref q1, .ref q2, .ref (u4 0), .int 0, .int 0, .int 0]))] ++ [(q1, .inl (cy 5, 4, .inr (.inr (.inr (.inr (va_up (va_up (va_up (va_up (fun _ => none) (zn 0) (some q6)) (zn 1) (some q9)) (zn 2) (some q12)) (zn 3) (some q15)))))))]) ++ [(q2, .inl (cy 3, 4, .inl (fun _ => 0)))]) ++ (wLg cy u4 (fun _ => 0) (fun _ => 0) (fun _ => 0) 0 0)) ++ [(q6, .inr (4, zSt (fun _ => 0)))]) ++ [(q9, .inr (4, zSt (fun _ => 0)))]) ++ [(q12, .inr (4, zSt (fun _ => 0)))]) ++ [(q15, .inr (4, zSt (fun _ => 0)))]) H := hP
  have hD : va_D A ((((((([(h0, .inr (1, [.ref q1, .ref q2, .ref (u4 0), .int 0, .int 0, .int 0]))] ++ [(q1, .inl (cy 5, 4, .inr (.inr (.inr (.inr (va_up (va_up (va_up (va_up (fun _ => none) (zn 0) (some q6)) (zn 1) (some q9)) (zn 2) (some q12)) (zn 3) (some q15)))))))]) ++ [(q2, .inl (cy 3, 4, .inl (fun _ => 0)))]) ++ (wLg cy u4 (fun _ => 0) (fun _ => 0) (fun _ => 0) 0 0)) ++ [(q6, .inr (4, zSt (fun _ => 0)))]) ++ [(q9, .inr (4, zSt (fun _ => 0)))]) ++ [(q12, .inr (4, zSt (fun _ => 0)))]) ++ [(q15, .inr (4, zSt (fun _ => 0)))]) := hD
  refine lv_iinc (v := 4) (lv' := [(1, .int 4), (0, .ref h0)]) hx hb dX1_init_50 hl (k := 0) rfl (by decide) (by decide) rfl (fun ls hl => ?_)
  refine lv_goto (tgt := 32) hx hb dX1_init_53 (by decide) ?_
  refine lv_iload_n hx hb dX1_init_32 rfl (lv_at hl 0 rfl) ?_
  refine lv_iconst (v := 4) hx hb dX1_init_33 (by decide) ?_
  refine lv_icmp_ge (tgt := 56) hx hb dX1_init_34 (by decide) (fun _ => ?_) (fun h => absurd (by decide) h)
  refine W.widen (k := 10) (n := 133) (Nat.le_of_ble_eq_true rfl) (Nat.le_of_ble_eq_true rfl) ?_
  have pm : List.Perm ((((((([(h0, .inr (1, [.ref q1, .ref q2, .ref (u4 0), .int 0, .int 0, .int 0]))] ++ [(q1, .inl (cy 5, 4, .inr (.inr (.inr (.inr (va_up (va_up (va_up (va_up (fun _ => none) (zn 0) (some q6)) (zn 1) (some q9)) (zn 2) (some q12)) (zn 3) (some q15)))))))]) ++ [(q2, .inl (cy 3, 4, .inl (fun _ => 0)))]) ++ (wLg cy u4 (fun _ => 0) (fun _ => 0) (fun _ => 0) 0 0)) ++ [(q6, .inr (4, zSt (fun _ => 0)))]) ++ [(q9, .inr (4, zSt (fun _ => 0)))]) ++ [(q12, .inr (4, zSt (fun _ => 0)))]) ++ [(q15, .inr (4, zSt (fun _ => 0)))]) (([(h0, .inr (1, [.ref q1, .ref q2, .ref (u4 0), .int 0, .int 0, .int 0])), (q1, .inl (cy 5, 4, .inr (.inr (.inr (.inr (va_up (va_up (va_up (va_up (fun _ => none) (zn 0) (some q6)) (zn 1) (some q9)) (zn 2) (some q12)) (zn 3) (some q15)))))))] : va_W) ++ ([(q6, .inr (4, zSt (fun _ => 0))), (q9, .inr (4, zSt (fun _ => 0))), (q12, .inr (4, zSt (fun _ => 0))), (q15, .inr (4, zSt (fun _ => 0)))] ++ ([(q2, .inl (cy 3, 4, .inl (fun _ => 0)))] ++ wLg cy u4 (fun _ => 0) (fun _ => 0) (fun _ => 0) 0 0))) := (List.perm_append_comm (l₁ := ([(q2, .inl (cy 3, 4, .inl (fun _ => 0)))] ++ wLg cy u4 (fun _ => 0) (fun _ => 0) (fun _ => 0) 0 0)) (l₂ := [(q6, .inr (4, zSt (fun _ => 0))), (q9, .inr (4, zSt (fun _ => 0))), (q12, .inr (4, zSt (fun _ => 0))), (q15, .inr (4, zSt (fun _ => 0)))])).append_left ([(h0, .inr (1, [.ref q1, .ref q2, .ref (u4 0), .int 0, .int 0, .int 0])), (q1, .inl (cy 5, 4, .inr (.inr (.inr (.inr (va_up (va_up (va_up (va_up (fun _ => none) (zn 0) (some q6)) (zn 1) (some q9)) (zn 2) (some q12)) (zn 3) (some q15)))))))] : va_W)
  have hP1 := zP_perm pm hP
  have hD1 := zD_perm pm hD
  have hq : va_P G vwCl [(q1, .inl (cy 5, 4, .inr (.inr (.inr (.inr (fun j => some (((fun k => match k with | 0 => h0 | 1 => q1 | 2 => q6 | 3 => q9 | 4 => q12 | 5 => q15 | 6 => q2 | 7 => u4 0 | 8 => u4 1 | 9 => u4 2 | _ => u4 3) : Nat → Nat) (2 + j))))))))] H := zq_congr (fun j hj => match j, hj with | 0, _ => rfl | 1, _ => rfl | 2, _ => rfl | 3, _ => rfl | j + 4, h => absurd h (by omega)) (zP_iff.mpr fun x hx => zP_iff.mp hP1 x (by rw [List.mem_singleton.mp hx]; exact List.mem_append_left _ (List.mem_cons_of_mem _ List.mem_cons_self)))
  have hP2 : va_P G vwCl (wLn cy ((fun k => match k with | 0 => h0 | 1 => q1 | 2 => q6 | 3 => q9 | 4 => q12 | 5 => q15 | 6 => q2 | 7 => u4 0 | 8 => u4 1 | 9 => u4 2 | _ => u4 3) : Nat → Nat) (fun _ _ => 0)) H := zP_iff.mpr fun x hx => by
    have hx' : x ∈ (h0, (.inr (1, [.ref q1, .ref q2, .ref (u4 0), .int 0, .int 0, .int 0]) : va_E)) :: (q1, (.inl (cy 5, 4, .inr (.inr (.inr (.inr (fun j => some (((fun k => match k with | 0 => h0 | 1 => q1 | 2 => q6 | 3 => q9 | 4 => q12 | 5 => q15 | 6 => q2 | 7 => u4 0 | 8 => u4 1 | 9 => u4 2 | _ => u4 3) : Nat → Nat) (2 + j))))))) : va_E)) :: ([(q6, .inr (4, zSt (fun _ => 0))), (q9, .inr (4, zSt (fun _ => 0))), (q12, .inr (4, zSt (fun _ => 0))), (q15, .inr (4, zSt (fun _ => 0)))] ++ ([(q2, .inl (cy 3, 4, .inl (fun _ => 0)))] ++ wLg cy u4 (fun _ => 0) (fun _ => 0) (fun _ => 0) 0 0)) := hx
    rcases List.mem_cons.mp hx' with h | h
    · exact zP_iff.mp hP1 x (by rw [h]; exact List.mem_append_left _ List.mem_cons_self)
    · rcases List.mem_cons.mp h with h | h
      · exact zP_iff.mp hq x (by rw [h]; exact List.mem_singleton.mpr rfl)
      · exact zP_iff.mp hP1 x (List.mem_append_right _ h)
  have hD2 : va_D A (wLn cy ((fun k => match k with | 0 => h0 | 1 => q1 | 2 => q6 | 3 => q9 | 4 => q12 | 5 => q15 | 6 => q2 | 7 => u4 0 | 8 => u4 1 | 9 => u4 2 | _ => u4 3) : Nat → Nat) (fun _ _ => 0)) := zD_iff.mpr ⟨(zD_iff.mp hD1).1, fun x hx => by
    have hx' : x ∈ (h0, (.inr (1, [.ref q1, .ref q2, .ref (u4 0), .int 0, .int 0, .int 0]) : va_E)) :: (q1, (.inl (cy 5, 4, .inr (.inr (.inr (.inr (fun j => some (((fun k => match k with | 0 => h0 | 1 => q1 | 2 => q6 | 3 => q9 | 4 => q12 | 5 => q15 | 6 => q2 | 7 => u4 0 | 8 => u4 1 | 9 => u4 2 | _ => u4 3) : Nat → Nat) (2 + j))))))) : va_E)) :: ([(q6, .inr (4, zSt (fun _ => 0))), (q9, .inr (4, zSt (fun _ => 0))), (q12, .inr (4, zSt (fun _ => 0))), (q15, .inr (4, zSt (fun _ => 0)))] ++ ([(q2, .inl (cy 3, 4, .inl (fun _ => 0)))] ++ wLg cy u4 (fun _ => 0) (fun _ => 0) (fun _ => 0) 0 0)) := hx
    rcases List.mem_cons.mp hx' with h | h
    · rw [h]; exact (zD_iff.mp hD1).2 _ (List.mem_append_left _ List.mem_cons_self)
    · rcases List.mem_cons.mp h with h | h
      · rw [h]; exact (zD_iff.mp hD1).2 (q1, .inl (cy 5, 4, .inr (.inr (.inr (.inr (va_up (va_up (va_up (va_up (fun _ => none) (zn 0) (some q6)) (zn 1) (some q9)) (zn 2) (some q12)) (zn 3) (some q15))))))) (List.mem_append_left _ (List.mem_cons_of_mem _ List.mem_cons_self))
      · exact (zD_iff.mp hD1).2 x (List.mem_append_right _ h)⟩
  exact z_vretc (u := ((fun k => match k with | 0 => h0 | 1 => q1 | 2 => q6 | 3 => q9 | 4 => q12 | 5 => q15 | 6 => q2 | 7 => u4 0 | 8 => u4 1 | 9 => u4 2 | _ => u4 3) : Nat → Nat)) rfl hx hb hr hlocks hK hP2 hD2 hS dX1_init_56
set_option maxHeartbeats 4000000 in
set_option maxRecDepth 100000 in
theorem c_X2_init (l : Launch) (G : va_G) (cy : Nat → ClassId) (st : Nat → Nat) (h0 : Nat) : zMc (τ := ((Nat → Nat) × (Nat → Nat → Nat))) l yX2_init wsX2_init (zRc 3 67 840) G cy st [.ref h0] [(h0, .inr (2, [.null, .int 0, .int 0]))] (fun u => u.1 0 = h0) (fun u => wPo cy u.1 u.2 0 0 ++ wLs cy u.2 (fun _ _ _ => 0)) 67 840 := by
  refine zMc_of (cc := cX2_init) (maxL := 2) (by decide) rfl rfl (Nat.le_of_ble_eq_true rfl) ?_
  intro p e s m below meth c A ls hx hb hml hr hlocks hown hts hinm hK hSE hA hP hD hS hl
  have hown : s.vm.findClass RX2 = some m.cls := hown
  have hl : lv_has ls 2 [(0, .ref h0)] := hl
  have k3 := hts (.methodLink RX2 3 objectInit) (by decide +kernel)
  have kOi := hts (.instanceMethod objectInit) (by decide +kernel)
  have kOc := hts (.code objectInit ⟨#[0xb1]⟩ 1 none) (by decide +kernel)
  have kC9 := hts (.classLink RX2 9 RX1) (by decide +kernel)
  have iX2 : ∀ w ∈ wsX20, w ∈ wsX2_init := fun w h => List.mem_cons_of_mem _ (List.mem_append_left _ (List.mem_append_left _ (List.mem_append_left _ (List.mem_append_right _ h))))
  have k11 := hts (.fieldLink RX2 11 "TapCascade$Past" "kept" "[LTapCascade$Line;") (by decide +kernel)
  have kIX1 := hts (.instantiable RX1 6) (by decide +kernel)
  have kNX1 := hts (.initialized RX1) (by decide +kernel)
  have iX1 : ∀ w ∈ wsX10, w ∈ wsX2_init := fun w h => List.mem_cons_of_mem _ (List.mem_append_left _ (List.mem_append_left _ (List.mem_append_right _ h)))
  have k17 := hts (.methodLink RX2 17 yX1_init) (by decide +kernel)
  have kJX1 := hts (.instanceMethod yX1_init) (by decide +kernel)
  refine lv_aload_n hx hb dX2_init_0 rfl (lv_at hl 0 rfl) ?_
  refine W.objInit hx hb hown k3 kOi kOc rfl (by rw [hml]; exact hl.1) rfl dX2_init_1 (Nat.le_of_ble_eq_true rfl) (Nat.le_of_ble_eq_true rfl) ?_
  refine W.eq (g2 := F0 m 4 ls []) rfl ?_
  refine lv_aload_n hx hb dX2_init_4 rfl (lv_at hl 0 rfl) ?_
  refine lv_bipush (v := 6) hx hb dX2_init_5 (by decide) ?_
  refine z_newq (C := RX1) (N' := 6) hx hb hown kC9 hSE.2.2.2.2.2.2.2 hK hP hD hS hA 4 rfl (by decide) (by decide) (Nat.le_of_ble_eq_true rfl) (Nat.le_of_ble_eq_true rfl) (Nat.le_of_ble_eq_true rfl) dX2_init_7 (fun q1 H hP hD hS => ?_)
  refine z_putF (ci := 2) (v := .ref q1) (fs := [.null, .int 0, .int 0]) (C := RX2) (T := TX2) (N := 3) (ty := (tyX2 0)) hx hb hts iX2 tyX2 tyX2_ok nmX2 hown hK hP hD hS _ 0 (zFoc_l zFoc_1) rfl (by decide) k11 (fun _ h9 => h9) rfl hinm rfl (by decide +kernel) rfl rfl (Nat.le_of_ble_eq_true rfl) dX2_init_10 (fun H locs hP hD hS => ?_)
  have hP : va_P G vwCl ([(h0, .inr (2, [.ref q1, .int 0, .int 0]))] ++ [(q1, .inl (cy 4, 6, .inr (.inr (.inr (.inr (fun _ => none))))))]) H := hP
  have hD : va_D A ([(h0, .inr (2, [.ref q1, .int 0, .int 0]))] ++ [(q1, .inl (cy 4, 6, .inr (.inr (.inr (.inr (fun _ => none))))))]) := hD
  refine lv_iconst (v := 0) hx hb dX2_init_13 (by decide) ?_
  refine lv_istore_n (lv' := [(1, .int 0), (0, .ref h0)]) hx hb dX2_init_14 rfl hl (by decide) rfl (fun ls hl => ?_)
  refine lv_iload_n hx hb dX2_init_15 rfl (lv_at hl 0 rfl) ?_
  refine lv_bipush (v := 6) hx hb dX2_init_16 (by decide) ?_
  refine lv_icmp_ge (tgt := 40) hx hb dX2_init_18 (by decide) (fun h => absurd h (by decide)) (fun _ => ?_)
  refine lv_aload_n hx hb dX2_init_21 rfl (lv_at hl 1 rfl) ?_
  refine va_get (ci := 2) (C := RX2) (T := TX2) (N := 3) (fs := [.ref q1, .int 0, .int 0]) (v := .ref q1) hx hb hts iX2 hown hK hP _ (zat_l (show [_][0]? = some _ from rfl)) rfl 0 (by decide) k11 (fun _ h9 => h9) rfl dX2_init_22 ?_
  refine lv_iload_n hx hb dX2_init_25 rfl (lv_at hl 0 rfl) ?_
  refine va_new (ci := 1) (fs := [.null, .null, .null, .int 0, .int 0, .int 0]) (C := RX1) (T := TX1) (N := 6) hx hb hts iX1 tyX1 tyX1_ok hown kC9 kIX1 kNX1 hK hP hD hS hA rfl (fun j hj => match j, hj with | 0, _ => rfl | 1, _ => rfl | 2, _ => rfl | 3, _ => rfl | 4, _ => rfl | 5, _ => rfl | j + 6, h => absurd h (by omega)) (Nat.le_of_ble_eq_true rfl) (Nat.le_of_ble_eq_true rfl) dX2_init_26 (fun q2 H hP hD hS => ?_)
  refine lv_dup hx hb dX2_init_29 rfl ?_
  refine z_cI (τ := (Nat → Nat)) (b := q2) (As := []) (rest := [.ref q2, .int 0, .ref q1]) (wc := [(q2, .inr (1, [.null, .null, .null, .int 0, .int 0, .int 0]))]) (wf := fun u => ([(h0, .inr (2, [.ref q1, .int 0, .int 0]))] ++ [(q1, .inl (cy 4, 6, .inr (.inr (.inr (.inr (fun _ => none))))))]) ++ (fun u => wLn cy u (fun _ _ => 0)) u) (c_X1_init l G cy st q2) (zP_right hP) (zD_right hD) (fun u => zCut_r zCut_all) ⟨hx, hb, hml, hown, hts⟩ (cwI 0 hts gX2_init_X1_init rfl rfl rfl kNX1 k17 kJX1 rfl (by decide +kernel) ⟨Nat.le_of_ble_eq_true rfl, Nat.le_of_ble_eq_true rfl⟩) hK hSE hA hP hD hS rfl hl.1 rfl (Nat.le_of_ble_eq_true rfl) dX2_init_30 ⟨Nat.le_of_ble_eq_true rfl, Nat.le_of_ble_eq_true rfl⟩ (fun u3 e4 H locs hP2 hD2 hS2 => ?_)
  have e4 : u3 0 = q2 := e4
  subst e4
  have hP : va_P G vwCl (([(h0, .inr (2, [.ref q1, .int 0, .int 0]))] ++ [(q1, .inl (cy 4, 6, .inr (.inr (.inr (.inr (fun _ => none))))))]) ++ (wLn cy u3 (fun _ _ => 0))) H := hP2
  have hD : va_D A (([(h0, .inr (2, [.ref q1, .int 0, .int 0]))] ++ [(q1, .inl (cy 4, 6, .inr (.inr (.inr (.inr (fun _ => none))))))]) ++ (wLn cy u3 (fun _ _ => 0))) := hD2
  have hS := hS2
  refine z_astq (i := 0) (f := (fun _ => none)) (n := 6) hx hb hK hP hD hS _ 4 _ 1 (zFoc_l (zFoc_r (n := 1) (by simp only [List.length_append, List.length_cons, List.length_nil, wLn_len, wLg_len, wLs_len, wPo_len, wCo_len, wSe_len, wTx_len]) zFoc_1)) rfl (zat_r (n := 2) (by simp only [List.length_append, List.length_cons, List.length_nil, wLn_len, wLg_len, wLs_len, wPo_len, wCo_len, wSe_len, wTx_len]) (wLn_at0 cy u3 (fun _ _ => 0))) rfl (by unfold vp_in; decide) dX2_init_33 (fun H locs hP hD hS => ?_)
  have hP : va_P G vwCl (([(h0, .inr (2, [.ref q1, .int 0, .int 0]))] ++ [(q1, .inl (cy 4, 6, .inr (.inr (.inr (.inr (va_up (fun _ => none) (zn 0) (some (u3 0))))))))]) ++ (wLn cy u3 (fun _ _ => 0))) H := hP
  have hD : va_D A (([(h0, .inr (2, [.ref q1, .int 0, .int 0]))] ++ [(q1, .inl (cy 4, 6, .inr (.inr (.inr (.inr (va_up (fun _ => none) (zn 0) (some (u3 0))))))))]) ++ (wLn cy u3 (fun _ _ => 0))) := hD
  refine lv_iinc (v := 1) (lv' := [(1, .int 1), (0, .ref h0)]) hx hb dX2_init_34 hl (k := 0) rfl (by decide) (by decide) rfl (fun ls hl => ?_)
  refine lv_goto (tgt := 15) hx hb dX2_init_37 (by decide) ?_
  refine lv_iload_n hx hb dX2_init_15 rfl (lv_at hl 0 rfl) ?_
  refine lv_bipush (v := 6) hx hb dX2_init_16 (by decide) ?_
  refine lv_icmp_ge (tgt := 40) hx hb dX2_init_18 (by decide) (fun h => absurd h (by decide)) (fun _ => ?_)
  refine lv_aload_n hx hb dX2_init_21 rfl (lv_at hl 1 rfl) ?_
  refine va_get (ci := 2) (C := RX2) (T := TX2) (N := 3) (fs := [.ref q1, .int 0, .int 0]) (v := .ref q1) hx hb hts iX2 hown hK hP _ (zat_l (zat_l (show [_][0]? = some _ from rfl))) rfl 0 (by decide) k11 (fun _ h9 => h9) rfl dX2_init_22 ?_
  refine lv_iload_n hx hb dX2_init_25 rfl (lv_at hl 0 rfl) ?_
  refine va_new (ci := 1) (fs := [.null, .null, .null, .int 0, .int 0, .int 0]) (C := RX1) (T := TX1) (N := 6) hx hb hts iX1 tyX1 tyX1_ok hown kC9 kIX1 kNX1 hK hP hD hS hA rfl (fun j hj => match j, hj with | 0, _ => rfl | 1, _ => rfl | 2, _ => rfl | 3, _ => rfl | 4, _ => rfl | 5, _ => rfl | j + 6, h => absurd h (by omega)) (Nat.le_of_ble_eq_true rfl) (Nat.le_of_ble_eq_true rfl) dX2_init_26 (fun q5 H hP hD hS => ?_)
  refine lv_dup hx hb dX2_init_29 rfl ?_
  refine z_cI (τ := (Nat → Nat)) (b := q5) (As := []) (rest := [.ref q5, .int 1, .ref q1]) (wc := [(q5, .inr (1, [.null, .null, .null, .int 0, .int 0, .int 0]))]) (wf := fun u => (([(h0, .inr (2, [.ref q1, .int 0, .int 0]))] ++ [(q1, .inl (cy 4, 6, .inr (.inr (.inr (.inr (va_up (fun _ => none) (zn 0) (some (u3 0))))))))]) ++ (wLn cy u3 (fun _ _ => 0))) ++ (fun u => wLn cy u (fun _ _ => 0)) u) (c_X1_init l G cy st q5) (zP_right hP) (zD_right hD) (fun u => zCut_r zCut_all) ⟨hx, hb, hml, hown, hts⟩ (cwI 0 hts gX2_init_X1_init rfl rfl rfl kNX1 k17 kJX1 rfl (by decide +kernel) ⟨Nat.le_of_ble_eq_true rfl, Nat.le_of_ble_eq_true rfl⟩) hK hSE hA hP hD hS rfl hl.1 rfl (Nat.le_of_ble_eq_true rfl) dX2_init_30 ⟨Nat.le_of_ble_eq_true rfl, Nat.le_of_ble_eq_true rfl⟩ (fun u6 e7 H locs hP2 hD2 hS2 => ?_)
  have e7 : u6 0 = q5 := e7
  subst e7
  have hP : va_P G vwCl ((([(h0, .inr (2, [.ref q1, .int 0, .int 0]))] ++ [(q1, .inl (cy 4, 6, .inr (.inr (.inr (.inr (va_up (fun _ => none) (zn 0) (some (u3 0))))))))]) ++ (wLn cy u3 (fun _ _ => 0))) ++ (wLn cy u6 (fun _ _ => 0))) H := hP2
  have hD : va_D A ((([(h0, .inr (2, [.ref q1, .int 0, .int 0]))] ++ [(q1, .inl (cy 4, 6, .inr (.inr (.inr (.inr (va_up (fun _ => none) (zn 0) (some (u3 0))))))))]) ++ (wLn cy u3 (fun _ _ => 0))) ++ (wLn cy u6 (fun _ _ => 0))) := hD2
  have hS := hS2
  refine z_astq (i := 1) (f := (va_up (fun _ => none) (zn 0) (some (u3 0)))) (n := 6) hx hb hK hP hD hS _ 4 _ 1 (zFoc_l (zFoc_l (zFoc_r (n := 1) (by simp only [List.length_append, List.length_cons, List.length_nil, wLn_len, wLg_len, wLs_len, wPo_len, wCo_len, wSe_len, wTx_len]) zFoc_1))) rfl (zat_r (n := 13) (by simp only [List.length_append, List.length_cons, List.length_nil, wLn_len, wLg_len, wLs_len, wPo_len, wCo_len, wSe_len, wTx_len]) (wLn_at0 cy u6 (fun _ _ => 0))) rfl (by unfold vp_in; decide) dX2_init_33 (fun H locs hP hD hS => ?_)
  have hP : va_P G vwCl ((([(h0, .inr (2, [.ref q1, .int 0, .int 0]))] ++ [(q1, .inl (cy 4, 6, .inr (.inr (.inr (.inr (va_up (va_up (fun _ => none) (zn 0) (some (u3 0))) (zn 1) (some (u6 0))))))))]) ++ (wLn cy u3 (fun _ _ => 0))) ++ (wLn cy u6 (fun _ _ => 0))) H := hP
  have hD : va_D A ((([(h0, .inr (2, [.ref q1, .int 0, .int 0]))] ++ [(q1, .inl (cy 4, 6, .inr (.inr (.inr (.inr (va_up (va_up (fun _ => none) (zn 0) (some (u3 0))) (zn 1) (some (u6 0))))))))]) ++ (wLn cy u3 (fun _ _ => 0))) ++ (wLn cy u6 (fun _ _ => 0))) := hD
  refine lv_iinc (v := 2) (lv' := [(1, .int 2), (0, .ref h0)]) hx hb dX2_init_34 hl (k := 0) rfl (by decide) (by decide) rfl (fun ls hl => ?_)
  refine lv_goto (tgt := 15) hx hb dX2_init_37 (by decide) ?_
  refine lv_iload_n hx hb dX2_init_15 rfl (lv_at hl 0 rfl) ?_
  refine lv_bipush (v := 6) hx hb dX2_init_16 (by decide) ?_
  refine lv_icmp_ge (tgt := 40) hx hb dX2_init_18 (by decide) (fun h => absurd h (by decide)) (fun _ => ?_)
  refine lv_aload_n hx hb dX2_init_21 rfl (lv_at hl 1 rfl) ?_
  refine va_get (ci := 2) (C := RX2) (T := TX2) (N := 3) (fs := [.ref q1, .int 0, .int 0]) (v := .ref q1) hx hb hts iX2 hown hK hP _ (zat_l (zat_l (zat_l (show [_][0]? = some _ from rfl)))) rfl 0 (by decide) k11 (fun _ h9 => h9) rfl dX2_init_22 ?_
  refine lv_iload_n hx hb dX2_init_25 rfl (lv_at hl 0 rfl) ?_
  refine va_new (ci := 1) (fs := [.null, .null, .null, .int 0, .int 0, .int 0]) (C := RX1) (T := TX1) (N := 6) hx hb hts iX1 tyX1 tyX1_ok hown kC9 kIX1 kNX1 hK hP hD hS hA rfl (fun j hj => match j, hj with | 0, _ => rfl | 1, _ => rfl | 2, _ => rfl | 3, _ => rfl | 4, _ => rfl | 5, _ => rfl | j + 6, h => absurd h (by omega)) (Nat.le_of_ble_eq_true rfl) (Nat.le_of_ble_eq_true rfl) dX2_init_26 (fun q8 H hP hD hS => ?_)
  refine lv_dup hx hb dX2_init_29 rfl ?_
  refine z_cI (τ := (Nat → Nat)) (b := q8) (As := []) (rest := [.ref q8, .int 2, .ref q1]) (wc := [(q8, .inr (1, [.null, .null, .null, .int 0, .int 0, .int 0]))]) (wf := fun u => ((([(h0, .inr (2, [.ref q1, .int 0, .int 0]))] ++ [(q1, .inl (cy 4, 6, .inr (.inr (.inr (.inr (va_up (va_up (fun _ => none) (zn 0) (some (u3 0))) (zn 1) (some (u6 0))))))))]) ++ (wLn cy u3 (fun _ _ => 0))) ++ (wLn cy u6 (fun _ _ => 0))) ++ (fun u => wLn cy u (fun _ _ => 0)) u) (c_X1_init l G cy st q8) (zP_right hP) (zD_right hD) (fun u => zCut_r zCut_all) ⟨hx, hb, hml, hown, hts⟩ (cwI 0 hts gX2_init_X1_init rfl rfl rfl kNX1 k17 kJX1 rfl (by decide +kernel) ⟨Nat.le_of_ble_eq_true rfl, Nat.le_of_ble_eq_true rfl⟩) hK hSE hA hP hD hS rfl hl.1 rfl (Nat.le_of_ble_eq_true rfl) dX2_init_30 ⟨Nat.le_of_ble_eq_true rfl, Nat.le_of_ble_eq_true rfl⟩ (fun u9 e10 H locs hP2 hD2 hS2 => ?_)
  have e10 : u9 0 = q8 := e10
  subst e10
  have hP : va_P G vwCl (((([(h0, .inr (2, [.ref q1, .int 0, .int 0]))] ++ [(q1, .inl (cy 4, 6, .inr (.inr (.inr (.inr (va_up (va_up (fun _ => none) (zn 0) (some (u3 0))) (zn 1) (some (u6 0))))))))]) ++ (wLn cy u3 (fun _ _ => 0))) ++ (wLn cy u6 (fun _ _ => 0))) ++ (wLn cy u9 (fun _ _ => 0))) H := hP2
  have hD : va_D A (((([(h0, .inr (2, [.ref q1, .int 0, .int 0]))] ++ [(q1, .inl (cy 4, 6, .inr (.inr (.inr (.inr (va_up (va_up (fun _ => none) (zn 0) (some (u3 0))) (zn 1) (some (u6 0))))))))]) ++ (wLn cy u3 (fun _ _ => 0))) ++ (wLn cy u6 (fun _ _ => 0))) ++ (wLn cy u9 (fun _ _ => 0))) := hD2
  have hS := hS2
  refine z_astq (i := 2) (f := (va_up (va_up (fun _ => none) (zn 0) (some (u3 0))) (zn 1) (some (u6 0)))) (n := 6) hx hb hK hP hD hS _ 4 _ 1 (zFoc_l (zFoc_l (zFoc_l (zFoc_r (n := 1) (by simp only [List.length_append, List.length_cons, List.length_nil, wLn_len, wLg_len, wLs_len, wPo_len, wCo_len, wSe_len, wTx_len]) zFoc_1)))) rfl (zat_r (n := 24) (by simp only [List.length_append, List.length_cons, List.length_nil, wLn_len, wLg_len, wLs_len, wPo_len, wCo_len, wSe_len, wTx_len]) (wLn_at0 cy u9 (fun _ _ => 0))) rfl (by unfold vp_in; decide) dX2_init_33 (fun H locs hP hD hS => ?_)
  have hP : va_P G vwCl (((([(h0, .inr (2, [.ref q1, .int 0, .int 0]))] ++ [(q1, .inl (cy 4, 6, .inr (.inr (.inr (.inr (va_up (va_up (va_up (fun _ => none) (zn 0) (some (u3 0))) (zn 1) (some (u6 0))) (zn 2) (some (u9 0))))))))]) ++ (wLn cy u3 (fun _ _ => 0))) ++ (wLn cy u6 (fun _ _ => 0))) ++ (wLn cy u9 (fun _ _ => 0))) H := hP
  have hD : va_D A (((([(h0, .inr (2, [.ref q1, .int 0, .int 0]))] ++ [(q1, .inl (cy 4, 6, .inr (.inr (.inr (.inr (va_up (va_up (va_up (fun _ => none) (zn 0) (some (u3 0))) (zn 1) (some (u6 0))) (zn 2) (some (u9 0))))))))]) ++ (wLn cy u3 (fun _ _ => 0))) ++ (wLn cy u6 (fun _ _ => 0))) ++ (wLn cy u9 (fun _ _ => 0))) := hD
  refine lv_iinc (v := 3) (lv' := [(1, .int 3), (0, .ref h0)]) hx hb dX2_init_34 hl (k := 0) rfl (by decide) (by decide) rfl (fun ls hl => ?_)
  refine lv_goto (tgt := 15) hx hb dX2_init_37 (by decide) ?_
  refine lv_iload_n hx hb dX2_init_15 rfl (lv_at hl 0 rfl) ?_
  refine lv_bipush (v := 6) hx hb dX2_init_16 (by decide) ?_
  refine lv_icmp_ge (tgt := 40) hx hb dX2_init_18 (by decide) (fun h => absurd h (by decide)) (fun _ => ?_)
  refine lv_aload_n hx hb dX2_init_21 rfl (lv_at hl 1 rfl) ?_
  refine va_get (ci := 2) (C := RX2) (T := TX2) (N := 3) (fs := [.ref q1, .int 0, .int 0]) (v := .ref q1) hx hb hts iX2 hown hK hP _ (zat_l (zat_l (zat_l (zat_l (show [_][0]? = some _ from rfl))))) rfl 0 (by decide) k11 (fun _ h9 => h9) rfl dX2_init_22 ?_
  refine lv_iload_n hx hb dX2_init_25 rfl (lv_at hl 0 rfl) ?_
  refine va_new (ci := 1) (fs := [.null, .null, .null, .int 0, .int 0, .int 0]) (C := RX1) (T := TX1) (N := 6) hx hb hts iX1 tyX1 tyX1_ok hown kC9 kIX1 kNX1 hK hP hD hS hA rfl (fun j hj => match j, hj with | 0, _ => rfl | 1, _ => rfl | 2, _ => rfl | 3, _ => rfl | 4, _ => rfl | 5, _ => rfl | j + 6, h => absurd h (by omega)) (Nat.le_of_ble_eq_true rfl) (Nat.le_of_ble_eq_true rfl) dX2_init_26 (fun q11 H hP hD hS => ?_)
  refine lv_dup hx hb dX2_init_29 rfl ?_
  refine z_cI (τ := (Nat → Nat)) (b := q11) (As := []) (rest := [.ref q11, .int 3, .ref q1]) (wc := [(q11, .inr (1, [.null, .null, .null, .int 0, .int 0, .int 0]))]) (wf := fun u => (((([(h0, .inr (2, [.ref q1, .int 0, .int 0]))] ++ [(q1, .inl (cy 4, 6, .inr (.inr (.inr (.inr (va_up (va_up (va_up (fun _ => none) (zn 0) (some (u3 0))) (zn 1) (some (u6 0))) (zn 2) (some (u9 0))))))))]) ++ (wLn cy u3 (fun _ _ => 0))) ++ (wLn cy u6 (fun _ _ => 0))) ++ (wLn cy u9 (fun _ _ => 0))) ++ (fun u => wLn cy u (fun _ _ => 0)) u) (c_X1_init l G cy st q11) (zP_right hP) (zD_right hD) (fun u => zCut_r zCut_all) ⟨hx, hb, hml, hown, hts⟩ (cwI 0 hts gX2_init_X1_init rfl rfl rfl kNX1 k17 kJX1 rfl (by decide +kernel) ⟨Nat.le_of_ble_eq_true rfl, Nat.le_of_ble_eq_true rfl⟩) hK hSE hA hP hD hS rfl hl.1 rfl (Nat.le_of_ble_eq_true rfl) dX2_init_30 ⟨Nat.le_of_ble_eq_true rfl, Nat.le_of_ble_eq_true rfl⟩ (fun u12 e13 H locs hP2 hD2 hS2 => ?_)
  have e13 : u12 0 = q11 := e13
  subst e13
  have hP : va_P G vwCl ((((([(h0, .inr (2, [.ref q1, .int 0, .int 0]))] ++ [(q1, .inl (cy 4, 6, .inr (.inr (.inr (.inr (va_up (va_up (va_up (fun _ => none) (zn 0) (some (u3 0))) (zn 1) (some (u6 0))) (zn 2) (some (u9 0))))))))]) ++ (wLn cy u3 (fun _ _ => 0))) ++ (wLn cy u6 (fun _ _ => 0))) ++ (wLn cy u9 (fun _ _ => 0))) ++ (wLn cy u12 (fun _ _ => 0))) H := hP2
  have hD : va_D A ((((([(h0, .inr (2, [.ref q1, .int 0, .int 0]))] ++ [(q1, .inl (cy 4, 6, .inr (.inr (.inr (.inr (va_up (va_up (va_up (fun _ => none) (zn 0) (some (u3 0))) (zn 1) (some (u6 0))) (zn 2) (some (u9 0))))))))]) ++ (wLn cy u3 (fun _ _ => 0))) ++ (wLn cy u6 (fun _ _ => 0))) ++ (wLn cy u9 (fun _ _ => 0))) ++ (wLn cy u12 (fun _ _ => 0))) := hD2
  have hS := hS2
  refine z_astq (i := 3) (f := (va_up (va_up (va_up (fun _ => none) (zn 0) (some (u3 0))) (zn 1) (some (u6 0))) (zn 2) (some (u9 0)))) (n := 6) hx hb hK hP hD hS _ 4 _ 1 (zFoc_l (zFoc_l (zFoc_l (zFoc_l (zFoc_r (n := 1) (by simp only [List.length_append, List.length_cons, List.length_nil, wLn_len, wLg_len, wLs_len, wPo_len, wCo_len, wSe_len, wTx_len]) zFoc_1))))) rfl (zat_r (n := 35) (by simp only [List.length_append, List.length_cons, List.length_nil, wLn_len, wLg_len, wLs_len, wPo_len, wCo_len, wSe_len, wTx_len]) (wLn_at0 cy u12 (fun _ _ => 0))) rfl (by unfold vp_in; decide) dX2_init_33 (fun H locs hP hD hS => ?_)
  have hP : va_P G vwCl ((((([(h0, .inr (2, [.ref q1, .int 0, .int 0]))] ++ [(q1, .inl (cy 4, 6, .inr (.inr (.inr (.inr (va_up (va_up (va_up (va_up (fun _ => none) (zn 0) (some (u3 0))) (zn 1) (some (u6 0))) (zn 2) (some (u9 0))) (zn 3) (some (u12 0))))))))]) ++ (wLn cy u3 (fun _ _ => 0))) ++ (wLn cy u6 (fun _ _ => 0))) ++ (wLn cy u9 (fun _ _ => 0))) ++ (wLn cy u12 (fun _ _ => 0))) H := hP
  have hD : va_D A ((((([(h0, .inr (2, [.ref q1, .int 0, .int 0]))] ++ [(q1, .inl (cy 4, 6, .inr (.inr (.inr (.inr (va_up (va_up (va_up (va_up (fun _ => none) (zn 0) (some (u3 0))) (zn 1) (some (u6 0))) (zn 2) (some (u9 0))) (zn 3) (some (u12 0))))))))]) ++ (wLn cy u3 (fun _ _ => 0))) ++ (wLn cy u6 (fun _ _ => 0))) ++ (wLn cy u9 (fun _ _ => 0))) ++ (wLn cy u12 (fun _ _ => 0))) := hD
  refine lv_iinc (v := 4) (lv' := [(1, .int 4), (0, .ref h0)]) hx hb dX2_init_34 hl (k := 0) rfl (by decide) (by decide) rfl (fun ls hl => ?_)
  refine lv_goto (tgt := 15) hx hb dX2_init_37 (by decide) ?_
  refine lv_iload_n hx hb dX2_init_15 rfl (lv_at hl 0 rfl) ?_
  refine lv_bipush (v := 6) hx hb dX2_init_16 (by decide) ?_
  refine lv_icmp_ge (tgt := 40) hx hb dX2_init_18 (by decide) (fun h => absurd h (by decide)) (fun _ => ?_)
  refine lv_aload_n hx hb dX2_init_21 rfl (lv_at hl 1 rfl) ?_
  refine va_get (ci := 2) (C := RX2) (T := TX2) (N := 3) (fs := [.ref q1, .int 0, .int 0]) (v := .ref q1) hx hb hts iX2 hown hK hP _ (zat_l (zat_l (zat_l (zat_l (zat_l (show [_][0]? = some _ from rfl)))))) rfl 0 (by decide) k11 (fun _ h9 => h9) rfl dX2_init_22 ?_
  refine lv_iload_n hx hb dX2_init_25 rfl (lv_at hl 0 rfl) ?_
  refine va_new (ci := 1) (fs := [.null, .null, .null, .int 0, .int 0, .int 0]) (C := RX1) (T := TX1) (N := 6) hx hb hts iX1 tyX1 tyX1_ok hown kC9 kIX1 kNX1 hK hP hD hS hA rfl (fun j hj => match j, hj with | 0, _ => rfl | 1, _ => rfl | 2, _ => rfl | 3, _ => rfl | 4, _ => rfl | 5, _ => rfl | j + 6, h => absurd h (by omega)) (Nat.le_of_ble_eq_true rfl) (Nat.le_of_ble_eq_true rfl) dX2_init_26 (fun q14 H hP hD hS => ?_)
  refine lv_dup hx hb dX2_init_29 rfl ?_
  refine z_cI (τ := (Nat → Nat)) (b := q14) (As := []) (rest := [.ref q14, .int 4, .ref q1]) (wc := [(q14, .inr (1, [.null, .null, .null, .int 0, .int 0, .int 0]))]) (wf := fun u => ((((([(h0, .inr (2, [.ref q1, .int 0, .int 0]))] ++ [(q1, .inl (cy 4, 6, .inr (.inr (.inr (.inr (va_up (va_up (va_up (va_up (fun _ => none) (zn 0) (some (u3 0))) (zn 1) (some (u6 0))) (zn 2) (some (u9 0))) (zn 3) (some (u12 0))))))))]) ++ (wLn cy u3 (fun _ _ => 0))) ++ (wLn cy u6 (fun _ _ => 0))) ++ (wLn cy u9 (fun _ _ => 0))) ++ (wLn cy u12 (fun _ _ => 0))) ++ (fun u => wLn cy u (fun _ _ => 0)) u) (c_X1_init l G cy st q14) (zP_right hP) (zD_right hD) (fun u => zCut_r zCut_all) ⟨hx, hb, hml, hown, hts⟩ (cwI 0 hts gX2_init_X1_init rfl rfl rfl kNX1 k17 kJX1 rfl (by decide +kernel) ⟨Nat.le_of_ble_eq_true rfl, Nat.le_of_ble_eq_true rfl⟩) hK hSE hA hP hD hS rfl hl.1 rfl (Nat.le_of_ble_eq_true rfl) dX2_init_30 ⟨Nat.le_of_ble_eq_true rfl, Nat.le_of_ble_eq_true rfl⟩ (fun u15 e16 H locs hP2 hD2 hS2 => ?_)
  have e16 : u15 0 = q14 := e16
  subst e16
  have hP : va_P G vwCl (((((([(h0, .inr (2, [.ref q1, .int 0, .int 0]))] ++ [(q1, .inl (cy 4, 6, .inr (.inr (.inr (.inr (va_up (va_up (va_up (va_up (fun _ => none) (zn 0) (some (u3 0))) (zn 1) (some (u6 0))) (zn 2) (some (u9 0))) (zn 3) (some (u12 0))))))))]) ++ (wLn cy u3 (fun _ _ => 0))) ++ (wLn cy u6 (fun _ _ => 0))) ++ (wLn cy u9 (fun _ _ => 0))) ++ (wLn cy u12 (fun _ _ => 0))) ++ (wLn cy u15 (fun _ _ => 0))) H := hP2
  have hD : va_D A (((((([(h0, .inr (2, [.ref q1, .int 0, .int 0]))] ++ [(q1, .inl (cy 4, 6, .inr (.inr (.inr (.inr (va_up (va_up (va_up (va_up (fun _ => none) (zn 0) (some (u3 0))) (zn 1) (some (u6 0))) (zn 2) (some (u9 0))) (zn 3) (some (u12 0))))))))]) ++ (wLn cy u3 (fun _ _ => 0))) ++ (wLn cy u6 (fun _ _ => 0))) ++ (wLn cy u9 (fun _ _ => 0))) ++ (wLn cy u12 (fun _ _ => 0))) ++ (wLn cy u15 (fun _ _ => 0))) := hD2
  have hS := hS2
  refine z_astq (i := 4) (f := (va_up (va_up (va_up (va_up (fun _ => none) (zn 0) (some (u3 0))) (zn 1) (some (u6 0))) (zn 2) (some (u9 0))) (zn 3) (some (u12 0)))) (n := 6) hx hb hK hP hD hS _ 4 _ 1 (zFoc_l (zFoc_l (zFoc_l (zFoc_l (zFoc_l (zFoc_r (n := 1) (by simp only [List.length_append, List.length_cons, List.length_nil, wLn_len, wLg_len, wLs_len, wPo_len, wCo_len, wSe_len, wTx_len]) zFoc_1)))))) rfl (zat_r (n := 46) (by simp only [List.length_append, List.length_cons, List.length_nil, wLn_len, wLg_len, wLs_len, wPo_len, wCo_len, wSe_len, wTx_len]) (wLn_at0 cy u15 (fun _ _ => 0))) rfl (by unfold vp_in; decide) dX2_init_33 (fun H locs hP hD hS => ?_)
  have hP : va_P G vwCl (((((([(h0, .inr (2, [.ref q1, .int 0, .int 0]))] ++ [(q1, .inl (cy 4, 6, .inr (.inr (.inr (.inr (va_up (va_up (va_up (va_up (va_up (fun _ => none) (zn 0) (some (u3 0))) (zn 1) (some (u6 0))) (zn 2) (some (u9 0))) (zn 3) (some (u12 0))) (zn 4) (some (u15 0))))))))]) ++ (wLn cy u3 (fun _ _ => 0))) ++ (wLn cy u6 (fun _ _ => 0))) ++ (wLn cy u9 (fun _ _ => 0))) ++ (wLn cy u12 (fun _ _ => 0))) ++ (wLn cy u15 (fun _ _ => 0))) H := hP
  have hD : va_D A (((((([(h0, .inr (2, [.ref q1, .int 0, .int 0]))] ++ [(q1, .inl (cy 4, 6, .inr (.inr (.inr (.inr (va_up (va_up (va_up (va_up (va_up (fun _ => none) (zn 0) (some (u3 0))) (zn 1) (some (u6 0))) (zn 2) (some (u9 0))) (zn 3) (some (u12 0))) (zn 4) (some (u15 0))))))))]) ++ (wLn cy u3 (fun _ _ => 0))) ++ (wLn cy u6 (fun _ _ => 0))) ++ (wLn cy u9 (fun _ _ => 0))) ++ (wLn cy u12 (fun _ _ => 0))) ++ (wLn cy u15 (fun _ _ => 0))) := hD
  refine lv_iinc (v := 5) (lv' := [(1, .int 5), (0, .ref h0)]) hx hb dX2_init_34 hl (k := 0) rfl (by decide) (by decide) rfl (fun ls hl => ?_)
  refine lv_goto (tgt := 15) hx hb dX2_init_37 (by decide) ?_
  refine lv_iload_n hx hb dX2_init_15 rfl (lv_at hl 0 rfl) ?_
  refine lv_bipush (v := 6) hx hb dX2_init_16 (by decide) ?_
  refine lv_icmp_ge (tgt := 40) hx hb dX2_init_18 (by decide) (fun h => absurd h (by decide)) (fun _ => ?_)
  refine lv_aload_n hx hb dX2_init_21 rfl (lv_at hl 1 rfl) ?_
  refine va_get (ci := 2) (C := RX2) (T := TX2) (N := 3) (fs := [.ref q1, .int 0, .int 0]) (v := .ref q1) hx hb hts iX2 hown hK hP _ (zat_l (zat_l (zat_l (zat_l (zat_l (zat_l (show [_][0]? = some _ from rfl))))))) rfl 0 (by decide) k11 (fun _ h9 => h9) rfl dX2_init_22 ?_
  refine lv_iload_n hx hb dX2_init_25 rfl (lv_at hl 0 rfl) ?_
  refine va_new (ci := 1) (fs := [.null, .null, .null, .int 0, .int 0, .int 0]) (C := RX1) (T := TX1) (N := 6) hx hb hts iX1 tyX1 tyX1_ok hown kC9 kIX1 kNX1 hK hP hD hS hA rfl (fun j hj => match j, hj with | 0, _ => rfl | 1, _ => rfl | 2, _ => rfl | 3, _ => rfl | 4, _ => rfl | 5, _ => rfl | j + 6, h => absurd h (by omega)) (Nat.le_of_ble_eq_true rfl) (Nat.le_of_ble_eq_true rfl) dX2_init_26 (fun q17 H hP hD hS => ?_)
  refine lv_dup hx hb dX2_init_29 rfl ?_
  refine z_cI (τ := (Nat → Nat)) (b := q17) (As := []) (rest := [.ref q17, .int 5, .ref q1]) (wc := [(q17, .inr (1, [.null, .null, .null, .int 0, .int 0, .int 0]))]) (wf := fun u => (((((([(h0, .inr (2, [.ref q1, .int 0, .int 0]))] ++ [(q1, .inl (cy 4, 6, .inr (.inr (.inr (.inr (va_up (va_up (va_up (va_up (va_up (fun _ => none) (zn 0) (some (u3 0))) (zn 1) (some (u6 0))) (zn 2) (some (u9 0))) (zn 3) (some (u12 0))) (zn 4) (some (u15 0))))))))]) ++ (wLn cy u3 (fun _ _ => 0))) ++ (wLn cy u6 (fun _ _ => 0))) ++ (wLn cy u9 (fun _ _ => 0))) ++ (wLn cy u12 (fun _ _ => 0))) ++ (wLn cy u15 (fun _ _ => 0))) ++ (fun u => wLn cy u (fun _ _ => 0)) u) (c_X1_init l G cy st q17) (zP_right hP) (zD_right hD) (fun u => zCut_r zCut_all) ⟨hx, hb, hml, hown, hts⟩ (cwI 0 hts gX2_init_X1_init rfl rfl rfl kNX1 k17 kJX1 rfl (by decide +kernel) ⟨Nat.le_of_ble_eq_true rfl, Nat.le_of_ble_eq_true rfl⟩) hK hSE hA hP hD hS rfl hl.1 rfl (Nat.le_of_ble_eq_true rfl) dX2_init_30 ⟨Nat.le_of_ble_eq_true rfl, Nat.le_of_ble_eq_true rfl⟩ (fun u18 e19 H locs hP2 hD2 hS2 => ?_)
  have e19 : u18 0 = q17 := e19
  subst e19
  have hP : va_P G vwCl ((((((([(h0, .inr (2, [.ref q1, .int 0, .int 0]))] ++ [(q1, .inl (cy 4, 6, .inr (.inr (.inr (.inr (va_up (va_up (va_up (va_up (va_up (fun _ => none) (zn 0) (some (u3 0))) (zn 1) (some (u6 0))) (zn 2) (some (u9 0))) (zn 3) (some (u12 0))) (zn 4) (some (u15 0))))))))]) ++ (wLn cy u3 (fun _ _ => 0))) ++ (wLn cy u6 (fun _ _ => 0))) ++ (wLn cy u9 (fun _ _ => 0))) ++ (wLn cy u12 (fun _ _ => 0))) ++ (wLn cy u15 (fun _ _ => 0))) ++ (wLn cy u18 (fun _ _ => 0))) H := hP2
  have hD : va_D A ((((((([(h0, .inr (2, [.ref q1, .int 0, .int 0]))] ++ [(q1, .inl (cy 4, 6, .inr (.inr (.inr (.inr (va_up (va_up (va_up (va_up (va_up (fun _ => none) (zn 0) (some (u3 0))) (zn 1) (some (u6 0))) (zn 2) (some (u9 0))) (zn 3) (some (u12 0))) (zn 4) (some (u15 0))))))))]) ++ (wLn cy u3 (fun _ _ => 0))) ++ (wLn cy u6 (fun _ _ => 0))) ++ (wLn cy u9 (fun _ _ => 0))) ++ (wLn cy u12 (fun _ _ => 0))) ++ (wLn cy u15 (fun _ _ => 0))) ++ (wLn cy u18 (fun _ _ => 0))) := hD2
  have hS := hS2
  refine z_astq (i := 5) (f := (va_up (va_up (va_up (va_up (va_up (fun _ => none) (zn 0) (some (u3 0))) (zn 1) (some (u6 0))) (zn 2) (some (u9 0))) (zn 3) (some (u12 0))) (zn 4) (some (u15 0)))) (n := 6) hx hb hK hP hD hS _ 4 _ 1 (zFoc_l (zFoc_l (zFoc_l (zFoc_l (zFoc_l (zFoc_l (zFoc_r (n := 1) (by simp only [List.length_append, List.length_cons, List.length_nil, wLn_len, wLg_len, wLs_len, wPo_len, wCo_len, wSe_len, wTx_len]) zFoc_1))))))) rfl (zat_r (n := 57) (by simp only [List.length_append, List.length_cons, List.length_nil, wLn_len, wLg_len, wLs_len, wPo_len, wCo_len, wSe_len, wTx_len]) (wLn_at0 cy u18 (fun _ _ => 0))) rfl (by unfold vp_in; decide) dX2_init_33 (fun H locs hP hD hS => ?_)
  have hP : va_P G vwCl ((((((([(h0, .inr (2, [.ref q1, .int 0, .int 0]))] ++ [(q1, .inl (cy 4, 6, .inr (.inr (.inr (.inr (va_up (va_up (va_up (va_up (va_up (va_up (fun _ => none) (zn 0) (some (u3 0))) (zn 1) (some (u6 0))) (zn 2) (some (u9 0))) (zn 3) (some (u12 0))) (zn 4) (some (u15 0))) (zn 5) (some (u18 0))))))))]) ++ (wLn cy u3 (fun _ _ => 0))) ++ (wLn cy u6 (fun _ _ => 0))) ++ (wLn cy u9 (fun _ _ => 0))) ++ (wLn cy u12 (fun _ _ => 0))) ++ (wLn cy u15 (fun _ _ => 0))) ++ (wLn cy u18 (fun _ _ => 0))) H := hP
  have hD : va_D A ((((((([(h0, .inr (2, [.ref q1, .int 0, .int 0]))] ++ [(q1, .inl (cy 4, 6, .inr (.inr (.inr (.inr (va_up (va_up (va_up (va_up (va_up (va_up (fun _ => none) (zn 0) (some (u3 0))) (zn 1) (some (u6 0))) (zn 2) (some (u9 0))) (zn 3) (some (u12 0))) (zn 4) (some (u15 0))) (zn 5) (some (u18 0))))))))]) ++ (wLn cy u3 (fun _ _ => 0))) ++ (wLn cy u6 (fun _ _ => 0))) ++ (wLn cy u9 (fun _ _ => 0))) ++ (wLn cy u12 (fun _ _ => 0))) ++ (wLn cy u15 (fun _ _ => 0))) ++ (wLn cy u18 (fun _ _ => 0))) := hD
  refine lv_iinc (v := 6) (lv' := [(1, .int 6), (0, .ref h0)]) hx hb dX2_init_34 hl (k := 0) rfl (by decide) (by decide) rfl (fun ls hl => ?_)
  refine lv_goto (tgt := 15) hx hb dX2_init_37 (by decide) ?_
  refine lv_iload_n hx hb dX2_init_15 rfl (lv_at hl 0 rfl) ?_
  refine lv_bipush (v := 6) hx hb dX2_init_16 (by decide) ?_
  refine lv_icmp_ge (tgt := 40) hx hb dX2_init_18 (by decide) (fun _ => ?_) (fun h => absurd (by decide) h)
  refine W.widen (k := 67) (n := 840) (Nat.le_of_ble_eq_true rfl) (Nat.le_of_ble_eq_true rfl) ?_
  have pm : ((((((([(h0, .inr (2, [.ref q1, .int 0, .int 0]))] ++ [(q1, .inl (cy 4, 6, .inr (.inr (.inr (.inr (va_up (va_up (va_up (va_up (va_up (va_up (fun _ => none) (zn 0) (some (u3 0))) (zn 1) (some (u6 0))) (zn 2) (some (u9 0))) (zn 3) (some (u12 0))) (zn 4) (some (u15 0))) (zn 5) (some (u18 0))))))))]) ++ (wLn cy u3 (fun _ _ => 0))) ++ (wLn cy u6 (fun _ _ => 0))) ++ (wLn cy u9 (fun _ _ => 0))) ++ (wLn cy u12 (fun _ _ => 0))) ++ (wLn cy u15 (fun _ _ => 0))) ++ (wLn cy u18 (fun _ _ => 0))) = ([(h0, .inr (2, [.ref q1, .int 0, .int 0])), (q1, .inl (cy 4, 6, .inr (.inr (.inr (.inr (va_up (va_up (va_up (va_up (va_up (va_up (fun _ => none) (zn 0) (some (u3 0))) (zn 1) (some (u6 0))) (zn 2) (some (u9 0))) (zn 3) (some (u12 0))) (zn 4) (some (u15 0))) (zn 5) (some (u18 0))))))))] : va_W) ++ (wLn cy u3 (fun _ _ => 0) ++ (wLn cy u6 (fun _ _ => 0) ++ (wLn cy u9 (fun _ _ => 0) ++ (wLn cy u12 (fun _ _ => 0) ++ (wLn cy u15 (fun _ _ => 0) ++ wLn cy u18 (fun _ _ => 0)))))) := by simp only [List.append_assoc, List.cons_append, List.nil_append]
  rw [pm] at hP hD
  have hq : va_P G vwCl [(q1, .inl (cy 4, 6, .inr (.inr (.inr (.inr (fun j => some (((fun k => match k with | 0 => u3 | 1 => u6 | 2 => u9 | 3 => u12 | 4 => u15 | _ => u18) : Nat → Nat → Nat) j 0)))))))] H := zq_congr (fun j hj => match j, hj with | 0, _ => rfl | 1, _ => rfl | 2, _ => rfl | 3, _ => rfl | 4, _ => rfl | 5, _ => rfl | j + 6, h => absurd h (by omega)) (zP_iff.mpr fun x hx => zP_iff.mp hP x (by rw [List.mem_singleton.mp hx]; exact List.mem_append_left _ (List.mem_cons_of_mem _ List.mem_cons_self)))
  have hP2 : va_P G vwCl (wPo cy ((fun k => match k with | 0 => h0 | _ => q1) : Nat → Nat) ((fun k => match k with | 0 => u3 | 1 => u6 | 2 => u9 | 3 => u12 | 4 => u15 | _ => u18) : Nat → Nat → Nat) 0 0 ++ wLs cy ((fun k => match k with | 0 => u3 | 1 => u6 | 2 => u9 | 3 => u12 | 4 => u15 | _ => u18) : Nat → Nat → Nat) (fun _ _ _ => 0)) H := zP_iff.mpr fun x hx => by
    have hx' : x ∈ (h0, (.inr (2, [.ref q1, .int 0, .int 0]) : va_E)) :: (q1, (.inl (cy 4, 6, .inr (.inr (.inr (.inr (fun j => some (((fun k => match k with | 0 => u3 | 1 => u6 | 2 => u9 | 3 => u12 | 4 => u15 | _ => u18) : Nat → Nat → Nat) j 0)))))) : va_E)) :: (wLn cy u3 (fun _ _ => 0) ++ (wLn cy u6 (fun _ _ => 0) ++ (wLn cy u9 (fun _ _ => 0) ++ (wLn cy u12 (fun _ _ => 0) ++ (wLn cy u15 (fun _ _ => 0) ++ wLn cy u18 (fun _ _ => 0)))))) := hx
    rcases List.mem_cons.mp hx' with h | h
    · exact zP_iff.mp hP x (by rw [h]; exact List.mem_append_left _ List.mem_cons_self)
    · rcases List.mem_cons.mp h with h | h
      · exact zP_iff.mp hq x (by rw [h]; exact List.mem_singleton.mpr rfl)
      · exact zP_iff.mp hP x (List.mem_append_right _ h)
  have hD2 : va_D A (wPo cy ((fun k => match k with | 0 => h0 | _ => q1) : Nat → Nat) ((fun k => match k with | 0 => u3 | 1 => u6 | 2 => u9 | 3 => u12 | 4 => u15 | _ => u18) : Nat → Nat → Nat) 0 0 ++ wLs cy ((fun k => match k with | 0 => u3 | 1 => u6 | 2 => u9 | 3 => u12 | 4 => u15 | _ => u18) : Nat → Nat → Nat) (fun _ _ _ => 0)) := zD_iff.mpr ⟨(zD_iff.mp hD).1, fun x hx => by
    have hx' : x ∈ (h0, (.inr (2, [.ref q1, .int 0, .int 0]) : va_E)) :: (q1, (.inl (cy 4, 6, .inr (.inr (.inr (.inr (fun j => some (((fun k => match k with | 0 => u3 | 1 => u6 | 2 => u9 | 3 => u12 | 4 => u15 | _ => u18) : Nat → Nat → Nat) j 0)))))) : va_E)) :: (wLn cy u3 (fun _ _ => 0) ++ (wLn cy u6 (fun _ _ => 0) ++ (wLn cy u9 (fun _ _ => 0) ++ (wLn cy u12 (fun _ _ => 0) ++ (wLn cy u15 (fun _ _ => 0) ++ wLn cy u18 (fun _ _ => 0)))))) := hx
    rcases List.mem_cons.mp hx' with h | h
    · rw [h]; exact (zD_iff.mp hD).2 _ (List.mem_append_left _ List.mem_cons_self)
    · rcases List.mem_cons.mp h with h | h
      · rw [h]; exact (zD_iff.mp hD).2 (q1, .inl (cy 4, 6, .inr (.inr (.inr (.inr (va_up (va_up (va_up (va_up (va_up (va_up (fun _ => none) (zn 0) (some (u3 0))) (zn 1) (some (u6 0))) (zn 2) (some (u9 0))) (zn 3) (some (u12 0))) (zn 4) (some (u15 0))) (zn 5) (some (u18 0)))))))) (List.mem_append_left _ (List.mem_cons_of_mem _ List.mem_cons_self))
      · exact (zD_iff.mp hD).2 x (List.mem_append_right _ h)⟩
  exact z_vretc (u := (((fun k => match k with | 0 => h0 | _ => q1) : Nat → Nat), ((fun k => match k with | 0 => u3 | 1 => u6 | 2 => u9 | 3 => u12 | 4 => u15 | _ => u18) : Nat → Nat → Nat))) rfl hx hb hr hlocks hK hP2 hD2 hS dX2_init_40
set_option maxHeartbeats 4000000 in
set_option maxRecDepth 100000 in
theorem c_X0_init (l : Launch) (G : va_G) (cy : Nat → ClassId) (st : Nat → Nat) (h0 : Nat) : zMc (τ := ((Nat → Nat) × (Nat → Nat))) l yX0_init wsX0_init (zRc 3 13 741) G cy st [.ref h0] [(h0, .inr (0, [.null, .null, .null, .int 0, .int 0, .int 0, .int 0]))] (fun u => u.1 0 = h0) (fun u => wCo cy u.1 (u.2 0) (fun _ => 0) (fun _ => 0) 0 0 0 0 ++ wLn cy u.2 (fun _ _ => 0)) 13 741 := by
  refine zMc_of (cc := cX0_init) (maxL := 1) (by decide) rfl rfl (Nat.le_of_ble_eq_true rfl) ?_
  intro p e s m below meth c A ls hx hb hml hr hlocks hown hts hinm hK hSE hA hP hD hS hl
  have hown : s.vm.findClass RX0 = some m.cls := hown
  have hl : lv_has ls 1 [(0, .ref h0)] := hl
  have k3 := hts (.methodLink RX0 3 objectInit) (by decide +kernel)
  have kOi := hts (.instanceMethod objectInit) (by decide +kernel)
  have kOc := hts (.code objectInit ⟨#[0xb1]⟩ 1 none) (by decide +kernel)
  have kC9 := hts (.classLink RX0 9 RX1) (by decide +kernel)
  have kIX1 := hts (.instantiable RX1 6) (by decide +kernel)
  have kNX1 := hts (.initialized RX1) (by decide +kernel)
  have iX1 : ∀ w ∈ wsX10, w ∈ wsX0_init := fun w h => List.mem_cons_of_mem _ (List.mem_append_left _ (List.mem_append_left _ (List.mem_append_left _ (List.mem_append_right _ h))))
  have k11 := hts (.methodLink RX0 11 yX1_init) (by decide +kernel)
  have kJX1 := hts (.instanceMethod yX1_init) (by decide +kernel)
  have iX0 : ∀ w ∈ wsX00, w ∈ wsX0_init := fun w h => List.mem_cons_of_mem _ (List.mem_append_left _ (List.mem_append_left _ (List.mem_append_right _ h)))
  have k12 := hts (.fieldLink RX0 12 "TapCascade$Course" "trial" "LTapCascade$Line;") (by decide +kernel)
  have kAlong := hts (.arrayClass .long) (by decide +kernel)
  have k18 := hts (.fieldLink RX0 18 "TapCascade$Course" "seen" "[J") (by decide +kernel)
  have kAint := hts (.arrayClass .int) (by decide +kernel)
  have k22 := hts (.fieldLink RX0 22 "TapCascade$Course" "stepsBehind" "[I") (by decide +kernel)
  refine lv_aload_n hx hb dX0_init_0 rfl (lv_at hl 0 rfl) ?_
  refine W.objInit hx hb hown k3 kOi kOc rfl (by rw [hml]; exact hl.1) rfl dX0_init_1 (Nat.le_of_ble_eq_true rfl) (Nat.le_of_ble_eq_true rfl) ?_
  refine W.eq (g2 := F0 m 4 ls []) rfl ?_
  refine lv_aload_n hx hb dX0_init_4 rfl (lv_at hl 0 rfl) ?_
  refine va_new (ci := 1) (fs := [.null, .null, .null, .int 0, .int 0, .int 0]) (C := RX1) (T := TX1) (N := 6) hx hb hts iX1 tyX1 tyX1_ok hown kC9 kIX1 kNX1 hK hP hD hS hA rfl (fun j hj => match j, hj with | 0, _ => rfl | 1, _ => rfl | 2, _ => rfl | 3, _ => rfl | 4, _ => rfl | 5, _ => rfl | j + 6, h => absurd h (by omega)) (Nat.le_of_ble_eq_true rfl) (Nat.le_of_ble_eq_true rfl) dX0_init_5 (fun q1 H hP hD hS => ?_)
  refine lv_dup hx hb dX0_init_8 rfl ?_
  refine z_cI (τ := (Nat → Nat)) (b := q1) (As := []) (rest := [.ref q1, .ref h0]) (wc := [(q1, .inr (1, [.null, .null, .null, .int 0, .int 0, .int 0]))]) (wf := fun u => [(h0, .inr (0, [.null, .null, .null, .int 0, .int 0, .int 0, .int 0]))] ++ (fun u => wLn cy u (fun _ _ => 0)) u) (c_X1_init l G cy st q1) (zP_right hP) (zD_right hD) (fun u => zCut_r zCut_all) ⟨hx, hb, hml, hown, hts⟩ (cwI 0 hts gX0_init_X1_init rfl rfl rfl kNX1 k11 kJX1 rfl (by decide +kernel) ⟨Nat.le_of_ble_eq_true rfl, Nat.le_of_ble_eq_true rfl⟩) hK hSE hA hP hD hS rfl hl.1 rfl (Nat.le_of_ble_eq_true rfl) dX0_init_9 ⟨Nat.le_of_ble_eq_true rfl, Nat.le_of_ble_eq_true rfl⟩ (fun u2 e3 H locs hP2 hD2 hS2 => ?_)
  have e3 : u2 0 = q1 := e3
  subst e3
  have hP : va_P G vwCl ([(h0, .inr (0, [.null, .null, .null, .int 0, .int 0, .int 0, .int 0]))] ++ (wLn cy u2 (fun _ _ => 0))) H := hP2
  have hD : va_D A ([(h0, .inr (0, [.null, .null, .null, .int 0, .int 0, .int 0, .int 0]))] ++ (wLn cy u2 (fun _ _ => 0))) := hD2
  have hS := hS2
  refine z_putF (ci := 0) (v := .ref (u2 0)) (fs := [.null, .null, .null, .int 0, .int 0, .int 0, .int 0]) (C := RX0) (T := TX0) (N := 7) (ty := (tyX0 0)) hx hb hts iX0 tyX0 tyX0_ok nmX0 hown hK hP hD hS _ 0 (zFoc_l zFoc_1) rfl (by decide) k12 (fun _ h9 => h9) rfl hinm rfl (by decide +kernel) rfl rfl (Nat.le_of_ble_eq_true rfl) dX0_init_12 (fun H locs hP hD hS => ?_)
  have hP : va_P G vwCl ([(h0, .inr (0, [.ref (u2 0), .null, .null, .int 0, .int 0, .int 0, .int 0]))] ++ (wLn cy u2 (fun _ _ => 0))) H := hP
  have hD : va_D A ([(h0, .inr (0, [.ref (u2 0), .null, .null, .int 0, .int 0, .int 0, .int 0]))] ++ (wLn cy u2 (fun _ _ => 0))) := hD
  refine lv_aload_n hx hb dX0_init_15 rfl (lv_at hl 0 rfl) ?_
  refine lv_sipush (v := 301) hx hb dX0_init_16 (by decide) ?_
  refine z_newa (atype := .long) (ty := .long) (a0 := (301, .inr (.inl (fun _ => 0)))) hx hb kAlong rfl hK hP hD hS hA 2 rfl (fun _ => rfl) (by decide) (by decide) (Nat.le_of_ble_eq_true rfl) (Nat.le_of_ble_eq_true rfl) (Nat.le_of_ble_eq_true rfl) dX0_init_19 (fun q4 H hP hD hS => ?_)
  refine z_putF (ci := 0) (v := .ref q4) (fs := [.ref (u2 0), .null, .null, .int 0, .int 0, .int 0, .int 0]) (C := RX0) (T := TX0) (N := 7) (ty := (tyX0 1)) hx hb hts iX0 tyX0 tyX0_ok nmX0 hown hK hP hD hS _ 1 (zFoc_l (zFoc_l zFoc_1)) rfl (by decide) k18 (fun _ h9 => h9) rfl hinm rfl (by decide +kernel) rfl rfl (Nat.le_of_ble_eq_true rfl) dX0_init_21 (fun H locs hP hD hS => ?_)
  have hP : va_P G vwCl (([(h0, .inr (0, [.ref (u2 0), .ref q4, .null, .int 0, .int 0, .int 0, .int 0]))] ++ (wLn cy u2 (fun _ _ => 0))) ++ [(q4, .inl (cy 2, 301, .inr (.inl (fun _ => 0))))]) H := hP
  have hD : va_D A (([(h0, .inr (0, [.ref (u2 0), .ref q4, .null, .int 0, .int 0, .int 0, .int 0]))] ++ (wLn cy u2 (fun _ _ => 0))) ++ [(q4, .inl (cy 2, 301, .inr (.inl (fun _ => 0))))]) := hD
  refine lv_aload_n hx hb dX0_init_24 rfl (lv_at hl 0 rfl) ?_
  refine lv_sipush (v := 301) hx hb dX0_init_25 (by decide) ?_
  refine z_newa (atype := .int) (ty := .int) (a0 := (301, .inl (fun _ => 0))) hx hb kAint rfl hK hP hD hS hA 1 rfl (fun _ => rfl) (by decide) (by decide) (Nat.le_of_ble_eq_true rfl) (Nat.le_of_ble_eq_true rfl) (Nat.le_of_ble_eq_true rfl) dX0_init_28 (fun q5 H hP hD hS => ?_)
  refine z_putF (ci := 0) (v := .ref q5) (fs := [.ref (u2 0), .ref q4, .null, .int 0, .int 0, .int 0, .int 0]) (C := RX0) (T := TX0) (N := 7) (ty := (tyX0 2)) hx hb hts iX0 tyX0 tyX0_ok nmX0 hown hK hP hD hS _ 2 (zFoc_l (zFoc_l (zFoc_l zFoc_1))) rfl (by decide) k22 (fun _ h9 => h9) rfl hinm rfl (by decide +kernel) rfl rfl (Nat.le_of_ble_eq_true rfl) dX0_init_30 (fun H locs hP hD hS => ?_)
  have hP : va_P G vwCl ((([(h0, .inr (0, [.ref (u2 0), .ref q4, .ref q5, .int 0, .int 0, .int 0, .int 0]))] ++ (wLn cy u2 (fun _ _ => 0))) ++ [(q4, .inl (cy 2, 301, .inr (.inl (fun _ => 0))))]) ++ [(q5, .inl (cy 1, 301, .inl (fun _ => 0)))]) H := hP
  have hD : va_D A ((([(h0, .inr (0, [.ref (u2 0), .ref q4, .ref q5, .int 0, .int 0, .int 0, .int 0]))] ++ (wLn cy u2 (fun _ _ => 0))) ++ [(q4, .inl (cy 2, 301, .inr (.inl (fun _ => 0))))]) ++ [(q5, .inl (cy 1, 301, .inl (fun _ => 0)))]) := hD
  refine W.widen (k := 13) (n := 741) (Nat.le_of_ble_eq_true rfl) (Nat.le_of_ble_eq_true rfl) ?_
  have pm : ((([(h0, .inr (0, [.ref (u2 0), .ref q4, .ref q5, .int 0, .int 0, .int 0, .int 0]))] ++ (wLn cy u2 (fun _ _ => 0))) ++ [(q4, .inl (cy 2, 301, .inr (.inl (fun _ => 0))))]) ++ [(q5, .inl (cy 1, 301, .inl (fun _ => 0)))]) = ([(h0, .inr (0, [.ref (u2 0), .ref q4, .ref q5, .int 0, .int 0, .int 0, .int 0]))] : va_W) ++ (wLn cy u2 (fun _ _ => 0) ++ ([(q4, .inl (cy 2, 301, .inr (.inl (fun _ => 0)))), (q5, .inl (cy 1, 301, .inl (fun _ => 0)))] : va_W)) := by simp only [List.append_assoc, List.cons_append, List.nil_append]
  rw [pm] at hP hD
  have p2 : List.Perm (([(h0, .inr (0, [.ref (u2 0), .ref q4, .ref q5, .int 0, .int 0, .int 0, .int 0]))] : va_W) ++ (wLn cy u2 (fun _ _ => 0) ++ ([(q4, .inl (cy 2, 301, .inr (.inl (fun _ => 0)))), (q5, .inl (cy 1, 301, .inl (fun _ => 0)))] : va_W))) (([(h0, .inr (0, [.ref (u2 0), .ref q4, .ref q5, .int 0, .int 0, .int 0, .int 0]))] : va_W) ++ (([(q4, .inl (cy 2, 301, .inr (.inl (fun _ => 0)))), (q5, .inl (cy 1, 301, .inl (fun _ => 0)))] : va_W) ++ wLn cy u2 (fun _ _ => 0))) := (List.perm_append_comm (l₁ := wLn cy u2 (fun _ _ => 0)) (l₂ := ([(q4, .inl (cy 2, 301, .inr (.inl (fun _ => 0)))), (q5, .inl (cy 1, 301, .inl (fun _ => 0)))] : va_W))).append_left ([(h0, .inr (0, [.ref (u2 0), .ref q4, .ref q5, .int 0, .int 0, .int 0, .int 0]))] : va_W)
  exact z_vretc (u := (((fun k => match k with | 0 => h0 | 1 => q4 | _ => q5) : Nat → Nat), u2)) rfl hx hb hr hlocks hK (zP_perm p2 hP) (zD_perm p2 hD) hS dX0_init_33
