/-! ===== 21.log: laid by a program out of the decode rows ===== -/
def f_J6_bitCount_0f7a4 (x01 : Int32) : Option (Int32) :=
zlet (x01 - ((zushr x01 1) &&& 1431655765)) fun x1 =>
zlet ((x1 &&& 858993459) + ((zushr x1 2) &&& 858993459)) fun x2 =>
zlet ((x2 + (zushr x2 4)) &&& 252645135) fun x3 =>
zlet (x3 + (zushr x3 8)) fun x4 =>
zlet (x4 + (zushr x4 16)) fun x5 =>
some (x5 &&& 63)
set_option maxHeartbeats 4000000 in
set_option maxRecDepth 100000 in
theorem c_J6_bitCount_0f7a4 (l : Launch) (G : va_G) (cy : Nat → ClassId) (st : Nat → Nat) (x01 : Int32) (o : Int32) (hF : f_J6_bitCount_0f7a4 x01 = some o) : zMi l yJ6_bitCount_0f7a4 wsJ6_bitCount_0f7a4 (zR 1) G cy st [.int x01] ([] : va_W) ([] : va_W) o := by
  refine zM_of (cc := cJ6_bitCount_0f7a4) (maxL := 1) (ret := (some .int)) (Qc := fun A => zQi G cy A ([] : va_W) o) (by decide) rfl (Nat.le_of_ble_eq_true rfl) ?_
  intro p e s m below meth c A ls hx hb hml hr hlocks hown hts hK hSE hA hP hD hS hl
  have hown : s.vm.findClass RJ6 = some m.cls := hown
  have hl : lv_has ls 1 [(0, .int x01)] := hl
  have k265 := hts (.constant RJ6 265 (1431655765)) (by decide +kernel)
  have k266 := hts (.constant RJ6 266 (858993459)) (by decide +kernel)
  have k267 := hts (.constant RJ6 267 (252645135)) (by decide +kernel)
  unfold f_J6_bitCount_0f7a4 at hF
  refine lv_iload_n hx hb dJ6_bitCount_0f7a4_0 rfl (lv_at hl 0 rfl) ?_
  refine lv_iload_n hx hb dJ6_bitCount_0f7a4_1 rfl (lv_at hl 0 rfl) ?_
  refine lv_iconst (v := 1) hx hb dJ6_bitCount_0f7a4_2 (by decide) ?_
  refine lv_iushr (v := (zushr x01 1)) hx hb dJ6_bitCount_0f7a4_3 rfl ?_
  refine lv_ldcw (v := 1431655765) hx hb hown k265 dJ6_bitCount_0f7a4_4 ?_
  refine lv_iand hx hb dJ6_bitCount_0f7a4_7 ?_
  refine lv_isub hx hb dJ6_bitCount_0f7a4_8 ?_
  refine z_leti hF (fun x1 hF => ?_)
  refine lv_istore_n (lv' := [(0, .int x1)]) hx hb dJ6_bitCount_0f7a4_9 rfl hl (by decide) rfl (fun ls hl => ?_)
  refine lv_iload_n hx hb dJ6_bitCount_0f7a4_10 rfl (lv_at hl 0 rfl) ?_
  refine lv_ldcw (v := 858993459) hx hb hown k266 dJ6_bitCount_0f7a4_11 ?_
  refine lv_iand hx hb dJ6_bitCount_0f7a4_14 ?_
  refine lv_iload_n hx hb dJ6_bitCount_0f7a4_15 rfl (lv_at hl 0 rfl) ?_
  refine lv_iconst (v := 2) hx hb dJ6_bitCount_0f7a4_16 (by decide) ?_
  refine lv_iushr (v := (zushr x1 2)) hx hb dJ6_bitCount_0f7a4_17 rfl ?_
  refine lv_ldcw (v := 858993459) hx hb hown k266 dJ6_bitCount_0f7a4_18 ?_
  refine lv_iand hx hb dJ6_bitCount_0f7a4_21 ?_
  refine lv_iadd hx hb dJ6_bitCount_0f7a4_22 ?_
  refine z_leti hF (fun x2 hF => ?_)
  refine lv_istore_n (lv' := [(0, .int x2)]) hx hb dJ6_bitCount_0f7a4_23 rfl hl (by decide) rfl (fun ls hl => ?_)
  refine lv_iload_n hx hb dJ6_bitCount_0f7a4_24 rfl (lv_at hl 0 rfl) ?_
  refine lv_iload_n hx hb dJ6_bitCount_0f7a4_25 rfl (lv_at hl 0 rfl) ?_
  refine lv_iconst (v := 4) hx hb dJ6_bitCount_0f7a4_26 (by decide) ?_
  refine lv_iushr (v := (zushr x2 4)) hx hb dJ6_bitCount_0f7a4_27 rfl ?_
  refine lv_iadd hx hb dJ6_bitCount_0f7a4_28 ?_
  refine lv_ldcw (v := 252645135) hx hb hown k267 dJ6_bitCount_0f7a4_29 ?_
  refine lv_iand hx hb dJ6_bitCount_0f7a4_32 ?_
  refine z_leti hF (fun x3 hF => ?_)
  refine lv_istore_n (lv' := [(0, .int x3)]) hx hb dJ6_bitCount_0f7a4_33 rfl hl (by decide) rfl (fun ls hl => ?_)
  refine lv_iload_n hx hb dJ6_bitCount_0f7a4_34 rfl (lv_at hl 0 rfl) ?_
  refine lv_iload_n hx hb dJ6_bitCount_0f7a4_35 rfl (lv_at hl 0 rfl) ?_
  refine lv_bipush (v := 8) hx hb dJ6_bitCount_0f7a4_36 (by decide) ?_
  refine lv_iushr (v := (zushr x3 8)) hx hb dJ6_bitCount_0f7a4_38 rfl ?_
  refine lv_iadd hx hb dJ6_bitCount_0f7a4_39 ?_
  refine z_leti hF (fun x4 hF => ?_)
  refine lv_istore_n (lv' := [(0, .int x4)]) hx hb dJ6_bitCount_0f7a4_40 rfl hl (by decide) rfl (fun ls hl => ?_)
  refine lv_iload_n hx hb dJ6_bitCount_0f7a4_41 rfl (lv_at hl 0 rfl) ?_
  refine lv_iload_n hx hb dJ6_bitCount_0f7a4_42 rfl (lv_at hl 0 rfl) ?_
  refine lv_bipush (v := 16) hx hb dJ6_bitCount_0f7a4_43 (by decide) ?_
  refine lv_iushr (v := (zushr x4 16)) hx hb dJ6_bitCount_0f7a4_45 rfl ?_
  refine lv_iadd hx hb dJ6_bitCount_0f7a4_46 ?_
  refine z_leti hF (fun x5 hF => ?_)
  refine lv_istore_n (lv' := [(0, .int x5)]) hx hb dJ6_bitCount_0f7a4_47 rfl hl (by decide) rfl (fun ls hl => ?_)
  refine lv_iload_n hx hb dJ6_bitCount_0f7a4_48 rfl (lv_at hl 0 rfl) ?_
  refine lv_bipush (v := 63) hx hb dJ6_bitCount_0f7a4_49 (by decide) ?_
  refine lv_iand hx hb dJ6_bitCount_0f7a4_51 ?_
  refine z_iret (o := o) (o1 := (x5 &&& 63)) (v := (x5 &&& 63)) (wf := (fun o => ([] : va_W))) (rf := fun o => o) hx hb hr hlocks hK ?_ ?_ hS ?_ rfl dJ6_bitCount_0f7a4_52
  · exact hP
  · exact hD
  · exact hF
def f_X5_empty : Option (Int32 × Int32) :=
zlet 0 fun lo_1 =>
zlet 0 fun lb_2 =>
some (lo_1, lb_2)
set_option maxHeartbeats 4000000 in
set_option maxRecDepth 100000 in
theorem c_X5_empty (l : Launch) (G : va_G) (cy : Nat → ClassId) (st : Nat → Nat) (a : Nat → Nat) (lt : Nat → Int32) (lg : Nat → Int32) (lw : Nat → Int32) (lo : Int32) (lb : Int32) (o : Int32 × Int32) (hF : f_X5_empty = some o) : zMv l yX5_empty wsX5_empty (zR 1) G cy st [.ref (a 0)] (wLg cy a lt lg lw lo lb) (wLg cy a lt lg lw o.1 o.2) := by
  refine zM_of (cc := cX5_empty) (maxL := 1) (ret := none) (Qc := fun A => zQv G cy A (wLg cy a lt lg lw o.1 o.2)) (by decide) rfl (Nat.le_of_ble_eq_true rfl) ?_
  intro p e s m below meth c A ls hx hb hml hr hlocks hown hts hK hSE hA hP hD hS hl
  have hown : s.vm.findClass RX5 = some m.cls := hown
  have hl : lv_has ls 1 [(0, .ref (a 0))] := hl
  have k21 := hts (.fieldLink RX5 21 "TapCascade$StepLog" "total" "I") (by decide +kernel)
  have iX5 : ∀ w ∈ wsX50, w ∈ wsX5_empty := fun w h => List.mem_cons_of_mem _ (List.mem_append_right _ h)
  have k25 := hts (.fieldLink RX5 25 "TapCascade$StepLog" "back" "I") (by decide +kernel)
  unfold f_X5_empty at hF
  refine lv_aload_n hx hb dX5_empty_0 rfl (lv_at hl 0 rfl) ?_
  refine lv_iconst (v := 0) hx hb dX5_empty_1 (by decide) ?_
  refine z_puti (ci := 5) (C := RX5) (T := TX5) (N := 5) (fs := (zLg a lo lb)) (x := 0) (wf := (fun y => (wLg cy a lt lg lw y lb))) hx hb hts iX5 tyX5 tyX5_ok nmX5 hown hK hP hD hS _ 3 (wLg_foc0_3 cy a lt lg lw lo lb 0) rfl (by decide) k21 (fun _ h9 => h9) rfl (by decide +kernel) (Nat.le_of_ble_eq_true rfl) hF dX5_empty_2 (fun lo_1 hF H locs hP hD hS => ?_)
  refine lv_aload_n hx hb dX5_empty_5 rfl (lv_at hl 0 rfl) ?_
  refine lv_iconst (v := 0) hx hb dX5_empty_6 (by decide) ?_
  refine z_puti (ci := 5) (C := RX5) (T := TX5) (N := 5) (fs := (zLg a lo_1 lb)) (x := 0) (wf := (fun y => (wLg cy a lt lg lw lo_1 y))) hx hb hts iX5 tyX5 tyX5_ok nmX5 hown hK hP hD hS _ 4 (wLg_foc0_4 cy a lt lg lw lo_1 lb 0) rfl (by decide) k25 (fun _ h9 => h9) rfl (by decide +kernel) (Nat.le_of_ble_eq_true rfl) hF dX5_empty_7 (fun lb_2 hF H locs hP hD hS => ?_)
  refine z_vret (o := o) (o1 := (lo_1, lb_2)) (wf := (fun o => (wLg cy a lt lg lw o.1 o.2))) hx hb hr hlocks hK ?_ ?_ hS ?_ dX5_empty_10
  · exact hP
  · exact hD
  · exact hF
def f_X5_copyFrom (lt : Nat → Int32) (lg : Nat → Int32) (lw : Nat → Int32) (lt2 : Nat → Int32) (lg2 : Nat → Int32) (lw2 : Nat → Int32) (lo2 : Int32) (lb2 : Int32) : Option ((Nat → Int32) × (Nat → Int32) × (Nat → Int32) × Int32 × Int32) :=
zlet (va_cpy lt2 lt (zn 0) (zn 0) (zn 20)) fun lt_1 =>
zlet (va_cpy lg2 lg (zn 0) (zn 0) (zn 20)) fun lg_2 =>
zlet (va_cpy lw2 lw (zn 0) (zn 0) (zn 20)) fun lw_3 =>
zlet lo2 fun lo_4 =>
zlet lb2 fun lb_5 =>
some (lt_1, lg_2, lw_3, lo_4, lb_5)
set_option maxHeartbeats 4000000 in
set_option maxRecDepth 100000 in
theorem c_X5_copyFrom (l : Launch) (G : va_G) (cy : Nat → ClassId) (st : Nat → Nat) (a : Nat → Nat) (b : Nat → Nat) (lt : Nat → Int32) (lg : Nat → Int32) (lw : Nat → Int32) (lo : Int32) (lb : Int32) (lt2 : Nat → Int32) (lg2 : Nat → Int32) (lw2 : Nat → Int32) (lo2 : Int32) (lb2 : Int32) (o : (Nat → Int32) × (Nat → Int32) × (Nat → Int32) × Int32 × Int32) (hF : f_X5_copyFrom lt lg lw lt2 lg2 lw2 lo2 lb2 = some o) : zMv l yX5_copyFrom wsX5_copyFrom (zR 1) G cy st [.ref (a 0), .ref (b 0)] ((wLg cy a lt lg lw lo lb) ++ (wLg cy b lt2 lg2 lw2 lo2 lb2)) ((wLg cy a o.1 o.2.1 o.2.2.1 o.2.2.2.1 o.2.2.2.2) ++ (wLg cy b lt2 lg2 lw2 lo2 lb2)) := by
  refine zM_of (cc := cX5_copyFrom) (maxL := 2) (ret := none) (Qc := fun A => zQv G cy A ((wLg cy a o.1 o.2.1 o.2.2.1 o.2.2.2.1 o.2.2.2.2) ++ (wLg cy b lt2 lg2 lw2 lo2 lb2))) (by decide) rfl (Nat.le_of_ble_eq_true rfl) ?_
  intro p e s m below meth c A ls hx hb hml hr hlocks hown hts hK hSE hA hP hD hS hl
  have hown : s.vm.findClass RX5 = some m.cls := hown
  have hl : lv_has ls 2 [(0, .ref (a 0)), (1, .ref (b 0))] := hl
  have k9 := hts (.fieldLink RX5 9 "TapCascade$StepLog" "ticks" "[I") (by decide +kernel)
  have iX5 : ∀ w ∈ wsX50, w ∈ wsX5_copyFrom := fun w h => List.mem_cons_of_mem _ (List.mem_append_right _ h)
  have k28 := hts (.methodLink RX5 28 arraycopyName) (by decide +kernel)
  have kAn := hts (.native arraycopyName) (by decide +kernel)
  have kAs := hts (.static arraycopyName) (by decide +kernel)
  have kAi := hts (.initialized "java/lang/System") (by decide +kernel)
  have k15 := hts (.fieldLink RX5 15 "TapCascade$StepLog" "stages" "[I") (by decide +kernel)
  have k18 := hts (.fieldLink RX5 18 "TapCascade$StepLog" "ways" "[I") (by decide +kernel)
  have k21 := hts (.fieldLink RX5 21 "TapCascade$StepLog" "total" "I") (by decide +kernel)
  have k25 := hts (.fieldLink RX5 25 "TapCascade$StepLog" "back" "I") (by decide +kernel)
  unfold f_X5_copyFrom at hF
  refine lv_aload_n hx hb dX5_copyFrom_0 rfl (lv_at hl 1 rfl) ?_
  refine va_get (ci := 5) (C := RX5) (T := TX5) (N := 5) (fs := (zLg b lo2 lb2)) (v := .ref (b 1)) hx hb hts iX5 hown hK hP _ (zat_r (wLg_len cy a lt lg lw lo lb) (wLg_at0 cy b lt2 lg2 lw2 lo2 lb2)) rfl 0 (by decide) k9 (fun _ h9 => h9) rfl dX5_copyFrom_1 ?_
  refine lv_iconst (v := 0) hx hb dX5_copyFrom_4 (by decide) ?_
  refine lv_aload_n hx hb dX5_copyFrom_5 rfl (lv_at hl 0 rfl) ?_
  refine va_get (ci := 5) (C := RX5) (T := TX5) (N := 5) (fs := (zLg a lo lb)) (v := .ref (a 1)) hx hb hts iX5 hown hK hP _ (zat_l (wLg_at0 cy a lt lg lw lo lb)) rfl 0 (by decide) k9 (fun _ h9 => h9) rfl dX5_copyFrom_6 ?_
  refine lv_iconst (v := 0) hx hb dX5_copyFrom_9 (by decide) ?_
  refine lv_bipush (v := 20) hx hb dX5_copyFrom_10 (by decide) ?_
  refine z_copyi (wf := (fun y => ((wLg cy a y lg lw lo lb) ++ (wLg cy b lt2 lg2 lw2 lo2 lb2)))) (f := lt2) (g0 := lt) (sp := 0) (dp := 0) (n := 20) hx hb (hml.trans hl.1.symm) hown k28 kAn kAs kAi hK hP hD hS _ _ 1 (zat_r (wLg_len cy a lt lg lw lo lb) (wLg_at1 cy b lt2 lg2 lw2 lo2 lb2)) (zFoc_l (wLg_foc1 cy a lt lg lw lo lb _)) rfl rfl (by decide) (by decide) (by decide) (by decide) (by decide) hF (by decide) (Nat.le_of_ble_eq_true rfl) dX5_copyFrom_12 (fun lt_1 hF H locs hP hD hS => ?_)
  refine lv_aload_n hx hb dX5_copyFrom_15 rfl (lv_at hl 1 rfl) ?_
  refine va_get (ci := 5) (C := RX5) (T := TX5) (N := 5) (fs := (zLg b lo2 lb2)) (v := .ref (b 2)) hx hb hts iX5 hown hK hP _ (zat_r (wLg_len cy a lt_1 lg lw lo lb) (wLg_at0 cy b lt2 lg2 lw2 lo2 lb2)) rfl 1 (by decide) k15 (fun _ h9 => h9) rfl dX5_copyFrom_16 ?_
  refine lv_iconst (v := 0) hx hb dX5_copyFrom_19 (by decide) ?_
  refine lv_aload_n hx hb dX5_copyFrom_20 rfl (lv_at hl 0 rfl) ?_
  refine va_get (ci := 5) (C := RX5) (T := TX5) (N := 5) (fs := (zLg a lo lb)) (v := .ref (a 2)) hx hb hts iX5 hown hK hP _ (zat_l (wLg_at0 cy a lt_1 lg lw lo lb)) rfl 1 (by decide) k15 (fun _ h9 => h9) rfl dX5_copyFrom_21 ?_
  refine lv_iconst (v := 0) hx hb dX5_copyFrom_24 (by decide) ?_
  refine lv_bipush (v := 20) hx hb dX5_copyFrom_25 (by decide) ?_
  refine z_copyi (wf := (fun y => ((wLg cy a lt_1 y lw lo lb) ++ (wLg cy b lt2 lg2 lw2 lo2 lb2)))) (f := lg2) (g0 := lg) (sp := 0) (dp := 0) (n := 20) hx hb (hml.trans hl.1.symm) hown k28 kAn kAs kAi hK hP hD hS _ _ 1 (zat_r (wLg_len cy a lt_1 lg lw lo lb) (wLg_at2 cy b lt2 lg2 lw2 lo2 lb2)) (zFoc_l (wLg_foc2 cy a lt_1 lg lw lo lb _)) rfl rfl (by decide) (by decide) (by decide) (by decide) (by decide) hF (by decide) (Nat.le_of_ble_eq_true rfl) dX5_copyFrom_27 (fun lg_2 hF H locs hP hD hS => ?_)
  refine lv_aload_n hx hb dX5_copyFrom_30 rfl (lv_at hl 1 rfl) ?_
  refine va_get (ci := 5) (C := RX5) (T := TX5) (N := 5) (fs := (zLg b lo2 lb2)) (v := .ref (b 3)) hx hb hts iX5 hown hK hP _ (zat_r (wLg_len cy a lt_1 lg_2 lw lo lb) (wLg_at0 cy b lt2 lg2 lw2 lo2 lb2)) rfl 2 (by decide) k18 (fun _ h9 => h9) rfl dX5_copyFrom_31 ?_
  refine lv_iconst (v := 0) hx hb dX5_copyFrom_34 (by decide) ?_
  refine lv_aload_n hx hb dX5_copyFrom_35 rfl (lv_at hl 0 rfl) ?_
  refine va_get (ci := 5) (C := RX5) (T := TX5) (N := 5) (fs := (zLg a lo lb)) (v := .ref (a 3)) hx hb hts iX5 hown hK hP _ (zat_l (wLg_at0 cy a lt_1 lg_2 lw lo lb)) rfl 2 (by decide) k18 (fun _ h9 => h9) rfl dX5_copyFrom_36 ?_
  refine lv_iconst (v := 0) hx hb dX5_copyFrom_39 (by decide) ?_
  refine lv_bipush (v := 20) hx hb dX5_copyFrom_40 (by decide) ?_
  refine z_copyi (wf := (fun y => ((wLg cy a lt_1 lg_2 y lo lb) ++ (wLg cy b lt2 lg2 lw2 lo2 lb2)))) (f := lw2) (g0 := lw) (sp := 0) (dp := 0) (n := 20) hx hb (hml.trans hl.1.symm) hown k28 kAn kAs kAi hK hP hD hS _ _ 1 (zat_r (wLg_len cy a lt_1 lg_2 lw lo lb) (wLg_at3 cy b lt2 lg2 lw2 lo2 lb2)) (zFoc_l (wLg_foc3 cy a lt_1 lg_2 lw lo lb _)) rfl rfl (by decide) (by decide) (by decide) (by decide) (by decide) hF (by decide) (Nat.le_of_ble_eq_true rfl) dX5_copyFrom_42 (fun lw_3 hF H locs hP hD hS => ?_)
  refine lv_aload_n hx hb dX5_copyFrom_45 rfl (lv_at hl 0 rfl) ?_
  refine lv_aload_n hx hb dX5_copyFrom_46 rfl (lv_at hl 1 rfl) ?_
  refine va_get (ci := 5) (C := RX5) (T := TX5) (N := 5) (fs := (zLg b lo2 lb2)) (v := .int lo2) hx hb hts iX5 hown hK hP _ (zat_r (wLg_len cy a lt_1 lg_2 lw_3 lo lb) (wLg_at0 cy b lt2 lg2 lw2 lo2 lb2)) rfl 3 (by decide) k21 (fun _ h9 => h9) rfl dX5_copyFrom_47 ?_
  refine z_puti (ci := 5) (C := RX5) (T := TX5) (N := 5) (fs := (zLg a lo lb)) (x := lo2) (wf := (fun y => ((wLg cy a lt_1 lg_2 lw_3 y lb) ++ (wLg cy b lt2 lg2 lw2 lo2 lb2)))) hx hb hts iX5 tyX5 tyX5_ok nmX5 hown hK hP hD hS _ 3 (zFoc_l (wLg_foc0_3 cy a lt_1 lg_2 lw_3 lo lb lo2)) rfl (by decide) k21 (fun _ h9 => h9) rfl (by decide +kernel) (Nat.le_of_ble_eq_true rfl) hF dX5_copyFrom_50 (fun lo_4 hF H locs hP hD hS => ?_)
  refine lv_aload_n hx hb dX5_copyFrom_53 rfl (lv_at hl 0 rfl) ?_
  refine lv_aload_n hx hb dX5_copyFrom_54 rfl (lv_at hl 1 rfl) ?_
  refine va_get (ci := 5) (C := RX5) (T := TX5) (N := 5) (fs := (zLg b lo2 lb2)) (v := .int lb2) hx hb hts iX5 hown hK hP _ (zat_r (wLg_len cy a lt_1 lg_2 lw_3 lo_4 lb) (wLg_at0 cy b lt2 lg2 lw2 lo2 lb2)) rfl 4 (by decide) k25 (fun _ h9 => h9) rfl dX5_copyFrom_55 ?_
  refine z_puti (ci := 5) (C := RX5) (T := TX5) (N := 5) (fs := (zLg a lo_4 lb)) (x := lb2) (wf := (fun y => ((wLg cy a lt_1 lg_2 lw_3 lo_4 y) ++ (wLg cy b lt2 lg2 lw2 lo2 lb2)))) hx hb hts iX5 tyX5 tyX5_ok nmX5 hown hK hP hD hS _ 4 (zFoc_l (wLg_foc0_4 cy a lt_1 lg_2 lw_3 lo_4 lb lb2)) rfl (by decide) k25 (fun _ h9 => h9) rfl (by decide +kernel) (Nat.le_of_ble_eq_true rfl) hF dX5_copyFrom_58 (fun lb_5 hF H locs hP hD hS => ?_)
  refine z_vret (o := o) (o1 := (lt_1, lg_2, lw_3, lo_4, lb_5)) (wf := (fun o => ((wLg cy a o.1 o.2.1 o.2.2.1 o.2.2.2.1 o.2.2.2.2) ++ (wLg cy b lt2 lg2 lw2 lo2 lb2)))) hx hb hr hlocks hK ?_ ?_ hS ?_ dX5_copyFrom_61
  · exact hP
  · exact hD
  · exact hF
def f_X5_add (lt : Nat → Int32) (lg : Nat → Int32) (lw : Nat → Int32) (lo : Int32) (x01 : Int32) (x02 : Int32) (x03 : Int32) : Option ((Nat → Int32) × (Nat → Int32) × (Nat → Int32) × Int32) :=
zlet (lo - lo / 20 * 20) fun x1 =>
zg (zin x1 20) (
zlet (upd lt (zn x1) x01) fun lt_2 =>
zg (zin x1 20) (
zlet (upd lg (zn x1) x02) fun lg_3 =>
zg (zin x1 20) (
zlet (upd lw (zn x1) x03) fun lw_4 =>
zlet (lo + 1) fun lo_5 =>
some (lt_2, lg_3, lw_4, lo_5))))
set_option maxHeartbeats 4000000 in
set_option maxRecDepth 100000 in
theorem c_X5_add (l : Launch) (G : va_G) (cy : Nat → ClassId) (st : Nat → Nat) (a : Nat → Nat) (lt : Nat → Int32) (lg : Nat → Int32) (lw : Nat → Int32) (lo : Int32) (lb : Int32) (x01 : Int32) (x02 : Int32) (x03 : Int32) (o : (Nat → Int32) × (Nat → Int32) × (Nat → Int32) × Int32) (hF : f_X5_add lt lg lw lo x01 x02 x03 = some o) : zMv l yX5_add wsX5_add (zR 1) G cy st [.ref (a 0), .int x01, .int x02, .int x03] (wLg cy a lt lg lw lo lb) (wLg cy a o.1 o.2.1 o.2.2.1 o.2.2.2 lb) := by
  refine zM_of (cc := cX5_add) (maxL := 5) (ret := none) (Qc := fun A => zQv G cy A (wLg cy a o.1 o.2.1 o.2.2.1 o.2.2.2 lb)) (by decide) rfl (Nat.le_of_ble_eq_true rfl) ?_
  intro p e s m below meth c A ls hx hb hml hr hlocks hown hts hK hSE hA hP hD hS hl
  have hown : s.vm.findClass RX5 = some m.cls := hown
  have hl : lv_has ls 5 [(0, .ref (a 0)), (1, .int x01), (2, .int x02), (3, .int x03)] := hl
  have k21 := hts (.fieldLink RX5 21 "TapCascade$StepLog" "total" "I") (by decide +kernel)
  have iX5 : ∀ w ∈ wsX50, w ∈ wsX5_add := fun w h => List.mem_cons_of_mem _ (List.mem_append_right _ h)
  have k9 := hts (.fieldLink RX5 9 "TapCascade$StepLog" "ticks" "[I") (by decide +kernel)
  have k15 := hts (.fieldLink RX5 15 "TapCascade$StepLog" "stages" "[I") (by decide +kernel)
  have k18 := hts (.fieldLink RX5 18 "TapCascade$StepLog" "ways" "[I") (by decide +kernel)
  unfold f_X5_add at hF
  refine lv_aload_n hx hb dX5_add_0 rfl (lv_at hl 0 rfl) ?_
  refine va_get (ci := 5) (C := RX5) (T := TX5) (N := 5) (fs := (zLg a lo lb)) (v := .int lo) hx hb hts iX5 hown hK hP _ (wLg_at0 cy a lt lg lw lo lb) rfl 3 (by decide) k21 (fun _ h9 => h9) rfl dX5_add_1 ?_
  refine lv_bipush (v := 20) hx hb dX5_add_4 (by decide) ?_
  refine lv_irem hx hb dX5_add_6 (by decide) ?_
  refine z_leti hF (fun x1 hF => ?_)
  refine lv_istore (lv' := [(4, .int x1), (0, .ref (a 0)), (1, .int x01), (2, .int x02), (3, .int x03)]) hx hb dX5_add_7 hl (by decide) rfl (fun ls hl => ?_)
  refine lv_aload_n hx hb dX5_add_9 rfl (lv_at hl 1 rfl) ?_
  refine va_get (ci := 5) (C := RX5) (T := TX5) (N := 5) (fs := (zLg a lo lb)) (v := .ref (a 1)) hx hb hts iX5 hown hK hP _ (wLg_at0 cy a lt lg lw lo lb) rfl 0 (by decide) k9 (fun _ h9 => h9) rfl dX5_add_10 ?_
  refine lv_iload hx hb dX5_add_13 (lv_at hl 0 rfl) ?_
  refine lv_iload_n hx hb dX5_add_15 rfl (lv_at hl 2 rfl) ?_
  refine z_iast (n := 20) (f := lt) (i := x1) (x := x01) (wf := (fun y => (wLg cy a y lg lw lo lb))) hx hb hK hP hD hS _ 1 (wLg_foc1 cy a lt lg lw lo lb _) rfl hF dX5_add_16 (fun lt_2 hF H locs hP hD hS => ?_)
  refine lv_aload_n hx hb dX5_add_17 rfl (lv_at hl 1 rfl) ?_
  refine va_get (ci := 5) (C := RX5) (T := TX5) (N := 5) (fs := (zLg a lo lb)) (v := .ref (a 2)) hx hb hts iX5 hown hK hP _ (wLg_at0 cy a lt_2 lg lw lo lb) rfl 1 (by decide) k15 (fun _ h9 => h9) rfl dX5_add_18 ?_
  refine lv_iload hx hb dX5_add_21 (lv_at hl 0 rfl) ?_
  refine lv_iload_n hx hb dX5_add_23 rfl (lv_at hl 3 rfl) ?_
  refine z_iast (n := 20) (f := lg) (i := x1) (x := x02) (wf := (fun y => (wLg cy a lt_2 y lw lo lb))) hx hb hK hP hD hS _ 1 (wLg_foc2 cy a lt_2 lg lw lo lb _) rfl hF dX5_add_24 (fun lg_3 hF H locs hP hD hS => ?_)
  refine lv_aload_n hx hb dX5_add_25 rfl (lv_at hl 1 rfl) ?_
  refine va_get (ci := 5) (C := RX5) (T := TX5) (N := 5) (fs := (zLg a lo lb)) (v := .ref (a 3)) hx hb hts iX5 hown hK hP _ (wLg_at0 cy a lt_2 lg_3 lw lo lb) rfl 2 (by decide) k18 (fun _ h9 => h9) rfl dX5_add_26 ?_
  refine lv_iload hx hb dX5_add_29 (lv_at hl 0 rfl) ?_
  refine lv_iload_n hx hb dX5_add_31 rfl (lv_at hl 4 rfl) ?_
  refine z_iast (n := 20) (f := lw) (i := x1) (x := x03) (wf := (fun y => (wLg cy a lt_2 lg_3 y lo lb))) hx hb hK hP hD hS _ 1 (wLg_foc3 cy a lt_2 lg_3 lw lo lb _) rfl hF dX5_add_32 (fun lw_4 hF H locs hP hD hS => ?_)
  refine lv_aload_n hx hb dX5_add_33 rfl (lv_at hl 1 rfl) ?_
  refine lv_dup hx hb dX5_add_34 rfl ?_
  refine va_get (ci := 5) (C := RX5) (T := TX5) (N := 5) (fs := (zLg a lo lb)) (v := .int lo) hx hb hts iX5 hown hK hP _ (wLg_at0 cy a lt_2 lg_3 lw_4 lo lb) rfl 3 (by decide) k21 (fun _ h9 => h9) rfl dX5_add_35 ?_
  refine lv_iconst (v := 1) hx hb dX5_add_38 (by decide) ?_
  refine lv_iadd hx hb dX5_add_39 ?_
  refine z_puti (ci := 5) (C := RX5) (T := TX5) (N := 5) (fs := (zLg a lo lb)) (x := (lo + 1)) (wf := (fun y => (wLg cy a lt_2 lg_3 lw_4 y lb))) hx hb hts iX5 tyX5 tyX5_ok nmX5 hown hK hP hD hS _ 3 (wLg_foc0_3 cy a lt_2 lg_3 lw_4 lo lb (lo + 1)) rfl (by decide) k21 (fun _ h9 => h9) rfl (by decide +kernel) (Nat.le_of_ble_eq_true rfl) hF dX5_add_40 (fun lo_5 hF H locs hP hD hS => ?_)
  refine z_vret (o := o) (o1 := (lt_2, lg_3, lw_4, lo_5)) (wf := (fun o => (wLg cy a o.1 o.2.1 o.2.2.1 o.2.2.2 lb))) hx hb hr hlocks hK ?_ ?_ hS ?_ dX5_add_43
  · exact hP
  · exact hD
  · exact hF
def f_X5_told (lo : Int32) : Option (Int32) :=
some (zmin lo 20)
set_option maxHeartbeats 4000000 in
set_option maxRecDepth 100000 in
theorem c_X5_told (l : Launch) (G : va_G) (cy : Nat → ClassId) (st : Nat → Nat) (a : Nat → Nat) (lt : Nat → Int32) (lg : Nat → Int32) (lw : Nat → Int32) (lo : Int32) (lb : Int32) (o : Int32) (hF : f_X5_told lo = some o) : zMi l yX5_told wsX5_told (zR 1) G cy st [.ref (a 0)] (wLg cy a lt lg lw lo lb) (wLg cy a lt lg lw lo lb) o := by
  refine zM_of (cc := cX5_told) (maxL := 1) (ret := (some .int)) (Qc := fun A => zQi G cy A (wLg cy a lt lg lw lo lb) o) (by decide) rfl (Nat.le_of_ble_eq_true rfl) ?_
  intro p e s m below meth c A ls hx hb hml hr hlocks hown hts hK hSE hA hP hD hS hl
  have hown : s.vm.findClass RX5 = some m.cls := hown
  have hl : lv_has ls 1 [(0, .ref (a 0))] := hl
  have k21 := hts (.fieldLink RX5 21 "TapCascade$StepLog" "total" "I") (by decide +kernel)
  have iX5 : ∀ w ∈ wsX50, w ∈ wsX5_told := fun w h => List.mem_cons_of_mem _ (List.mem_append_right _ h)
  have k34 := hts (.methodLink RX5 34 Lib.Math.min.name) (by decide +kernel)
  have k34s := hts (.static Lib.Math.min.name) (by decide +kernel)
  have kMi := hts (.initialized "java/lang/Math") (by decide +kernel)
  have k34c := hts (.code Lib.Math.min.name Lib.Math.min.code 2 (some .int)) (by decide +kernel)
  unfold f_X5_told at hF
  refine lv_aload_n hx hb dX5_told_0 rfl (lv_at hl 0 rfl) ?_
  refine va_get (ci := 5) (C := RX5) (T := TX5) (N := 5) (fs := (zLg a lo lb)) (v := .int lo) hx hb hts iX5 hown hK hP _ (wLg_at0 cy a lt lg lw lo lb) rfl 3 (by decide) k21 (fun _ h9 => h9) rfl dX5_told_1 ?_
  refine lv_bipush (v := 20) hx hb dX5_told_4 (by decide) ?_
  refine va_mmin hx hb (hml.trans hl.1.symm) hown k34 k34s kMi k34c (by decide) (Nat.le_of_ble_eq_true rfl) (Nat.zero_le _) (Nat.zero_le _) dX5_told_6 ?_
  refine z_iret (o := o) (o1 := (zmin lo 20)) (v := (zmin lo 20)) (wf := (fun o => (wLg cy a lt lg lw lo lb))) (rf := fun o => o) hx hb hr hlocks hK ?_ ?_ hS ?_ rfl dX5_told_9
  · exact hP
  · exact hD
  · exact hF
def f_X5_valueOf (lt : Nat → Int32) (lg : Nat → Int32) (lw : Nat → Int32) (lo : Int32) (x01 : Int32) (x02 : Int32) : Option (Int32) :=
if x01 < 0 then (
some (-4)) else (
zbd (f_X5_told lo) fun o1 =>
if x01 < o1 then (
zlet (((lo - 1) - x01) - ((lo - 1) - x01) / 20 * 20) fun x2 =>
if x02 = 0 then (
zg (zin x2 20) (
some (lt (zn x2)))) else (
if x02 = 1 then (
zg (zin x2 20) (
some (lg (zn x2)))) else (
zg (zin x2 20) (
some (lw (zn x2)))))) else (
some (-4)))
set_option maxHeartbeats 4000000 in
set_option maxRecDepth 100000 in
theorem c_X5_valueOf (l : Launch) (G : va_G) (cy : Nat → ClassId) (st : Nat → Nat) (a : Nat → Nat) (lt : Nat → Int32) (lg : Nat → Int32) (lw : Nat → Int32) (lo : Int32) (lb : Int32) (x01 : Int32) (x02 : Int32) (o : Int32) (hF : f_X5_valueOf lt lg lw lo x01 x02 = some o) : zMi l yX5_valueOf wsX5_valueOf (zR 2) G cy st [.ref (a 0), .int x01, .int x02] (wLg cy a lt lg lw lo lb) (wLg cy a lt lg lw lo lb) o := by
  refine zM_of (cc := cX5_valueOf) (maxL := 4) (ret := (some .int)) (Qc := fun A => zQi G cy A (wLg cy a lt lg lw lo lb) o) (by decide) rfl (Nat.le_of_ble_eq_true rfl) ?_
  intro p e s m below meth c A ls hx hb hml hr hlocks hown hts hK hSE hA hP hD hS hl
  have hown : s.vm.findClass RX5 = some m.cls := hown
  have hl : lv_has ls 4 [(0, .ref (a 0)), (1, .int x01), (2, .int x02)] := hl
  have k21 := hts (.fieldLink RX5 21 "TapCascade$StepLog" "total" "I") (by decide +kernel)
  have iX5 : ∀ w ∈ wsX50, w ∈ wsX5_valueOf := fun w h => List.mem_cons_of_mem _ (List.mem_append_right _ h)
  have k9 := hts (.fieldLink RX5 9 "TapCascade$StepLog" "ticks" "[I") (by decide +kernel)
  have k15 := hts (.fieldLink RX5 15 "TapCascade$StepLog" "stages" "[I") (by decide +kernel)
  have k18 := hts (.fieldLink RX5 18 "TapCascade$StepLog" "ways" "[I") (by decide +kernel)
  unfold f_X5_valueOf at hF
  refine lv_iload_n hx hb dX5_valueOf_0 rfl (lv_at hl 1 rfl) ?_
  refine zf_lt (tgt := 12) hx hb hF dX5_valueOf_1 (by decide) (fun hF => ?_) (fun hF => ?_)
  · refine lv_bipush (v := (-4)) hx hb dX5_valueOf_12 (by decide) ?_
    refine z_iret (o := o) (o1 := (-4)) (v := (-4)) (wf := (fun o => (wLg cy a lt lg lw lo lb))) (rf := fun o => o) hx hb hr hlocks hK ?_ ?_ hS ?_ rfl dX5_valueOf_14
    · exact hP
    · exact hD
    · exact hF
  · refine lv_iload_n hx hb dX5_valueOf_4 rfl (lv_at hl 1 rfl) ?_
    refine lv_aload_n hx hb dX5_valueOf_5 rfl (lv_at hl 0 rfl) ?_
    refine z_cVi (b := a 0) (As := []) (rest := [.int x01]) (wc := (wLg cy a lt lg lw lo lb)) (wcf := fun o' => (wLg cy a lt lg lw lo lb)) (wf := fun o' => (wLg cy a lt lg lw lo lb)) (rf := fun o' => o') hF (fun o' hz => c_X5_told l G cy st a lt lg lw lo lb o' hz) (fun o' => zCut_all) ⟨hx, hb, hml, hown, hts⟩ (cwV 0 hts gX5_valueOf_X5_told rfl rfl rfl (by decide +kernel) ⟨by decide, by decide⟩) (ci := 5) (q0 := 0) rfl (wLg_at0 cy a lt lg lw lo lb) hK hSE hA hP hD hS rfl hl.1 rfl (Nat.le_of_ble_eq_true rfl) dX5_valueOf_6 ⟨Nat.le_refl _, Nat.le_refl _⟩ (fun o1 hF H locs hP hD hS => ?_)
    refine zi_lt (tgt := 15) hx hb hF dX5_valueOf_9 (by decide) (fun hF => ?_) (fun hF => ?_)
    · refine lv_aload_n hx hb dX5_valueOf_15 rfl (lv_at hl 0 rfl) ?_
      refine va_get (ci := 5) (C := RX5) (T := TX5) (N := 5) (fs := (zLg a lo lb)) (v := .int lo) hx hb hts iX5 hown hK hP _ (wLg_at0 cy a lt lg lw lo lb) rfl 3 (by decide) k21 (fun _ h9 => h9) rfl dX5_valueOf_16 ?_
      refine lv_iconst (v := 1) hx hb dX5_valueOf_19 (by decide) ?_
      refine lv_isub hx hb dX5_valueOf_20 ?_
      refine lv_iload_n hx hb dX5_valueOf_21 rfl (lv_at hl 1 rfl) ?_
      refine lv_isub hx hb dX5_valueOf_22 ?_
      refine lv_bipush (v := 20) hx hb dX5_valueOf_23 (by decide) ?_
      refine lv_irem hx hb dX5_valueOf_25 (by decide) ?_
      refine z_leti hF (fun x2 hF => ?_)
      refine lv_istore_n (lv' := [(3, .int x2), (0, .ref (a 0)), (1, .int x01), (2, .int x02)]) hx hb dX5_valueOf_26 rfl hl (by decide) rfl (fun ls hl => ?_)
      refine lv_iload_n hx hb dX5_valueOf_27 rfl (lv_at hl 3 rfl) ?_
      by_cases h3 : x02 = 0
      · have hF := (if_pos h3).symm.trans hF
        refine lv_lookup (off := 28) (tgt := 56) hx hb dX5_valueOf_28 (by decide) (by rw [h3]; decide) (by decide) ?_
        refine lv_aload_n hx hb dX5_valueOf_56 rfl (lv_at hl 1 rfl) ?_
        refine va_get (ci := 5) (C := RX5) (T := TX5) (N := 5) (fs := (zLg a lo lb)) (v := .ref (a 1)) hx hb hts iX5 hown hK hP _ (wLg_at0 cy a lt lg lw lo lb) rfl 0 (by decide) k9 (fun _ h9 => h9) rfl dX5_valueOf_57 ?_
        refine lv_iload_n hx hb dX5_valueOf_60 rfl (lv_at hl 0 rfl) ?_
        refine z_iald (n := 20) (f := lt) hx hb hK hP _ 1 (wLg_at1 cy a lt lg lw lo lb) rfl hF dX5_valueOf_61 (fun hF => ?_)
        refine z_iret (o := o) (o1 := (lt (zn x2))) (v := (lt (zn x2))) (wf := (fun o => (wLg cy a lt lg lw lo lb))) (rf := fun o => o) hx hb hr hlocks hK ?_ ?_ hS ?_ rfl dX5_valueOf_62
        · exact hP
        · exact hD
        · exact hF
      have hF := (if_neg h3).symm.trans hF
      by_cases h4 : x02 = 1
      · have hF := (if_pos h4).symm.trans hF
        refine lv_lookup (off := 35) (tgt := 63) hx hb dX5_valueOf_28 (by decide) (by rw [h4]; decide) (by decide) ?_
        refine lv_aload_n hx hb dX5_valueOf_63 rfl (lv_at hl 1 rfl) ?_
        refine va_get (ci := 5) (C := RX5) (T := TX5) (N := 5) (fs := (zLg a lo lb)) (v := .ref (a 2)) hx hb hts iX5 hown hK hP _ (wLg_at0 cy a lt lg lw lo lb) rfl 1 (by decide) k15 (fun _ h9 => h9) rfl dX5_valueOf_64 ?_
        refine lv_iload_n hx hb dX5_valueOf_67 rfl (lv_at hl 0 rfl) ?_
        refine z_iald (n := 20) (f := lg) hx hb hK hP _ 1 (wLg_at2 cy a lt lg lw lo lb) rfl hF dX5_valueOf_68 (fun hF => ?_)
        refine z_iret (o := o) (o1 := (lg (zn x2))) (v := (lg (zn x2))) (wf := (fun o => (wLg cy a lt lg lw lo lb))) (rf := fun o => o) hx hb hr hlocks hK ?_ ?_ hS ?_ rfl dX5_valueOf_69
        · exact hP
        · exact hD
        · exact hF
      have hF := (if_neg h4).symm.trans hF
      refine lv_lookup (off := 42) (tgt := 70) hx hb dX5_valueOf_28 (by decide) (by show Op.lookupswitch.offset [(0, 28), (1, 35)] 42 _ = _; rw [lv_osw h3 (by decide), lv_osw h4 (by decide)]; rfl) (by decide) ?_
      refine lv_aload_n hx hb dX5_valueOf_70 rfl (lv_at hl 1 rfl) ?_
      refine va_get (ci := 5) (C := RX5) (T := TX5) (N := 5) (fs := (zLg a lo lb)) (v := .ref (a 3)) hx hb hts iX5 hown hK hP _ (wLg_at0 cy a lt lg lw lo lb) rfl 2 (by decide) k18 (fun _ h9 => h9) rfl dX5_valueOf_71 ?_
      refine lv_iload_n hx hb dX5_valueOf_74 rfl (lv_at hl 0 rfl) ?_
      refine z_iald (n := 20) (f := lw) hx hb hK hP _ 1 (wLg_at3 cy a lt lg lw lo lb) rfl hF dX5_valueOf_75 (fun hF => ?_)
      refine z_iret (o := o) (o1 := (lw (zn x2))) (v := (lw (zn x2))) (wf := (fun o => (wLg cy a lt lg lw lo lb))) (rf := fun o => o) hx hb hr hlocks hK ?_ ?_ hS ?_ rfl dX5_valueOf_76
      · exact hP
      · exact hD
      · exact hF
    · refine lv_bipush (v := (-4)) hx hb dX5_valueOf_12 (by decide) ?_
      refine z_iret (o := o) (o1 := (-4)) (v := (-4)) (wf := (fun o => (wLg cy a lt lg lw lo lb))) (rf := fun o => o) hx hb hr hlocks hK ?_ ?_ hS ?_ rfl dX5_valueOf_14
      · exact hP
      · exact hD
      · exact hF
def j_X5_unlikeTold_40 (y1 : Int32) : Option (Int32) :=
zbd (f_J6_bitCount_0f7a4 y1) fun o2 =>
some o2
def b_X5_unlikeTold_4 (lg : Nat → Int32) (lw : Nat → Int32) (lo : Int32) (rc4 : (Int32 × Int32) → Option (Int32)) (s4 : Int32 × Int32) : Option (Int32) :=
zbd (f_X5_told lo) fun o3 =>
if o3 ≤ s4.2 then (
j_X5_unlikeTold_40 s4.1) else (
zg (zin s4.2 20) (
zg (zin s4.2 20) (
zlet (s4.1 ||| (1 <<< (((((lg (zn s4.2)) * 2) + (lw (zn s4.2))) - 1) &&& 31))) fun x4 =>
zlet (s4.2 + 1) fun x5 =>
rc4 (x4, x5))))
def f_X5_unlikeTold (lg : Nat → Int32) (lw : Nat → Int32) (lo : Int32) : Option (Int32) :=
zloop (b_X5_unlikeTold_4 lg lw lo) 1000 (0, 0)
set_option maxHeartbeats 4000000 in
set_option maxRecDepth 100000 in
theorem c_X5_unlikeTold (l : Launch) (G : va_G) (cy : Nat → ClassId) (st : Nat → Nat) (a : Nat → Nat) (lt : Nat → Int32) (lg : Nat → Int32) (lw : Nat → Int32) (lo : Int32) (lb : Int32) (o : Int32) (hF : f_X5_unlikeTold lg lw lo = some o) : zMi l yX5_unlikeTold wsX5_unlikeTold (zR 2) G cy st [.ref (a 0)] (wLg cy a lt lg lw lo lb) (wLg cy a lt lg lw lo lb) o := by
  refine zM_of (cc := cX5_unlikeTold) (maxL := 3) (ret := (some .int)) (Qc := fun A => zQi G cy A (wLg cy a lt lg lw lo lb) o) (by decide) rfl (Nat.le_of_ble_eq_true rfl) ?_
  intro p e s m below meth c A ls hx hb hml hr hlocks hown hts hK hSE hA hP hD hS hl
  have hown : s.vm.findClass RX5 = some m.cls := hown
  have hl : lv_has ls 3 [(0, .ref (a 0))] := hl
  have k15 := hts (.fieldLink RX5 15 "TapCascade$StepLog" "stages" "[I") (by decide +kernel)
  have iX5 : ∀ w ∈ wsX50, w ∈ wsX5_unlikeTold := fun w h => List.mem_cons_of_mem _ (List.mem_append_right _ h)
  have k18 := hts (.fieldLink RX5 18 "TapCascade$StepLog" "ways" "[I") (by decide +kernel)
  unfold f_X5_unlikeTold at hF
  refine lv_iconst (v := 0) hx hb dX5_unlikeTold_0 (by decide) ?_
  refine lv_istore_n (lv' := [(1, .int 0), (0, .ref (a 0))]) hx hb dX5_unlikeTold_1 rfl hl (by decide) rfl (fun ls hl => ?_)
  refine lv_iconst (v := 0) hx hb dX5_unlikeTold_2 (by decide) ?_
  refine lv_istore_n (lv' := [(2, .int 0), (1, .int 0), (0, .ref (a 0))]) hx hb dX5_unlikeTold_3 rfl hl (by decide) rfl (fun ls hl => ?_)
  have J40 : ∀ (y1 : Int32) (H : Heap) (locs : List Loc) (ls : Array Slot), va_P G vwCl (wLg cy a lt lg lw lo lb) H → va_D A (wLg cy a lt lg lw lo lb) → va_S A s.heap H locs → lv_has ls 3 [(1, .int y1)] → j_X5_unlikeTold_40 y1 = some o → W p l e (zR 2) s m ([.ref (a 0)] : List Value).toArray below meth c H locs 0 0 (MQ below (zQi G cy A (wLg cy a lt lg lw lo lb) o) ([.ref (a 0)] : List Value).toArray s 0 0 A) (F0 m 40 ls []) := by
    intro y1 H locs ls hP hD hS hl hF
    unfold j_X5_unlikeTold_40 at hF
    refine lv_iload_n hx hb dX5_unlikeTold_40 rfl (lv_at hl 0 rfl) ?_
    refine z_cSi (As := [.int y1]) (rest := []) (wc := ([] : va_W)) (wcf := fun o' => ([] : va_W)) (wf := fun o' => (wLg cy a lt lg lw lo lb)) (rf := fun o' => o') hF (fun o' hz => c_J6_bitCount_0f7a4 l G cy st y1 o' hz) (fun o' => zCut_nil) ⟨hx, hb, hml, hown, hts⟩ (va_cwS 1 hts gX5_unlikeTold_J6_bitCount_0f7a4 rfl rfl rfl (by decide +kernel) ⟨by decide, by decide⟩) hK hSE hA hP hD hS rfl hl.1 rfl (Nat.le_of_ble_eq_true rfl) dX5_unlikeTold_41 ⟨Nat.le_refl _, Nat.le_refl _⟩ (fun o2 hF H locs hP hD hS => ?_)
    refine z_iret (o := o) (o1 := o2) (v := o2) (wf := (fun o => (wLg cy a lt lg lw lo lb))) (rf := fun o => o) hx hb hr hlocks hK ?_ ?_ hS ?_ rfl dX5_unlikeTold_44
    · exact hP
    · exact hD
    · exact hF
  have L4 : ∀ (n : Nat) (s4 : Int32 × Int32) (H : Heap) (locs : List Loc) (ls : Array Slot), va_P G vwCl (wLg cy a lt lg lw lo lb) H → va_D A (wLg cy a lt lg lw lo lb) → va_S A s.heap H locs → lv_has ls 3 [(0, .ref (a 0)), (1, .int s4.1), (2, .int s4.2)] → zloop (b_X5_unlikeTold_4 lg lw lo) n s4 = some o → W p l e (zR 2) s m ([.ref (a 0)] : List Value).toArray below meth c H locs 0 0 (MQ below (zQi G cy A (wLg cy a lt lg lw lo lb) o) ([.ref (a 0)] : List Value).toArray s 0 0 A) (F0 m 4 ls []) := by
    intro n
    induction n with
    | zero => exact fun s4 H locs ls _ _ _ _ hF => (zloop_0 hF).elim
    | succ n ih4 =>
      intro s4 H locs ls hP hD hS hl hF
      have hF : b_X5_unlikeTold_4 lg lw lo (zloop (b_X5_unlikeTold_4 lg lw lo) n) s4 = some o := hF
      generalize zloop (b_X5_unlikeTold_4 lg lw lo) n = rc4 at ih4 hF
      unfold b_X5_unlikeTold_4 at hF
      refine lv_iload_n hx hb dX5_unlikeTold_4 rfl (lv_at hl 2 rfl) ?_
      refine lv_aload_n hx hb dX5_unlikeTold_5 rfl (lv_at hl 0 rfl) ?_
      refine z_cVi (b := a 0) (As := []) (rest := [.int s4.2]) (wc := (wLg cy a lt lg lw lo lb)) (wcf := fun o' => (wLg cy a lt lg lw lo lb)) (wf := fun o' => (wLg cy a lt lg lw lo lb)) (rf := fun o' => o') hF (fun o' hz => c_X5_told l G cy st a lt lg lw lo lb o' hz) (fun o' => zCut_all) ⟨hx, hb, hml, hown, hts⟩ (cwV 0 hts gX5_unlikeTold_X5_told rfl rfl rfl (by decide +kernel) ⟨by decide, by decide⟩) (ci := 5) (q0 := 0) rfl (wLg_at0 cy a lt lg lw lo lb) hK hSE hA hP hD hS rfl hl.1 rfl (Nat.le_of_ble_eq_true rfl) dX5_unlikeTold_6 ⟨Nat.le_refl _, Nat.le_refl _⟩ (fun o3 hF H locs hP hD hS => ?_)
      refine zi_ge (tgt := 40) hx hb hF dX5_unlikeTold_9 (by decide) (fun hF => ?_) (fun hF => ?_)
      · exact J40 s4.1 _ _ ls hP hD hS (lv_sub hl [1] rfl) hF
      · refine lv_iload_n hx hb dX5_unlikeTold_12 rfl (lv_at hl 1 rfl) ?_
        refine lv_iconst (v := 1) hx hb dX5_unlikeTold_13 (by decide) ?_
        refine lv_aload_n hx hb dX5_unlikeTold_14 rfl (lv_at hl 0 rfl) ?_
        refine va_get (ci := 5) (C := RX5) (T := TX5) (N := 5) (fs := (zLg a lo lb)) (v := .ref (a 2)) hx hb hts iX5 hown hK hP _ (wLg_at0 cy a lt lg lw lo lb) rfl 1 (by decide) k15 (fun _ h9 => h9) rfl dX5_unlikeTold_15 ?_
        refine lv_iload_n hx hb dX5_unlikeTold_18 rfl (lv_at hl 2 rfl) ?_
        refine z_iald (n := 20) (f := lg) hx hb hK hP _ 1 (wLg_at2 cy a lt lg lw lo lb) rfl hF dX5_unlikeTold_19 (fun hF => ?_)
        refine lv_iconst (v := 2) hx hb dX5_unlikeTold_20 (by decide) ?_
        refine lv_imul hx hb dX5_unlikeTold_21 ?_
        refine lv_aload_n hx hb dX5_unlikeTold_22 rfl (lv_at hl 0 rfl) ?_
        refine va_get (ci := 5) (C := RX5) (T := TX5) (N := 5) (fs := (zLg a lo lb)) (v := .ref (a 3)) hx hb hts iX5 hown hK hP _ (wLg_at0 cy a lt lg lw lo lb) rfl 2 (by decide) k18 (fun _ h9 => h9) rfl dX5_unlikeTold_23 ?_
        refine lv_iload_n hx hb dX5_unlikeTold_26 rfl (lv_at hl 2 rfl) ?_
        refine z_iald (n := 20) (f := lw) hx hb hK hP _ 1 (wLg_at3 cy a lt lg lw lo lb) rfl hF dX5_unlikeTold_27 (fun hF => ?_)
        refine lv_iadd hx hb dX5_unlikeTold_28 ?_
        refine lv_iconst (v := 1) hx hb dX5_unlikeTold_29 (by decide) ?_
        refine lv_isub hx hb dX5_unlikeTold_30 ?_
        refine lv_ishl hx hb dX5_unlikeTold_31 ?_
        refine lv_ior hx hb dX5_unlikeTold_32 ?_
        refine z_leti hF (fun x4 hF => ?_)
        refine lv_istore_n (lv' := [(1, .int x4), (0, .ref (a 0)), (2, .int s4.2)]) hx hb dX5_unlikeTold_33 rfl hl (by decide) rfl (fun ls hl => ?_)
        refine z_name hF (fun x5 ex5 hF => ?_)
        refine lv_iinc (v := x5) (lv' := [(2, .int x5), (1, .int x4), (0, .ref (a 0))]) hx hb dX5_unlikeTold_34 hl (k := 2) rfl (by rw [ex5]; rfl) (by decide) rfl (fun ls hl => ?_)
        refine lv_goto (tgt := 4) hx hb dX5_unlikeTold_37 (by decide) ?_
        exact ih4 (x4, x5) _ _ ls hP hD hS (lv_sub hl [2, 1, 0] rfl) hF
  exact L4 1000 (0, 0) _ _ ls hP hD hS (lv_sub hl [2, 1, 0] rfl) hF
