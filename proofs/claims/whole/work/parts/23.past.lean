/-! ===== 23.past: laid by a program out of the decode rows ===== -/
def f_X2_forget : Option (Int32) :=
zlet 0 fun pz_1 =>
some pz_1
set_option maxHeartbeats 4000000 in
set_option maxRecDepth 100000 in
theorem c_X2_forget (l : Launch) (G : va_G) (cy : Nat → ClassId) (st : Nat → Nat) (a : Nat → Nat) (la : Nat → Nat → Nat) (pn : Int32) (pz : Int32) (pl : Nat → R2) (o : Int32) (hF : f_X2_forget = some o) : zMv l yX2_forget wsX2_forget (zR 1) G cy st [.ref (a 0)] ((wPo cy a la pn pz) ++ (wLs cy la pl)) ((wPo cy a la pn o) ++ (wLs cy la pl)) := by
  refine zM_of (cc := cX2_forget) (maxL := 1) (ret := none) (Qc := fun A => zQv G cy A ((wPo cy a la pn o) ++ (wLs cy la pl))) (by decide) rfl (Nat.le_of_ble_eq_true rfl) ?_
  intro p e s m below meth c A ls hx hb hml hr hlocks hown hts hK hSE hA hP hD hS hl
  have hown : s.vm.findClass RX2 = some m.cls := hown
  have hl : lv_has ls 1 [(0, .ref (a 0))] := hl
  have k18 := hts (.fieldLink RX2 18 "TapCascade$Past" "size" "I") (by decide +kernel)
  have iX2 : ∀ w ∈ wsX20, w ∈ wsX2_forget := fun w h => List.mem_cons_of_mem _ (List.mem_append_right _ h)
  unfold f_X2_forget at hF
  refine lv_aload_n hx hb dX2_forget_0 rfl (lv_at hl 0 rfl) ?_
  refine lv_iconst (v := 0) hx hb dX2_forget_1 (by decide) ?_
  refine z_puti (ci := 2) (C := RX2) (T := TX2) (N := 3) (fs := (zPo a la pn pz)) (x := 0) (wf := (fun y => ((wPo cy a la pn y) ++ (wLs cy la pl)))) hx hb hts iX2 tyX2 tyX2_ok nmX2 hown hK hP hD hS _ 2 (zFoc_l (wPo_foc0_2 cy a la pn pz 0)) rfl (by decide) k18 (fun _ h9 => h9) rfl (by decide +kernel) (Nat.le_of_ble_eq_true rfl) hF dX2_forget_2 (fun pz_1 hF H locs hP hD hS => ?_)
  refine z_vret (o := o) (o1 := pz_1) (wf := (fun o => ((wPo cy a la pn o) ++ (wLs cy la pl)))) hx hb hr hlocks hK ?_ ?_ hS ?_ dX2_forget_5
  · exact hP
  · exact hD
  · exact hF
def f_X2_keep (pn : Int32) (pz : Int32) (pl : Nat → R2) (v : R2) : Option (Int32 × Int32 × (Nat → R2)) :=
zg (zin pn 6) (
zbd (f_X1_copyFrom (pl (zn pn)) v) fun o2 =>
zlet (va_up pl (zn pn) o2) fun pl_3 =>
zlet ((pn + 1) - (pn + 1) / 6 * 6) fun pn_4 =>
zlet (zmin (pz + 1) 6) fun pz_5 =>
some (pn_4, pz_5, pl_3))
set_option maxHeartbeats 4000000 in
set_option maxRecDepth 100000 in
theorem c_X2_keep (l : Launch) (G : va_G) (cy : Nat → ClassId) (st : Nat → Nat) (a : Nat → Nat) (la : Nat → Nat → Nat) (b : Nat → Nat) (pn : Int32) (pz : Int32) (pl : Nat → R2) (v : R2) (o : Int32 × Int32 × (Nat → R2)) (hF : f_X2_keep pn pz pl v = some o) : zMv l yX2_keep wsX2_keep (zR 3) G cy st [.ref (a 0), .ref (b 0)] ((wPo cy a la pn pz) ++ ((wLs cy la pl) ++ (wLn cy b v))) ((wPo cy a la o.1 o.2.1) ++ ((wLs cy la o.2.2) ++ (wLn cy b v))) := by
  refine zM_of (cc := cX2_keep) (maxL := 2) (ret := none) (Qc := fun A => zQv G cy A ((wPo cy a la o.1 o.2.1) ++ ((wLs cy la o.2.2) ++ (wLn cy b v)))) (by decide) rfl (Nat.le_of_ble_eq_true rfl) ?_
  intro p e s m below meth c A ls hx hb hml hr hlocks hown hts hK hSE hA hP hD hS hl
  have hown : s.vm.findClass RX2 = some m.cls := hown
  have hl : lv_has ls 2 [(0, .ref (a 0)), (1, .ref (b 0))] := hl
  have k11 := hts (.fieldLink RX2 11 "TapCascade$Past" "kept" "[LTapCascade$Line;") (by decide +kernel)
  have iX2 : ∀ w ∈ wsX20, w ∈ wsX2_keep := fun w h => List.mem_cons_of_mem _ (List.mem_append_left _ (List.mem_append_left _ (List.mem_append_left _ (List.mem_append_right _ h))))
  have k22 := hts (.fieldLink RX2 22 "TapCascade$Past" "next" "I") (by decide +kernel)
  have k18 := hts (.fieldLink RX2 18 "TapCascade$Past" "size" "I") (by decide +kernel)
  have k29 := hts (.methodLink RX2 29 Lib.Math.min.name) (by decide +kernel)
  have k29s := hts (.static Lib.Math.min.name) (by decide +kernel)
  have kMi := hts (.initialized "java/lang/Math") (by decide +kernel)
  have k29c := hts (.code Lib.Math.min.name Lib.Math.min.code 2 (some .int)) (by decide +kernel)
  unfold f_X2_keep at hF
  refine lv_aload_n hx hb dX2_keep_0 rfl (lv_at hl 0 rfl) ?_
  refine va_get (ci := 2) (C := RX2) (T := TX2) (N := 3) (fs := (zPo a la pn pz)) (v := .ref (a 1)) hx hb hts iX2 hown hK hP _ (zat_l (wPo_at0 cy a la pn pz)) rfl 0 (by decide) k11 (fun _ h9 => h9) rfl dX2_keep_1 ?_
  refine lv_aload_n hx hb dX2_keep_4 rfl (lv_at hl 0 rfl) ?_
  refine va_get (ci := 2) (C := RX2) (T := TX2) (N := 3) (fs := (zPo a la pn pz)) (v := .int pn) hx hb hts iX2 hown hK hP _ (zat_l (wPo_at0 cy a la pn pz)) rfl 1 (by decide) k22 (fun _ h9 => h9) rfl dX2_keep_5 ?_
  refine z_aald (ad := (fun j => la j 0)) (n := 6) hx hb hK hP _ 4 (zat_l (wPo_at1 cy a la pn pz)) rfl hF dX2_keep_8 (fun h1 hF => ?_)
  refine lv_aload_n hx hb dX2_keep_9 rfl (lv_at hl 1 rfl) ?_
  refine z_cVv (b := la (zn pn) 0) (As := [.ref (b 0)]) (rest := []) (wc := ((wLn cy (la (zn pn)) (pl (zn pn))) ++ (wLn cy b v))) (wcf := fun o' => ((wLn cy (la (zn pn)) o') ++ (wLn cy b v))) (wf := fun o' => ((wPo cy a la pn pz) ++ ((wLs cy la (va_up pl (zn pn) o')) ++ (wLn cy b v)))) hF (fun o' hz => c_X1_copyFrom l G cy st (la (zn pn)) b (pl (zn pn)) v o' hz) (fun o' => (zCut_r (zCut_b (wLs_cut cy la pl h1 _) zCut_all))) ⟨hx, hb, hml, hown, hts⟩ (cwV 1 hts gX2_keep_X1_copyFrom rfl rfl rfl (by decide +kernel) ⟨by decide, by decide⟩) (ci := 1) (q0 := 0) rfl (zat_l (wLn_at0 cy (la (zn pn)) (pl (zn pn)))) hK hSE hA hP hD hS rfl hl.1 rfl (Nat.le_of_ble_eq_true rfl) dX2_keep_10 ⟨Nat.le_refl _, Nat.le_refl _⟩ (fun o2 hF H locs hP hD hS => ?_)
  refine z_nameW (wf := (fun y => ((wPo cy a la pn pz) ++ ((wLs cy la y) ++ (wLn cy b v))))) hF hP hD (fun pl_3 hF hP hD => ?_)
  refine lv_aload_n hx hb dX2_keep_13 rfl (lv_at hl 0 rfl) ?_
  refine lv_aload_n hx hb dX2_keep_14 rfl (lv_at hl 0 rfl) ?_
  refine va_get (ci := 2) (C := RX2) (T := TX2) (N := 3) (fs := (zPo a la pn pz)) (v := .int pn) hx hb hts iX2 hown hK hP _ (zat_l (wPo_at0 cy a la pn pz)) rfl 1 (by decide) k22 (fun _ h9 => h9) rfl dX2_keep_15 ?_
  refine lv_iconst (v := 1) hx hb dX2_keep_18 (by decide) ?_
  refine lv_iadd hx hb dX2_keep_19 ?_
  refine lv_bipush (v := 6) hx hb dX2_keep_20 (by decide) ?_
  refine lv_irem hx hb dX2_keep_22 (by decide) ?_
  refine z_puti (ci := 2) (C := RX2) (T := TX2) (N := 3) (fs := (zPo a la pn pz)) (x := ((pn + 1) - (pn + 1) / 6 * 6)) (wf := (fun y => ((wPo cy a la y pz) ++ ((wLs cy la pl_3) ++ (wLn cy b v))))) hx hb hts iX2 tyX2 tyX2_ok nmX2 hown hK hP hD hS _ 1 (zFoc_l (wPo_foc0_1 cy a la pn pz ((pn + 1) - (pn + 1) / 6 * 6))) rfl (by decide) k22 (fun _ h9 => h9) rfl (by decide +kernel) (Nat.le_of_ble_eq_true rfl) hF dX2_keep_23 (fun pn_4 hF H locs hP hD hS => ?_)
  refine lv_aload_n hx hb dX2_keep_26 rfl (lv_at hl 0 rfl) ?_
  refine lv_aload_n hx hb dX2_keep_27 rfl (lv_at hl 0 rfl) ?_
  refine va_get (ci := 2) (C := RX2) (T := TX2) (N := 3) (fs := (zPo a la pn_4 pz)) (v := .int pz) hx hb hts iX2 hown hK hP _ (zat_l (wPo_at0 cy a la pn_4 pz)) rfl 2 (by decide) k18 (fun _ h9 => h9) rfl dX2_keep_28 ?_
  refine lv_iconst (v := 1) hx hb dX2_keep_31 (by decide) ?_
  refine lv_iadd hx hb dX2_keep_32 ?_
  refine lv_bipush (v := 6) hx hb dX2_keep_33 (by decide) ?_
  refine va_mmin hx hb (hml.trans hl.1.symm) hown k29 k29s kMi k29c (by decide) (Nat.le_of_ble_eq_true rfl) (Nat.zero_le _) (Nat.zero_le _) dX2_keep_35 ?_
  refine z_puti (ci := 2) (C := RX2) (T := TX2) (N := 3) (fs := (zPo a la pn_4 pz)) (x := (zmin (pz + 1) 6)) (wf := (fun y => ((wPo cy a la pn_4 y) ++ ((wLs cy la pl_3) ++ (wLn cy b v))))) hx hb hts iX2 tyX2 tyX2_ok nmX2 hown hK hP hD hS _ 2 (zFoc_l (wPo_foc0_2 cy a la pn_4 pz (zmin (pz + 1) 6))) rfl (by decide) k18 (fun _ h9 => h9) rfl (by decide +kernel) (Nat.le_of_ble_eq_true rfl) hF dX2_keep_38 (fun pz_5 hF H locs hP hD hS => ?_)
  refine z_vret (o := o) (o1 := (pn_4, pz_5, pl_3)) (wf := (fun o => ((wPo cy a la o.1 o.2.1) ++ ((wLs cy la o.2.2) ++ (wLn cy b v))))) hx hb hr hlocks hK ?_ ?_ hS ?_ dX2_keep_41
  · exact hP
  · exact hD
  · exact hF
def f_X2_giveBack (pn : Int32) (pz : Int32) (pl : Nat → R2) (v : R2) : Option (Int32 × Int32 × R2) :=
zlet (((pn + 6) - 1) - ((pn + 6) - 1) / 6 * 6) fun pn_1 =>
zg (zin pn_1 6) (
zbd (f_X1_copyFrom v (pl (zn pn_1))) fun o3 =>
zlet (pz - 1) fun pz_4 =>
some (pn_1, pz_4, o3))
set_option maxHeartbeats 4000000 in
set_option maxRecDepth 100000 in
theorem c_X2_giveBack (l : Launch) (G : va_G) (cy : Nat → ClassId) (st : Nat → Nat) (a : Nat → Nat) (la : Nat → Nat → Nat) (b : Nat → Nat) (pn : Int32) (pz : Int32) (pl : Nat → R2) (v : R2) (o : Int32 × Int32 × R2) (hF : f_X2_giveBack pn pz pl v = some o) : zMv l yX2_giveBack wsX2_giveBack (zR 3) G cy st [.ref (a 0), .ref (b 0)] ((wPo cy a la pn pz) ++ ((wLs cy la pl) ++ (wLn cy b v))) ((wPo cy a la o.1 o.2.1) ++ ((wLs cy la pl) ++ (wLn cy b o.2.2))) := by
  refine zM_of (cc := cX2_giveBack) (maxL := 2) (ret := none) (Qc := fun A => zQv G cy A ((wPo cy a la o.1 o.2.1) ++ ((wLs cy la pl) ++ (wLn cy b o.2.2)))) (by decide) rfl (Nat.le_of_ble_eq_true rfl) ?_
  intro p e s m below meth c A ls hx hb hml hr hlocks hown hts hK hSE hA hP hD hS hl
  have hown : s.vm.findClass RX2 = some m.cls := hown
  have hl : lv_has ls 2 [(0, .ref (a 0)), (1, .ref (b 0))] := hl
  have k22 := hts (.fieldLink RX2 22 "TapCascade$Past" "next" "I") (by decide +kernel)
  have iX2 : ∀ w ∈ wsX20, w ∈ wsX2_giveBack := fun w h => List.mem_cons_of_mem _ (List.mem_append_left _ (List.mem_append_left _ (List.mem_append_left _ (List.mem_append_right _ h))))
  have k11 := hts (.fieldLink RX2 11 "TapCascade$Past" "kept" "[LTapCascade$Line;") (by decide +kernel)
  have k18 := hts (.fieldLink RX2 18 "TapCascade$Past" "size" "I") (by decide +kernel)
  unfold f_X2_giveBack at hF
  refine lv_aload_n hx hb dX2_giveBack_0 rfl (lv_at hl 0 rfl) ?_
  refine lv_aload_n hx hb dX2_giveBack_1 rfl (lv_at hl 0 rfl) ?_
  refine va_get (ci := 2) (C := RX2) (T := TX2) (N := 3) (fs := (zPo a la pn pz)) (v := .int pn) hx hb hts iX2 hown hK hP _ (zat_l (wPo_at0 cy a la pn pz)) rfl 1 (by decide) k22 (fun _ h9 => h9) rfl dX2_giveBack_2 ?_
  refine lv_bipush (v := 6) hx hb dX2_giveBack_5 (by decide) ?_
  refine lv_iadd hx hb dX2_giveBack_7 ?_
  refine lv_iconst (v := 1) hx hb dX2_giveBack_8 (by decide) ?_
  refine lv_isub hx hb dX2_giveBack_9 ?_
  refine lv_bipush (v := 6) hx hb dX2_giveBack_10 (by decide) ?_
  refine lv_irem hx hb dX2_giveBack_12 (by decide) ?_
  refine z_puti (ci := 2) (C := RX2) (T := TX2) (N := 3) (fs := (zPo a la pn pz)) (x := (((pn + 6) - 1) - ((pn + 6) - 1) / 6 * 6)) (wf := (fun y => ((wPo cy a la y pz) ++ ((wLs cy la pl) ++ (wLn cy b v))))) hx hb hts iX2 tyX2 tyX2_ok nmX2 hown hK hP hD hS _ 1 (zFoc_l (wPo_foc0_1 cy a la pn pz (((pn + 6) - 1) - ((pn + 6) - 1) / 6 * 6))) rfl (by decide) k22 (fun _ h9 => h9) rfl (by decide +kernel) (Nat.le_of_ble_eq_true rfl) hF dX2_giveBack_13 (fun pn_1 hF H locs hP hD hS => ?_)
  refine lv_aload_n hx hb dX2_giveBack_16 rfl (lv_at hl 1 rfl) ?_
  refine lv_aload_n hx hb dX2_giveBack_17 rfl (lv_at hl 0 rfl) ?_
  refine va_get (ci := 2) (C := RX2) (T := TX2) (N := 3) (fs := (zPo a la pn_1 pz)) (v := .ref (a 1)) hx hb hts iX2 hown hK hP _ (zat_l (wPo_at0 cy a la pn_1 pz)) rfl 0 (by decide) k11 (fun _ h9 => h9) rfl dX2_giveBack_18 ?_
  refine lv_aload_n hx hb dX2_giveBack_21 rfl (lv_at hl 0 rfl) ?_
  refine va_get (ci := 2) (C := RX2) (T := TX2) (N := 3) (fs := (zPo a la pn_1 pz)) (v := .int pn_1) hx hb hts iX2 hown hK hP _ (zat_l (wPo_at0 cy a la pn_1 pz)) rfl 1 (by decide) k22 (fun _ h9 => h9) rfl dX2_giveBack_22 ?_
  refine z_aald (ad := (fun j => la j 0)) (n := 6) hx hb hK hP _ 4 (zat_l (wPo_at1 cy a la pn_1 pz)) rfl hF dX2_giveBack_25 (fun h2 hF => ?_)
  refine z_cVv (b := b 0) (As := [.ref (la (zn pn_1) 0)]) (rest := []) (wc := ((wLn cy b v) ++ (wLn cy (la (zn pn_1)) (pl (zn pn_1))))) (wcf := fun o' => ((wLn cy b o') ++ (wLn cy (la (zn pn_1)) (pl (zn pn_1))))) (wf := fun o' => ((wPo cy a la pn_1 pz) ++ ((wLs cy la pl) ++ (wLn cy b o')))) hF (fun o' hz => c_X1_copyFrom l G cy st b (la (zn pn_1)) v (pl (zn pn_1)) o' hz) (fun o' => (zCut_c (zCut_r (zCut_b (wLs_cut0 cy la pl h2) zCut_all)))) ⟨hx, hb, hml, hown, hts⟩ (cwV 1 hts gX2_giveBack_X1_copyFrom rfl rfl rfl (by decide +kernel) ⟨by decide, by decide⟩) (ci := 1) (q0 := 0) rfl (zat_l (wLn_at0 cy b v)) hK hSE hA hP hD hS rfl hl.1 rfl (Nat.le_of_ble_eq_true rfl) dX2_giveBack_26 ⟨Nat.le_refl _, Nat.le_refl _⟩ (fun o3 hF H locs hP hD hS => ?_)
  refine lv_aload_n hx hb dX2_giveBack_29 rfl (lv_at hl 0 rfl) ?_
  refine lv_dup hx hb dX2_giveBack_30 rfl ?_
  refine va_get (ci := 2) (C := RX2) (T := TX2) (N := 3) (fs := (zPo a la pn_1 pz)) (v := .int pz) hx hb hts iX2 hown hK hP _ (zat_l (wPo_at0 cy a la pn_1 pz)) rfl 2 (by decide) k18 (fun _ h9 => h9) rfl dX2_giveBack_31 ?_
  refine lv_iconst (v := 1) hx hb dX2_giveBack_34 (by decide) ?_
  refine lv_isub hx hb dX2_giveBack_35 ?_
  refine z_puti (ci := 2) (C := RX2) (T := TX2) (N := 3) (fs := (zPo a la pn_1 pz)) (x := (pz - 1)) (wf := (fun y => ((wPo cy a la pn_1 y) ++ ((wLs cy la pl) ++ (wLn cy b o3))))) hx hb hts iX2 tyX2 tyX2_ok nmX2 hown hK hP hD hS _ 2 (zFoc_l (wPo_foc0_2 cy a la pn_1 pz (pz - 1))) rfl (by decide) k18 (fun _ h9 => h9) rfl (by decide +kernel) (Nat.le_of_ble_eq_true rfl) hF dX2_giveBack_36 (fun pz_4 hF H locs hP hD hS => ?_)
  refine z_vret (o := o) (o1 := (pn_1, pz_4, o3)) (wf := (fun o => ((wPo cy a la o.1 o.2.1) ++ ((wLs cy la pl) ++ (wLn cy b o.2.2))))) hx hb hr hlocks hK ?_ ?_ hS ?_ dX2_giveBack_39
  · exact hP
  · exact hD
  · exact hF
def b_X0_firstLike_2 (sn : Nat → Int64) (x01 : Int32) (rc2 : (Int32) → Option (Int32)) (s2 : Int32) : Option (Int32) :=
if x01 ≤ s2 then (
some x01) else (
zg (zin s2 301) (
zg (zin x01 301) (
if (lg_cmp (sn (zn s2)) (sn (zn x01))) = 0 then (
some s2) else (
zlet (s2 + 1) fun x1 =>
rc2 (x1)))))
def f_X0_firstLike (sn : Nat → Int64) (x01 : Int32) : Option (Int32) :=
zloop (b_X0_firstLike_2 sn x01) 1000 (0)
set_option maxHeartbeats 4000000 in
set_option maxRecDepth 100000 in
theorem c_X0_firstLike (l : Launch) (G : va_G) (cy : Nat → ClassId) (st : Nat → Nat) (a : Nat → Nat) (ta : Nat → Nat) (sn : Nat → Int64) (sb : Nat → Int32) (c0 : Int32) (c1 : Int32) (c2 : Int32) (c3 : Int32) (tv : R2) (x01 : Int32) (o : Int32) (hF : f_X0_firstLike sn x01 = some o) : zMi l yX0_firstLike wsX0_firstLike (zR 1) G cy st [.ref (a 0), .int x01] ((wCo cy a (ta 0) sn sb c0 c1 c2 c3) ++ (wLn cy ta tv)) ((wCo cy a (ta 0) sn sb c0 c1 c2 c3) ++ (wLn cy ta tv)) o := by
  refine zM_of (cc := cX0_firstLike) (maxL := 3) (ret := (some .int)) (Qc := fun A => zQi G cy A ((wCo cy a (ta 0) sn sb c0 c1 c2 c3) ++ (wLn cy ta tv)) o) (by decide) rfl (Nat.le_of_ble_eq_true rfl) ?_
  intro p e s m below meth c A ls hx hb hml hr hlocks hown hts hK hSE hA hP hD hS hl
  have hown : s.vm.findClass RX0 = some m.cls := hown
  have hl : lv_has ls 3 [(0, .ref (a 0)), (1, .int x01)] := hl
  have k18 := hts (.fieldLink RX0 18 "TapCascade$Course" "seen" "[J") (by decide +kernel)
  have iX0 : ∀ w ∈ wsX00, w ∈ wsX0_firstLike := fun w h => List.mem_cons_of_mem _ (List.mem_append_right _ h)
  unfold f_X0_firstLike at hF
  refine lv_iconst (v := 0) hx hb dX0_firstLike_0 (by decide) ?_
  refine lv_istore_n (lv' := [(2, .int 0), (0, .ref (a 0)), (1, .int x01)]) hx hb dX0_firstLike_1 rfl hl (by decide) rfl (fun ls hl => ?_)
  have L2 : ∀ (n : Nat) (s2 : Int32) (H : Heap) (locs : List Loc) (ls : Array Slot), va_P G vwCl ((wCo cy a (ta 0) sn sb c0 c1 c2 c3) ++ (wLn cy ta tv)) H → va_D A ((wCo cy a (ta 0) sn sb c0 c1 c2 c3) ++ (wLn cy ta tv)) → va_S A s.heap H locs → lv_has ls 3 [(0, .ref (a 0)), (1, .int x01), (2, .int s2)] → zloop (b_X0_firstLike_2 sn x01) n s2 = some o → W p l e (zR 1) s m ([.ref (a 0), .int x01] : List Value).toArray below meth c H locs 0 0 (MQ below (zQi G cy A ((wCo cy a (ta 0) sn sb c0 c1 c2 c3) ++ (wLn cy ta tv)) o) ([.ref (a 0), .int x01] : List Value).toArray s 0 0 A) (F0 m 2 ls []) := by
    intro n
    induction n with
    | zero => exact fun s2 H locs ls _ _ _ _ hF => (zloop_0 hF).elim
    | succ n ih2 =>
      intro s2 H locs ls hP hD hS hl hF
      have hF : b_X0_firstLike_2 sn x01 (zloop (b_X0_firstLike_2 sn x01) n) s2 = some o := hF
      generalize zloop (b_X0_firstLike_2 sn x01) n = rc2 at ih2 hF
      unfold b_X0_firstLike_2 at hF
      refine lv_iload_n hx hb dX0_firstLike_2 rfl (lv_at hl 2 rfl) ?_
      refine lv_iload_n hx hb dX0_firstLike_3 rfl (lv_at hl 1 rfl) ?_
      refine zi_ge (tgt := 31) hx hb hF dX0_firstLike_4 (by decide) (fun hF => ?_) (fun hF => ?_)
      · refine lv_iload_n hx hb dX0_firstLike_31 rfl (lv_at hl 1 rfl) ?_
        refine z_iret (o := o) (o1 := x01) (v := x01) (wf := (fun o => ((wCo cy a (ta 0) sn sb c0 c1 c2 c3) ++ (wLn cy ta tv)))) (rf := fun o => o) hx hb hr hlocks hK ?_ ?_ hS ?_ rfl dX0_firstLike_32
        · exact hP
        · exact hD
        · exact hF
      · refine lv_aload_n hx hb dX0_firstLike_7 rfl (lv_at hl 0 rfl) ?_
        refine va_get (ci := 0) (C := RX0) (T := TX0) (N := 7) (fs := (zCo a (ta 0) c0 c1 c2 c3)) (v := .ref (a 1)) hx hb hts iX0 hown hK hP _ (zat_l (wCo_at0 cy a (ta 0) sn sb c0 c1 c2 c3)) rfl 1 (by decide) k18 (fun _ h9 => h9) rfl dX0_firstLike_8 ?_
        refine lv_iload_n hx hb dX0_firstLike_11 rfl (lv_at hl 2 rfl) ?_
        refine z_lald (n := 301) (f := sn) hx hb hK hP _ 2 (zat_l (wCo_at1 cy a (ta 0) sn sb c0 c1 c2 c3)) rfl hF dX0_firstLike_12 (fun hF => ?_)
        refine lv_aload_n hx hb dX0_firstLike_13 rfl (lv_at hl 0 rfl) ?_
        refine va_get (ci := 0) (C := RX0) (T := TX0) (N := 7) (fs := (zCo a (ta 0) c0 c1 c2 c3)) (v := .ref (a 1)) hx hb hts iX0 hown hK hP _ (zat_l (wCo_at0 cy a (ta 0) sn sb c0 c1 c2 c3)) rfl 1 (by decide) k18 (fun _ h9 => h9) rfl dX0_firstLike_14 ?_
        refine lv_iload_n hx hb dX0_firstLike_17 rfl (lv_at hl 1 rfl) ?_
        refine z_lald (n := 301) (f := sn) hx hb hK hP _ 2 (zat_l (wCo_at1 cy a (ta 0) sn sb c0 c1 c2 c3)) rfl hF dX0_firstLike_18 (fun hF => ?_)
        refine W.lcmp hx hb dX0_firstLike_19 ?_
        refine zf_ne (tgt := 25) hx hb hF dX0_firstLike_20 (by decide) (fun hF => ?_) (fun hF => ?_)
        · refine z_name hF (fun x1 ex1 hF => ?_)
          refine lv_iinc (v := x1) (lv' := [(2, .int x1), (0, .ref (a 0)), (1, .int x01)]) hx hb dX0_firstLike_25 hl (k := 2) rfl (by rw [ex1]; rfl) (by decide) rfl (fun ls hl => ?_)
          refine lv_goto (tgt := 2) hx hb dX0_firstLike_28 (by decide) ?_
          exact ih2 (x1) _ _ ls hP hD hS (lv_sub hl [1, 2, 0] rfl) hF
        · refine lv_iload_n hx hb dX0_firstLike_23 rfl (lv_at hl 2 rfl) ?_
          refine z_iret (o := o) (o1 := s2) (v := s2) (wf := (fun o => ((wCo cy a (ta 0) sn sb c0 c1 c2 c3) ++ (wLn cy ta tv)))) (rf := fun o => o) hx hb hr hlocks hK ?_ ?_ hS ?_ rfl dX0_firstLike_24
          · exact hP
          · exact hD
          · exact hF
  exact L2 1000 (0) _ _ ls hP hD hS (lv_sub hl [1, 2, 0] rfl) hF
def j_X0_follow_97 (c_2 : Int32) (y6 : Int32) (y7 : Int32) (sn_8 : Nat → Int64) (sb_9 : Nat → Int32) (tv_10 : R2) : Option ((Nat → Int64) × (Nat → Int32) × Int32 × Int32 × Int32 × Int32 × R2) :=
zlet y7 fun c_11 =>
zlet (y6 - y7) fun c_12 =>
zg (zin y6 301) (
zg (zin y7 301) (
zlet ((sb_9 (zn y6)) - (sb_9 (zn y7))) fun c_13 =>
some (sn_8, sb_9, c_2, c_11, c_12, c_13, tv_10)))
def j_X0_follow_51 (c_3 : Int32) (c_4 : Int32) (c_5 : Int32) (y14 : Int32) (sn_15 : Nat → Int64) (sb_16 : Nat → Int32) (tv_17 : R2) : Option ((Nat → Int64) × (Nat → Int32) × Int32 × Int32 × Int32 × Int32 × R2) :=
zlet y14 fun c_18 =>
some (sn_15, sb_16, c_18, c_3, c_4, c_5, tv_17)
def b_X0_follow_34 (c_2 : Int32) (c_3 : Int32) (c_4 : Int32) (c_5 : Int32) (rc34 : (Int32 × (Nat → Int64) × (Nat → Int32) × R2) → Option ((Nat → Int64) × (Nat → Int32) × Int32 × Int32 × Int32 × Int32 × R2)) (s34 : Int32 × (Nat → Int64) × (Nat → Int32) × R2) : Option ((Nat → Int64) × (Nat → Int32) × Int32 × Int32 × Int32 × Int32 × R2) :=
if (300 : Int32) < s34.1 then (
some (s34.2.1, s34.2.2.1, c_2, c_3, c_4, c_5, s34.2.2.2)) else (
zbd (f_X1_isQuiet s34.2.2.2) fun o19 =>
if o19 = 0 then (
zbd (f_X1_packed s34.2.2.2) fun o20 =>
zg (zin s34.1 301) (
zlet (vp_updL s34.2.1 (zn s34.1) o20) fun sn_21 =>
zg (zin s34.1 301) (
zlet (upd s34.2.2.1 (zn s34.1) (s34.2.2.2 8 0)) fun sb_22 =>
zbd (f_X0_firstLike sn_21 s34.1) fun o23 =>
if s34.1 ≤ o23 then (
zbd (f_X1_runTick s34.2.2.2) fun o24 =>
zlet (s34.1 + 1) fun x25 =>
rc34 (x25, sn_21, sb_22, o24)) else (
j_X0_follow_97 c_2 s34.1 o23 sn_21 sb_22 s34.2.2.2)))) else (
j_X0_follow_51 c_3 c_4 c_5 s34.1 s34.2.1 s34.2.2.1 s34.2.2.2))
def f_X0_follow (sn : Nat → Int64) (sb : Nat → Int32) (tv : R2) (v : R2) : Option ((Nat → Int64) × (Nat → Int32) × Int32 × Int32 × Int32 × Int32 × R2) :=
zbd (f_X1_copyFrom tv v) fun o1 =>
zlet (-4) fun c_2 =>
zlet (-4) fun c_3 =>
zlet (-4) fun c_4 =>
zlet (-4) fun c_5 =>
zloop (b_X0_follow_34 c_2 c_3 c_4 c_5) 1000 (0, sn, sb, o1)
set_option maxHeartbeats 4000000 in
set_option maxRecDepth 100000 in
theorem c_X0_follow (l : Launch) (G : va_G) (cy : Nat → ClassId) (st : Nat → Nat) (a : Nat → Nat) (ta : Nat → Nat) (b : Nat → Nat) (sn : Nat → Int64) (sb : Nat → Int32) (c0 : Int32) (c1 : Int32) (c2 : Int32) (c3 : Int32) (tv : R2) (v : R2) (o : (Nat → Int64) × (Nat → Int32) × Int32 × Int32 × Int32 × Int32 × R2) (hF : f_X0_follow sn sb tv v = some o) : zMv l yX0_follow wsX0_follow (zR 6) G cy st [.ref (a 0), .ref (b 0)] ((wCo cy a (ta 0) sn sb c0 c1 c2 c3) ++ ((wLn cy ta tv) ++ (wLn cy b v))) ((wCo cy a (ta 0) o.1 o.2.1 o.2.2.1 o.2.2.2.1 o.2.2.2.2.1 o.2.2.2.2.2.1) ++ ((wLn cy ta o.2.2.2.2.2.2) ++ (wLn cy b v))) := by
  refine zM_of (cc := cX0_follow) (maxL := 4) (ret := none) (Qc := fun A => zQv G cy A ((wCo cy a (ta 0) o.1 o.2.1 o.2.2.1 o.2.2.2.1 o.2.2.2.2.1 o.2.2.2.2.2.1) ++ ((wLn cy ta o.2.2.2.2.2.2) ++ (wLn cy b v)))) (by decide) rfl (Nat.le_of_ble_eq_true rfl) ?_
  intro p e s m below meth c A ls hx hb hml hr hlocks hown hts hK hSE hA hP hD hS hl
  have hown : s.vm.findClass RX0 = some m.cls := hown
  have hl : lv_has ls 4 [(0, .ref (a 0)), (1, .ref (b 0))] := hl
  have k12 := hts (.fieldLink RX0 12 "TapCascade$Course" "trial" "LTapCascade$Line;") (by decide +kernel)
  have iX0 : ∀ w ∈ wsX00, w ∈ wsX0_follow := fun w h => List.mem_cons_of_mem _ (List.mem_append_left _ (List.mem_append_left _ (List.mem_append_left _ (List.mem_append_right _ h))))
  have k30 := hts (.fieldLink RX0 30 "TapCascade$Course" "quietBehind" "I") (by decide +kernel)
  have k34 := hts (.fieldLink RX0 34 "TapCascade$Course" "roundFrom" "I") (by decide +kernel)
  have k37 := hts (.fieldLink RX0 37 "TapCascade$Course" "roundTicks" "I") (by decide +kernel)
  have k40 := hts (.fieldLink RX0 40 "TapCascade$Course" "roundSteps" "I") (by decide +kernel)
  have k22 := hts (.fieldLink RX0 22 "TapCascade$Course" "stepsBehind" "[I") (by decide +kernel)
  have k18 := hts (.fieldLink RX0 18 "TapCascade$Course" "seen" "[J") (by decide +kernel)
  have k51 := hts (.fieldLink RX0 51 "TapCascade$Line" "log" "LTapCascade$StepLog;") (by decide +kernel)
  have iX1 : ∀ w ∈ wsX10, w ∈ wsX0_follow := fun w h => List.mem_cons_of_mem _ (List.mem_append_left _ (List.mem_append_left _ (List.mem_append_right _ h)))
  have k55 := hts (.fieldLink RX0 55 "TapCascade$StepLog" "total" "I") (by decide +kernel)
  have iX5 : ∀ w ∈ wsX50, w ∈ wsX0_follow := fun w h => List.mem_cons_of_mem _ (List.mem_append_left _ (List.mem_append_right _ h))
  unfold f_X0_follow at hF
  refine lv_aload_n hx hb dX0_follow_0 rfl (lv_at hl 0 rfl) ?_
  refine va_get (ci := 0) (C := RX0) (T := TX0) (N := 7) (fs := (zCo a (ta 0) c0 c1 c2 c3)) (v := .ref (ta 0)) hx hb hts iX0 hown hK hP _ (zat_l (wCo_at0 cy a (ta 0) sn sb c0 c1 c2 c3)) rfl 0 (by decide) k12 (fun _ h9 => h9) rfl dX0_follow_1 ?_
  refine lv_aload_n hx hb dX0_follow_4 rfl (lv_at hl 1 rfl) ?_
  refine z_cVv (b := ta 0) (As := [.ref (b 0)]) (rest := []) (wc := ((wLn cy ta tv) ++ (wLn cy b v))) (wcf := fun o' => ((wLn cy ta o') ++ (wLn cy b v))) (wf := fun o' => ((wCo cy a (ta 0) sn sb c0 c1 c2 c3) ++ ((wLn cy ta o') ++ (wLn cy b v)))) hF (fun o' hz => c_X1_copyFrom l G cy st ta b tv v o' hz) (fun o' => (zCut_r (zCut_b zCut_all zCut_all))) ⟨hx, hb, hml, hown, hts⟩ (cwV 1 hts gX0_follow_X1_copyFrom rfl rfl rfl (by decide +kernel) ⟨by decide, by decide⟩) (ci := 1) (q0 := 0) rfl (zat_l (wLn_at0 cy ta tv)) hK hSE hA hP hD hS rfl hl.1 rfl (Nat.le_of_ble_eq_true rfl) dX0_follow_5 ⟨Nat.le_refl _, Nat.le_refl _⟩ (fun o1 hF H locs hP hD hS => ?_)
  refine lv_aload_n hx hb dX0_follow_8 rfl (lv_at hl 0 rfl) ?_
  refine lv_bipush (v := (-4)) hx hb dX0_follow_9 (by decide) ?_
  refine z_puti (ci := 0) (C := RX0) (T := TX0) (N := 7) (fs := (zCo a (ta 0) c0 c1 c2 c3)) (x := (-4)) (wf := (fun y => ((wCo cy a (ta 0) sn sb y c1 c2 c3) ++ ((wLn cy ta o1) ++ (wLn cy b v))))) hx hb hts iX0 tyX0 tyX0_ok nmX0 hown hK hP hD hS _ 3 (zFoc_l (wCo_foc0_3 cy a (ta 0) sn sb c0 c1 c2 c3 (-4))) rfl (by decide) k30 (fun _ h9 => h9) rfl (by decide +kernel) (Nat.le_of_ble_eq_true rfl) hF dX0_follow_11 (fun c_2 hF H locs hP hD hS => ?_)
  refine lv_aload_n hx hb dX0_follow_14 rfl (lv_at hl 0 rfl) ?_
  refine lv_bipush (v := (-4)) hx hb dX0_follow_15 (by decide) ?_
  refine z_puti (ci := 0) (C := RX0) (T := TX0) (N := 7) (fs := (zCo a (ta 0) c_2 c1 c2 c3)) (x := (-4)) (wf := (fun y => ((wCo cy a (ta 0) sn sb c_2 y c2 c3) ++ ((wLn cy ta o1) ++ (wLn cy b v))))) hx hb hts iX0 tyX0 tyX0_ok nmX0 hown hK hP hD hS _ 4 (zFoc_l (wCo_foc0_4 cy a (ta 0) sn sb c_2 c1 c2 c3 (-4))) rfl (by decide) k34 (fun _ h9 => h9) rfl (by decide +kernel) (Nat.le_of_ble_eq_true rfl) hF dX0_follow_17 (fun c_3 hF H locs hP hD hS => ?_)
  refine lv_aload_n hx hb dX0_follow_20 rfl (lv_at hl 0 rfl) ?_
  refine lv_bipush (v := (-4)) hx hb dX0_follow_21 (by decide) ?_
  refine z_puti (ci := 0) (C := RX0) (T := TX0) (N := 7) (fs := (zCo a (ta 0) c_2 c_3 c2 c3)) (x := (-4)) (wf := (fun y => ((wCo cy a (ta 0) sn sb c_2 c_3 y c3) ++ ((wLn cy ta o1) ++ (wLn cy b v))))) hx hb hts iX0 tyX0 tyX0_ok nmX0 hown hK hP hD hS _ 5 (zFoc_l (wCo_foc0_5 cy a (ta 0) sn sb c_2 c_3 c2 c3 (-4))) rfl (by decide) k37 (fun _ h9 => h9) rfl (by decide +kernel) (Nat.le_of_ble_eq_true rfl) hF dX0_follow_23 (fun c_4 hF H locs hP hD hS => ?_)
  refine lv_aload_n hx hb dX0_follow_26 rfl (lv_at hl 0 rfl) ?_
  refine lv_bipush (v := (-4)) hx hb dX0_follow_27 (by decide) ?_
  refine z_puti (ci := 0) (C := RX0) (T := TX0) (N := 7) (fs := (zCo a (ta 0) c_2 c_3 c_4 c3)) (x := (-4)) (wf := (fun y => ((wCo cy a (ta 0) sn sb c_2 c_3 c_4 y) ++ ((wLn cy ta o1) ++ (wLn cy b v))))) hx hb hts iX0 tyX0 tyX0_ok nmX0 hown hK hP hD hS _ 6 (zFoc_l (wCo_foc0_6 cy a (ta 0) sn sb c_2 c_3 c_4 c3 (-4))) rfl (by decide) k40 (fun _ h9 => h9) rfl (by decide +kernel) (Nat.le_of_ble_eq_true rfl) hF dX0_follow_29 (fun c_5 hF H locs hP hD hS => ?_)
  refine lv_iconst (v := 0) hx hb dX0_follow_32 (by decide) ?_
  refine lv_istore_n (lv' := [(2, .int 0), (0, .ref (a 0)), (1, .ref (b 0))]) hx hb dX0_follow_33 rfl hl (by decide) rfl (fun ls hl => ?_)
  have J97 : ∀ (y6 : Int32) (y7 : Int32) (sn_8 : Nat → Int64) (sb_9 : Nat → Int32) (tv_10 : R2) (H : Heap) (locs : List Loc) (ls : Array Slot), va_P G vwCl ((wCo cy a (ta 0) sn_8 sb_9 c_2 c_3 c_4 c_5) ++ ((wLn cy ta tv_10) ++ (wLn cy b v))) H → va_D A ((wCo cy a (ta 0) sn_8 sb_9 c_2 c_3 c_4 c_5) ++ ((wLn cy ta tv_10) ++ (wLn cy b v))) → va_S A s.heap H locs → lv_has ls 4 [(0, .ref (a 0)), (2, .int y6), (3, .int y7)] → j_X0_follow_97 c_2 y6 y7 sn_8 sb_9 tv_10 = some o → W p l e (zR 6) s m ([.ref (a 0), .ref (b 0)] : List Value).toArray below meth c H locs 0 0 (MQ below (zQv G cy A ((wCo cy a (ta 0) o.1 o.2.1 o.2.2.1 o.2.2.2.1 o.2.2.2.2.1 o.2.2.2.2.2.1) ++ ((wLn cy ta o.2.2.2.2.2.2) ++ (wLn cy b v)))) ([.ref (a 0), .ref (b 0)] : List Value).toArray s 0 0 A) (F0 m 97 ls []) := by
    intro y6 y7 sn_8 sb_9 tv_10 H locs ls hP hD hS hl hF
    unfold j_X0_follow_97 at hF
    refine lv_aload_n hx hb dX0_follow_97 rfl (lv_at hl 0 rfl) ?_
    refine lv_iload_n hx hb dX0_follow_98 rfl (lv_at hl 2 rfl) ?_
    refine z_puti (ci := 0) (C := RX0) (T := TX0) (N := 7) (fs := (zCo a (ta 0) c_2 c_3 c_4 c_5)) (x := y7) (wf := (fun y => ((wCo cy a (ta 0) sn_8 sb_9 c_2 y c_4 c_5) ++ ((wLn cy ta tv_10) ++ (wLn cy b v))))) hx hb hts iX0 tyX0 tyX0_ok nmX0 hown hK hP hD hS _ 4 (zFoc_l (wCo_foc0_4 cy a (ta 0) sn_8 sb_9 c_2 c_3 c_4 c_5 y7)) rfl (by decide) k34 (fun _ h9 => h9) rfl (by decide +kernel) (Nat.le_of_ble_eq_true rfl) hF dX0_follow_99 (fun c_11 hF H locs hP hD hS => ?_)
    refine lv_aload_n hx hb dX0_follow_102 rfl (lv_at hl 0 rfl) ?_
    refine lv_iload_n hx hb dX0_follow_103 rfl (lv_at hl 1 rfl) ?_
    refine lv_iload_n hx hb dX0_follow_104 rfl (lv_at hl 2 rfl) ?_
    refine lv_isub hx hb dX0_follow_105 ?_
    refine z_puti (ci := 0) (C := RX0) (T := TX0) (N := 7) (fs := (zCo a (ta 0) c_2 c_11 c_4 c_5)) (x := (y6 - y7)) (wf := (fun y => ((wCo cy a (ta 0) sn_8 sb_9 c_2 c_11 y c_5) ++ ((wLn cy ta tv_10) ++ (wLn cy b v))))) hx hb hts iX0 tyX0 tyX0_ok nmX0 hown hK hP hD hS _ 5 (zFoc_l (wCo_foc0_5 cy a (ta 0) sn_8 sb_9 c_2 c_11 c_4 c_5 (y6 - y7))) rfl (by decide) k37 (fun _ h9 => h9) rfl (by decide +kernel) (Nat.le_of_ble_eq_true rfl) hF dX0_follow_106 (fun c_12 hF H locs hP hD hS => ?_)
    refine lv_aload_n hx hb dX0_follow_109 rfl (lv_at hl 0 rfl) ?_
    refine lv_aload_n hx hb dX0_follow_110 rfl (lv_at hl 0 rfl) ?_
    refine va_get (ci := 0) (C := RX0) (T := TX0) (N := 7) (fs := (zCo a (ta 0) c_2 c_11 c_12 c_5)) (v := .ref (a 2)) hx hb hts iX0 hown hK hP _ (zat_l (wCo_at0 cy a (ta 0) sn_8 sb_9 c_2 c_11 c_12 c_5)) rfl 2 (by decide) k22 (fun _ h9 => h9) rfl dX0_follow_111 ?_
    refine lv_iload_n hx hb dX0_follow_114 rfl (lv_at hl 1 rfl) ?_
    refine z_iald (n := 301) (f := sb_9) hx hb hK hP _ 1 (zat_l (wCo_at2 cy a (ta 0) sn_8 sb_9 c_2 c_11 c_12 c_5)) rfl hF dX0_follow_115 (fun hF => ?_)
    refine lv_aload_n hx hb dX0_follow_116 rfl (lv_at hl 0 rfl) ?_
    refine va_get (ci := 0) (C := RX0) (T := TX0) (N := 7) (fs := (zCo a (ta 0) c_2 c_11 c_12 c_5)) (v := .ref (a 2)) hx hb hts iX0 hown hK hP _ (zat_l (wCo_at0 cy a (ta 0) sn_8 sb_9 c_2 c_11 c_12 c_5)) rfl 2 (by decide) k22 (fun _ h9 => h9) rfl dX0_follow_117 ?_
    refine lv_iload_n hx hb dX0_follow_120 rfl (lv_at hl 2 rfl) ?_
    refine z_iald (n := 301) (f := sb_9) hx hb hK hP _ 1 (zat_l (wCo_at2 cy a (ta 0) sn_8 sb_9 c_2 c_11 c_12 c_5)) rfl hF dX0_follow_121 (fun hF => ?_)
    refine lv_isub hx hb dX0_follow_122 ?_
    refine z_puti (ci := 0) (C := RX0) (T := TX0) (N := 7) (fs := (zCo a (ta 0) c_2 c_11 c_12 c_5)) (x := ((sb_9 (zn y6)) - (sb_9 (zn y7)))) (wf := (fun y => ((wCo cy a (ta 0) sn_8 sb_9 c_2 c_11 c_12 y) ++ ((wLn cy ta tv_10) ++ (wLn cy b v))))) hx hb hts iX0 tyX0 tyX0_ok nmX0 hown hK hP hD hS _ 6 (zFoc_l (wCo_foc0_6 cy a (ta 0) sn_8 sb_9 c_2 c_11 c_12 c_5 ((sb_9 (zn y6)) - (sb_9 (zn y7))))) rfl (by decide) k40 (fun _ h9 => h9) rfl (by decide +kernel) (Nat.le_of_ble_eq_true rfl) hF dX0_follow_123 (fun c_13 hF H locs hP hD hS => ?_)
    refine z_vret (o := o) (o1 := (sn_8, sb_9, c_2, c_11, c_12, c_13, tv_10)) (wf := (fun o => ((wCo cy a (ta 0) o.1 o.2.1 o.2.2.1 o.2.2.2.1 o.2.2.2.2.1 o.2.2.2.2.2.1) ++ ((wLn cy ta o.2.2.2.2.2.2) ++ (wLn cy b v))))) hx hb hr hlocks hK ?_ ?_ hS ?_ dX0_follow_126
    · exact hP
    · exact hD
    · exact hF
  have J51 : ∀ (y14 : Int32) (sn_15 : Nat → Int64) (sb_16 : Nat → Int32) (tv_17 : R2) (H : Heap) (locs : List Loc) (ls : Array Slot), va_P G vwCl ((wCo cy a (ta 0) sn_15 sb_16 c_2 c_3 c_4 c_5) ++ ((wLn cy ta tv_17) ++ (wLn cy b v))) H → va_D A ((wCo cy a (ta 0) sn_15 sb_16 c_2 c_3 c_4 c_5) ++ ((wLn cy ta tv_17) ++ (wLn cy b v))) → va_S A s.heap H locs → lv_has ls 4 [(0, .ref (a 0)), (2, .int y14)] → j_X0_follow_51 c_3 c_4 c_5 y14 sn_15 sb_16 tv_17 = some o → W p l e (zR 6) s m ([.ref (a 0), .ref (b 0)] : List Value).toArray below meth c H locs 0 0 (MQ below (zQv G cy A ((wCo cy a (ta 0) o.1 o.2.1 o.2.2.1 o.2.2.2.1 o.2.2.2.2.1 o.2.2.2.2.2.1) ++ ((wLn cy ta o.2.2.2.2.2.2) ++ (wLn cy b v)))) ([.ref (a 0), .ref (b 0)] : List Value).toArray s 0 0 A) (F0 m 51 ls []) := by
    intro y14 sn_15 sb_16 tv_17 H locs ls hP hD hS hl hF
    unfold j_X0_follow_51 at hF
    refine lv_aload_n hx hb dX0_follow_51 rfl (lv_at hl 0 rfl) ?_
    refine lv_iload_n hx hb dX0_follow_52 rfl (lv_at hl 1 rfl) ?_
    refine z_puti (ci := 0) (C := RX0) (T := TX0) (N := 7) (fs := (zCo a (ta 0) c_2 c_3 c_4 c_5)) (x := y14) (wf := (fun y => ((wCo cy a (ta 0) sn_15 sb_16 y c_3 c_4 c_5) ++ ((wLn cy ta tv_17) ++ (wLn cy b v))))) hx hb hts iX0 tyX0 tyX0_ok nmX0 hown hK hP hD hS _ 3 (zFoc_l (wCo_foc0_3 cy a (ta 0) sn_15 sb_16 c_2 c_3 c_4 c_5 y14)) rfl (by decide) k30 (fun _ h9 => h9) rfl (by decide +kernel) (Nat.le_of_ble_eq_true rfl) hF dX0_follow_53 (fun c_18 hF H locs hP hD hS => ?_)
    refine z_vret (o := o) (o1 := (sn_15, sb_16, c_18, c_3, c_4, c_5, tv_17)) (wf := (fun o => ((wCo cy a (ta 0) o.1 o.2.1 o.2.2.1 o.2.2.2.1 o.2.2.2.2.1 o.2.2.2.2.2.1) ++ ((wLn cy ta o.2.2.2.2.2.2) ++ (wLn cy b v))))) hx hb hr hlocks hK ?_ ?_ hS ?_ dX0_follow_56
    · exact hP
    · exact hD
    · exact hF
  have L34 : ∀ (n : Nat) (s34 : Int32 × (Nat → Int64) × (Nat → Int32) × R2) (H : Heap) (locs : List Loc) (ls : Array Slot), va_P G vwCl ((wCo cy a (ta 0) s34.2.1 s34.2.2.1 c_2 c_3 c_4 c_5) ++ ((wLn cy ta s34.2.2.2) ++ (wLn cy b v))) H → va_D A ((wCo cy a (ta 0) s34.2.1 s34.2.2.1 c_2 c_3 c_4 c_5) ++ ((wLn cy ta s34.2.2.2) ++ (wLn cy b v))) → va_S A s.heap H locs → lv_has ls 4 [(0, .ref (a 0)), (2, .int s34.1)] → zloop (b_X0_follow_34 c_2 c_3 c_4 c_5) n s34 = some o → W p l e (zR 6) s m ([.ref (a 0), .ref (b 0)] : List Value).toArray below meth c H locs 0 0 (MQ below (zQv G cy A ((wCo cy a (ta 0) o.1 o.2.1 o.2.2.1 o.2.2.2.1 o.2.2.2.2.1 o.2.2.2.2.2.1) ++ ((wLn cy ta o.2.2.2.2.2.2) ++ (wLn cy b v)))) ([.ref (a 0), .ref (b 0)] : List Value).toArray s 0 0 A) (F0 m 34 ls []) := by
    intro n
    induction n with
    | zero => exact fun s34 H locs ls _ _ _ _ hF => (zloop_0 hF).elim
    | succ n ih34 =>
      intro s34 H locs ls hP hD hS hl hF
      have hF : b_X0_follow_34 c_2 c_3 c_4 c_5 (zloop (b_X0_follow_34 c_2 c_3 c_4 c_5) n) s34 = some o := hF
      generalize zloop (b_X0_follow_34 c_2 c_3 c_4 c_5) n = rc34 at ih34 hF
      unfold b_X0_follow_34 at hF
      refine lv_iload_n hx hb dX0_follow_34 rfl (lv_at hl 1 rfl) ?_
      refine lv_sipush (v := 300) hx hb dX0_follow_35 (by decide) ?_
      refine zi_gt (tgt := 140) hx hb hF dX0_follow_38 (by decide) (fun hF => ?_) (fun hF => ?_)
      · refine z_vret (o := o) (o1 := (s34.2.1, s34.2.2.1, c_2, c_3, c_4, c_5, s34.2.2.2)) (wf := (fun o => ((wCo cy a (ta 0) o.1 o.2.1 o.2.2.1 o.2.2.2.1 o.2.2.2.2.1 o.2.2.2.2.2.1) ++ ((wLn cy ta o.2.2.2.2.2.2) ++ (wLn cy b v))))) hx hb hr hlocks hK ?_ ?_ hS ?_ dX0_follow_140
        · exact hP
        · exact hD
        · exact hF
      · refine lv_aload_n hx hb dX0_follow_41 rfl (lv_at hl 0 rfl) ?_
        refine va_get (ci := 0) (C := RX0) (T := TX0) (N := 7) (fs := (zCo a (ta 0) c_2 c_3 c_4 c_5)) (v := .ref (ta 0)) hx hb hts iX0 hown hK hP _ (zat_l (wCo_at0 cy a (ta 0) s34.2.1 s34.2.2.1 c_2 c_3 c_4 c_5)) rfl 0 (by decide) k12 (fun _ h9 => h9) rfl dX0_follow_42 ?_
        refine z_cVi (b := ta 0) (As := []) (rest := []) (wc := (wLn cy ta s34.2.2.2)) (wcf := fun o' => (wLn cy ta s34.2.2.2)) (wf := fun o' => ((wCo cy a (ta 0) s34.2.1 s34.2.2.1 c_2 c_3 c_4 c_5) ++ ((wLn cy ta s34.2.2.2) ++ (wLn cy b v)))) (rf := fun o' => o') hF (fun o' hz => c_X1_isQuiet l G cy st ta s34.2.2.2 o' hz) (fun o' => (zCut_r (zCut_l zCut_all))) ⟨hx, hb, hml, hown, hts⟩ (cwV 0 hts gX0_follow_X1_isQuiet rfl rfl rfl (by decide +kernel) ⟨by decide, by decide⟩) (ci := 1) (q0 := 0) rfl (wLn_at0 cy ta s34.2.2.2) hK hSE hA hP hD hS rfl hl.1 rfl (Nat.le_of_ble_eq_true rfl) dX0_follow_45 ⟨Nat.le_refl _, Nat.le_refl _⟩ (fun o19 hF H locs hP hD hS => ?_)
        refine zf_eq (tgt := 57) hx hb hF dX0_follow_48 (by decide) (fun hF => ?_) (fun hF => ?_)
        · refine lv_aload_n hx hb dX0_follow_57 rfl (lv_at hl 0 rfl) ?_
          refine va_get (ci := 0) (C := RX0) (T := TX0) (N := 7) (fs := (zCo a (ta 0) c_2 c_3 c_4 c_5)) (v := .ref (a 1)) hx hb hts iX0 hown hK hP _ (zat_l (wCo_at0 cy a (ta 0) s34.2.1 s34.2.2.1 c_2 c_3 c_4 c_5)) rfl 1 (by decide) k18 (fun _ h9 => h9) rfl dX0_follow_58 ?_
          refine lv_iload_n hx hb dX0_follow_61 rfl (lv_at hl 1 rfl) ?_
          refine lv_aload_n hx hb dX0_follow_62 rfl (lv_at hl 0 rfl) ?_
          refine va_get (ci := 0) (C := RX0) (T := TX0) (N := 7) (fs := (zCo a (ta 0) c_2 c_3 c_4 c_5)) (v := .ref (ta 0)) hx hb hts iX0 hown hK hP _ (zat_l (wCo_at0 cy a (ta 0) s34.2.1 s34.2.2.1 c_2 c_3 c_4 c_5)) rfl 0 (by decide) k12 (fun _ h9 => h9) rfl dX0_follow_63 ?_
          refine z_cVl (b := ta 0) (As := []) (rest := [.int s34.1, .ref (a 1)]) (wc := (wLn cy ta s34.2.2.2)) (wcf := fun o' => (wLn cy ta s34.2.2.2)) (wf := fun o' => ((wCo cy a (ta 0) s34.2.1 s34.2.2.1 c_2 c_3 c_4 c_5) ++ ((wLn cy ta s34.2.2.2) ++ (wLn cy b v)))) (rf := fun o' => o') hF (fun o' hz => c_X1_packed l G cy st ta s34.2.2.2 o' hz) (fun o' => (zCut_r (zCut_l zCut_all))) ⟨hx, hb, hml, hown, hts⟩ (cwV 0 hts gX0_follow_X1_packed rfl rfl rfl (by decide +kernel) ⟨by decide, by decide⟩) (ci := 1) (q0 := 0) rfl (wLn_at0 cy ta s34.2.2.2) hK hSE hA hP hD hS rfl hl.1 rfl (Nat.le_of_ble_eq_true rfl) dX0_follow_66 ⟨Nat.le_refl _, Nat.le_refl _⟩ (fun o20 hF H locs hP hD hS => ?_)
          refine z_last (n := 301) (f := s34.2.1) (i := s34.1) (x := o20) (wf := (fun y => ((wCo cy a (ta 0) y s34.2.2.1 c_2 c_3 c_4 c_5) ++ ((wLn cy ta s34.2.2.2) ++ (wLn cy b v))))) hx hb hK hP hD hS _ 2 (zFoc_l (wCo_foc1 cy a (ta 0) s34.2.1 s34.2.2.1 c_2 c_3 c_4 c_5 _)) rfl hF dX0_follow_69 (fun sn_21 hF H locs hP hD hS => ?_)
          refine lv_aload_n hx hb dX0_follow_70 rfl (lv_at hl 0 rfl) ?_
          refine va_get (ci := 0) (C := RX0) (T := TX0) (N := 7) (fs := (zCo a (ta 0) c_2 c_3 c_4 c_5)) (v := .ref (a 2)) hx hb hts iX0 hown hK hP _ (zat_l (wCo_at0 cy a (ta 0) sn_21 s34.2.2.1 c_2 c_3 c_4 c_5)) rfl 2 (by decide) k22 (fun _ h9 => h9) rfl dX0_follow_71 ?_
          refine lv_iload_n hx hb dX0_follow_74 rfl (lv_at hl 1 rfl) ?_
          refine lv_aload_n hx hb dX0_follow_75 rfl (lv_at hl 0 rfl) ?_
          refine va_get (ci := 0) (C := RX0) (T := TX0) (N := 7) (fs := (zCo a (ta 0) c_2 c_3 c_4 c_5)) (v := .ref (ta 0)) hx hb hts iX0 hown hK hP _ (zat_l (wCo_at0 cy a (ta 0) sn_21 s34.2.2.1 c_2 c_3 c_4 c_5)) rfl 0 (by decide) k12 (fun _ h9 => h9) rfl dX0_follow_76 ?_
          refine va_get (ci := 1) (C := RX1) (T := TX1) (N := 6) (fs := (zLn ta s34.2.2.2)) (v := .ref (ta 7)) hx hb hts iX1 hown hK hP _ (zat_r (wCo_len cy a (ta 0) sn_21 s34.2.2.1 c_2 c_3 c_4 c_5) (zat_l (wLn_at0 cy ta s34.2.2.2))) rfl 2 (by decide) k51 (fun _ h9 => h9) rfl dX0_follow_79 ?_
          refine va_get (ci := 5) (C := RX5) (T := TX5) (N := 5) (fs := (zLnL ta s34.2.2.2)) (v := .int (s34.2.2.2 8 0)) hx hb hts iX5 hown hK hP _ (zat_r (wCo_len cy a (ta 0) sn_21 s34.2.2.1 c_2 c_3 c_4 c_5) (zat_l (wLn_at7 cy ta s34.2.2.2))) rfl 3 (by decide) k55 (fun _ h9 => h9) rfl dX0_follow_82 ?_
          refine z_iast (n := 301) (f := s34.2.2.1) (i := s34.1) (x := s34.2.2.2 8 0) (wf := (fun y => ((wCo cy a (ta 0) sn_21 y c_2 c_3 c_4 c_5) ++ ((wLn cy ta s34.2.2.2) ++ (wLn cy b v))))) hx hb hK hP hD hS _ 1 (zFoc_l (wCo_foc2 cy a (ta 0) sn_21 s34.2.2.1 c_2 c_3 c_4 c_5 _)) rfl hF dX0_follow_85 (fun sb_22 hF H locs hP hD hS => ?_)
          refine lv_aload_n hx hb dX0_follow_86 rfl (lv_at hl 0 rfl) ?_
          refine lv_iload_n hx hb dX0_follow_87 rfl (lv_at hl 1 rfl) ?_
          refine z_cVi (b := a 0) (As := [.int s34.1]) (rest := []) (wc := ((wCo cy a (ta 0) sn_21 sb_22 c_2 c_3 c_4 c_5) ++ (wLn cy ta s34.2.2.2))) (wcf := fun o' => ((wCo cy a (ta 0) sn_21 sb_22 c_2 c_3 c_4 c_5) ++ (wLn cy ta s34.2.2.2))) (wf := fun o' => ((wCo cy a (ta 0) sn_21 sb_22 c_2 c_3 c_4 c_5) ++ ((wLn cy ta s34.2.2.2) ++ (wLn cy b v)))) (rf := fun o' => o') hF (fun o' hz => c_X0_firstLike l G cy st a ta sn_21 sb_22 c_2 c_3 c_4 c_5 s34.2.2.2 s34.1 o' hz) (fun o' => (zCut_b zCut_all (zCut_l zCut_all))) ⟨hx, hb, hml, hown, hts⟩ (cwV 1 hts gX0_follow_X0_firstLike rfl rfl rfl (by decide +kernel) ⟨by decide, by decide⟩) (ci := 0) (q0 := 0) rfl (zat_l (wCo_at0 cy a (ta 0) sn_21 sb_22 c_2 c_3 c_4 c_5)) hK hSE hA hP hD hS rfl hl.1 rfl (Nat.le_of_ble_eq_true rfl) dX0_follow_88 ⟨Nat.le_refl _, Nat.le_refl _⟩ (fun o23 hF H locs hP hD hS => ?_)
          refine lv_istore_n (lv' := [(3, .int o23), (0, .ref (a 0)), (2, .int s34.1)]) hx hb dX0_follow_91 rfl hl (by decide) rfl (fun ls hl => ?_)
          refine lv_iload_n hx hb dX0_follow_92 rfl (lv_at hl 0 rfl) ?_
          refine lv_iload_n hx hb dX0_follow_93 rfl (lv_at hl 2 rfl) ?_
          refine zi_ge (tgt := 127) hx hb hF dX0_follow_94 (by decide) (fun hF => ?_) (fun hF => ?_)
          · refine lv_aload_n hx hb dX0_follow_127 rfl (lv_at hl 1 rfl) ?_
            refine va_get (ci := 0) (C := RX0) (T := TX0) (N := 7) (fs := (zCo a (ta 0) c_2 c_3 c_4 c_5)) (v := .ref (ta 0)) hx hb hts iX0 hown hK hP _ (zat_l (wCo_at0 cy a (ta 0) sn_21 sb_22 c_2 c_3 c_4 c_5)) rfl 0 (by decide) k12 (fun _ h9 => h9) rfl dX0_follow_128 ?_
            refine z_cVv (b := ta 0) (As := []) (rest := []) (wc := (wLn cy ta s34.2.2.2)) (wcf := fun o' => (wLn cy ta o')) (wf := fun o' => ((wCo cy a (ta 0) sn_21 sb_22 c_2 c_3 c_4 c_5) ++ ((wLn cy ta o') ++ (wLn cy b v)))) hF (fun o' hz => c_X1_runTick l G cy st ta s34.2.2.2 o' hz) (fun o' => (zCut_r (zCut_l zCut_all))) ⟨hx, hb, hml, hown, hts⟩ (cwV 0 hts gX0_follow_X1_runTick rfl rfl rfl (by decide +kernel) ⟨by decide, by decide⟩) (ci := 1) (q0 := 0) rfl (wLn_at0 cy ta s34.2.2.2) hK hSE hA hP hD hS rfl hl.1 rfl (Nat.le_of_ble_eq_true rfl) dX0_follow_131 ⟨Nat.le_refl _, Nat.le_refl _⟩ (fun o24 hF H locs hP hD hS => ?_)
            refine z_name hF (fun x25 ex25 hF => ?_)
            refine lv_iinc (v := x25) (lv' := [(2, .int x25), (3, .int o23), (0, .ref (a 0))]) hx hb dX0_follow_134 hl (k := 2) rfl (by rw [ex25]; rfl) (by decide) rfl (fun ls hl => ?_)
            refine lv_goto (tgt := 34) hx hb dX0_follow_137 (by decide) ?_
            exact ih34 (x25, sn_21, sb_22, o24) _ _ ls hP hD hS (lv_sub hl [2, 0] rfl) hF
          · exact J97 s34.1 o23 sn_21 sb_22 s34.2.2.2 _ _ ls hP hD hS (lv_sub hl [1, 2, 0] rfl) hF
        · exact J51 s34.1 s34.2.1 s34.2.2.1 s34.2.2.2 _ _ ls hP hD hS (lv_sub hl [0, 1] rfl) hF
  exact L34 1000 (0, sn, sb, o1) _ _ ls hP hD hS (lv_sub hl [1, 0] rfl) hF
