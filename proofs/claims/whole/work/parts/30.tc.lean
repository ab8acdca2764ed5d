/-! ===== 30.tc: laid by a program out of the decode rows ===== -/
def j_X7_best_18 (sp : Nat → Int32) (sq : Nat → Int32) (v : R2) (x01 : Int32) : Option (Int32 × (Nat → Int32) × (Nat → Int32) × Int32) :=
zbd (f_X3_start sp sq v) fun o1 =>
if x01 = (-1 : Int32) then (
some (o1.2.2, o1.1, o1.2.1, o1.2.2)) else (
zg (zin x01 4) (
some (((o1.2.1 (zn x01)) + 1000), o1.1, o1.2.1, o1.2.2)))
def f_X7_best (sp : Nat → Int32) (sq : Nat → Int32) (sk : Int32) (v : R2) (x01 : Int32) : Option (Int32 × (Nat → Int32) × (Nat → Int32) × Int32) :=
if x01 = (-1 : Int32) then (
j_X7_best_18 sp sq v x01) else (
zbd (f_X1_has v x01) fun o2 =>
if o2 = 0 then (
some ((-1), sp, sq, sk)) else (
j_X7_best_18 sp sq v x01))
set_option maxHeartbeats 4000000 in
set_option maxRecDepth 100000 in
theorem c_X7_best (l : Launch) (G : va_G) (cy : Nat → ClassId) (st : Nat → Nat) (x : Nat) (ta : Nat → Nat) (pa : Nat → Nat) (la : Nat → Nat → Nat) (ca : Nat → Nat) (ra : Nat → Nat) (sa : Nat → Nat) (na : Nat → Nat) (da : Nat → Nat) (tl : Nat → Int32) (td : Nat → Int32) (tn : Int32) (tq : Int32) (pn : Int32) (pz : Int32) (pl : Nat → R2) (sn : Nat → Int64) (sb : Nat → Int32) (c0 : Int32) (c1 : Int32) (c2 : Int32) (c3 : Int32) (tv : R2) (sp : Nat → Int32) (sq : Nat → Int32) (sk : Int32) (v : R2) (u : R2) (x01 : Int32) (o : Int32 × (Nat → Int32) × (Nat → Int32) × Int32) (hF : f_X7_best sp sq sk v x01 = some o) : zMi l yX7_best wsX7_best (zR 10) G cy st [.ref x, .int x01] ((wTo cy x (ta 0) (na 0) (da 0) (pa 0) (ca 0) (sa 0)) ++ ((wTx cy ta tl td tn tq) ++ ((wPo cy pa la pn pz) ++ ((wLs cy la pl) ++ ((wCo cy ca (ra 0) sn sb c0 c1 c2 c3) ++ ((wLn cy ra tv) ++ ((wSe cy sa sp sq sk) ++ ((wLn cy na v) ++ (wLn cy da u))))))))) ((wTo cy x (ta 0) (na 0) (da 0) (pa 0) (ca 0) (sa 0)) ++ ((wTx cy ta tl td tn tq) ++ ((wPo cy pa la pn pz) ++ ((wLs cy la pl) ++ ((wCo cy ca (ra 0) sn sb c0 c1 c2 c3) ++ ((wLn cy ra tv) ++ ((wSe cy sa o.2.1 o.2.2.1 o.2.2.2) ++ ((wLn cy na v) ++ (wLn cy da u))))))))) o.1 := by
  refine zM_of (cc := cX7_best) (maxL := 2) (ret := (some .int)) (Qc := fun A => zQi G cy A ((wTo cy x (ta 0) (na 0) (da 0) (pa 0) (ca 0) (sa 0)) ++ ((wTx cy ta tl td tn tq) ++ ((wPo cy pa la pn pz) ++ ((wLs cy la pl) ++ ((wCo cy ca (ra 0) sn sb c0 c1 c2 c3) ++ ((wLn cy ra tv) ++ ((wSe cy sa o.2.1 o.2.2.1 o.2.2.2) ++ ((wLn cy na v) ++ (wLn cy da u))))))))) o.1) (by decide) rfl (Nat.le_of_ble_eq_true rfl) ?_
  intro p e s m below meth c A ls hx hb hml hr hlocks hown hts hK hSE hA hP hD hS hl
  have hown : s.vm.findClass RX7 = some m.cls := hown
  have hl : lv_has ls 2 [(0, .ref x), (1, .int x01)] := hl
  have k43 := hts (.fieldLink RX7 43 "TapCascade" "search" "LTapCascade$Search;") (by decide +kernel)
  have iX7 : ∀ w ∈ wsX70, w ∈ wsX7_best := fun w h => List.mem_cons_of_mem _ (List.mem_append_left _ (List.mem_append_left _ (List.mem_append_left _ (List.mem_append_right _ h))))
  have k19 := hts (.fieldLink RX7 19 "TapCascade" "line" "LTapCascade$Line;") (by decide +kernel)
  have k163 := hts (.fieldLink RX7 163 "TapCascade$Search" "bestTaps" "[I") (by decide +kernel)
  have iX3 : ∀ w ∈ wsX30, w ∈ wsX7_best := fun w h => List.mem_cons_of_mem _ (List.mem_append_left _ (List.mem_append_left _ (List.mem_append_right _ h)))
  have k160 := hts (.fieldLink RX7 160 "TapCascade$Search" "leastOff" "I") (by decide +kernel)
  unfold f_X7_best at hF
  refine lv_iload_n hx hb dX7_best_0 rfl (lv_at hl 1 rfl) ?_
  refine lv_iconst (v := (-1)) hx hb dX7_best_1 (by decide) ?_
  have J18 : ∀ (H : Heap) (locs : List Loc) (ls : Array Slot), va_P G vwCl ((wTo cy x (ta 0) (na 0) (da 0) (pa 0) (ca 0) (sa 0)) ++ ((wTx cy ta tl td tn tq) ++ ((wPo cy pa la pn pz) ++ ((wLs cy la pl) ++ ((wCo cy ca (ra 0) sn sb c0 c1 c2 c3) ++ ((wLn cy ra tv) ++ ((wSe cy sa sp sq sk) ++ ((wLn cy na v) ++ (wLn cy da u))))))))) H → va_D A ((wTo cy x (ta 0) (na 0) (da 0) (pa 0) (ca 0) (sa 0)) ++ ((wTx cy ta tl td tn tq) ++ ((wPo cy pa la pn pz) ++ ((wLs cy la pl) ++ ((wCo cy ca (ra 0) sn sb c0 c1 c2 c3) ++ ((wLn cy ra tv) ++ ((wSe cy sa sp sq sk) ++ ((wLn cy na v) ++ (wLn cy da u))))))))) → va_S A s.heap H locs → lv_has ls 2 [(0, .ref x), (1, .int x01)] → j_X7_best_18 sp sq v x01 = some o → W p l e (zR 10) s m ([.ref x, .int x01] : List Value).toArray below meth c H locs 0 0 (MQ below (zQi G cy A ((wTo cy x (ta 0) (na 0) (da 0) (pa 0) (ca 0) (sa 0)) ++ ((wTx cy ta tl td tn tq) ++ ((wPo cy pa la pn pz) ++ ((wLs cy la pl) ++ ((wCo cy ca (ra 0) sn sb c0 c1 c2 c3) ++ ((wLn cy ra tv) ++ ((wSe cy sa o.2.1 o.2.2.1 o.2.2.2) ++ ((wLn cy na v) ++ (wLn cy da u))))))))) o.1) ([.ref x, .int x01] : List Value).toArray s 0 0 A) (F0 m 18 ls []) := by
    intro H locs ls hP hD hS hl hF
    unfold j_X7_best_18 at hF
    refine lv_aload_n hx hb dX7_best_18 rfl (lv_at hl 0 rfl) ?_
    refine va_get (ci := 7) (C := RX7) (T := TX7) (N := 6) (fs := (zTo x (ta 0) (na 0) (da 0) (pa 0) (ca 0) (sa 0))) (v := .ref (sa 0)) hx hb hts iX7 hown hK hP _ (zat_l (wTo_at0 cy x (ta 0) (na 0) (da 0) (pa 0) (ca 0) (sa 0))) rfl 5 (by decide) k43 (fun _ h9 => h9) rfl dX7_best_19 ?_
    refine lv_aload_n hx hb dX7_best_22 rfl (lv_at hl 0 rfl) ?_
    refine va_get (ci := 7) (C := RX7) (T := TX7) (N := 6) (fs := (zTo x (ta 0) (na 0) (da 0) (pa 0) (ca 0) (sa 0))) (v := .ref (na 0)) hx hb hts iX7 hown hK hP _ (zat_l (wTo_at0 cy x (ta 0) (na 0) (da 0) (pa 0) (ca 0) (sa 0))) rfl 1 (by decide) k19 (fun _ h9 => h9) rfl dX7_best_23 ?_
    refine z_cVv (b := sa 0) (As := [.ref (na 0)]) (rest := []) (wc := ((wSe cy sa sp sq sk) ++ (wLn cy na v))) (wcf := fun o' => ((wSe cy sa o'.1 o'.2.1 o'.2.2) ++ (wLn cy na v))) (wf := fun o' => ((wTo cy x (ta 0) (na 0) (da 0) (pa 0) (ca 0) (sa 0)) ++ ((wTx cy ta tl td tn tq) ++ ((wPo cy pa la pn pz) ++ ((wLs cy la pl) ++ ((wCo cy ca (ra 0) sn sb c0 c1 c2 c3) ++ ((wLn cy ra tv) ++ ((wSe cy sa o'.1 o'.2.1 o'.2.2) ++ ((wLn cy na v) ++ (wLn cy da u)))))))))) hF (fun o' hz => c_X3_start l G cy st sa na sp sq sk v o' hz) (fun o' => (zCut_r (zCut_r (zCut_r (zCut_r (zCut_r (zCut_r (zCut_b zCut_all (zCut_l zCut_all))))))))) ⟨hx, hb, hml, hown, hts⟩ (cwV 1 hts gX7_best_X3_start rfl rfl rfl (by decide +kernel) ⟨by decide, by decide⟩) (ci := 3) (q0 := 0) rfl (zat_l (wSe_at0 cy sa sp sq sk)) hK hSE hA hP hD hS rfl hl.1 rfl (Nat.le_of_ble_eq_true rfl) dX7_best_26 ⟨Nat.le_refl _, Nat.le_refl _⟩ (fun o1 hF H locs hP hD hS => ?_)
    refine lv_iload_n hx hb dX7_best_29 rfl (lv_at hl 1 rfl) ?_
    refine lv_iconst (v := (-1)) hx hb dX7_best_30 (by decide) ?_
    refine zi_ne (tgt := 44) hx hb hF dX7_best_31 (by decide) (fun hF => ?_) (fun hF => ?_)
    · refine lv_aload_n hx hb dX7_best_44 rfl (lv_at hl 0 rfl) ?_
      refine va_get (ci := 7) (C := RX7) (T := TX7) (N := 6) (fs := (zTo x (ta 0) (na 0) (da 0) (pa 0) (ca 0) (sa 0))) (v := .ref (sa 0)) hx hb hts iX7 hown hK hP _ (zat_l (wTo_at0 cy x (ta 0) (na 0) (da 0) (pa 0) (ca 0) (sa 0))) rfl 5 (by decide) k43 (fun _ h9 => h9) rfl dX7_best_45 ?_
      refine va_get (ci := 3) (C := RX3) (T := TX3) (N := 3) (fs := (zSe sa o1.2.2)) (v := .ref (sa 2)) hx hb hts iX3 hown hK hP _ (zat_r (wTo_len cy x (ta 0) (na 0) (da 0) (pa 0) (ca 0) (sa 0)) (zat_r (wTx_len cy ta tl td tn tq) (zat_r (wPo_len cy pa la pn pz) (zat_r (wLs_len cy la pl) (zat_r (wCo_len cy ca (ra 0) sn sb c0 c1 c2 c3) (zat_r (wLn_len cy ra tv) (zat_l (wSe_at0 cy sa o1.1 o1.2.1 o1.2.2)))))))) rfl 1 (by decide) k163 (fun _ h9 => h9) rfl dX7_best_48 ?_
      refine lv_iload_n hx hb dX7_best_51 rfl (lv_at hl 1 rfl) ?_
      refine z_iald (n := 4) (f := o1.2.1) hx hb hK hP _ 1 (zat_r (wTo_len cy x (ta 0) (na 0) (da 0) (pa 0) (ca 0) (sa 0)) (zat_r (wTx_len cy ta tl td tn tq) (zat_r (wPo_len cy pa la pn pz) (zat_r (wLs_len cy la pl) (zat_r (wCo_len cy ca (ra 0) sn sb c0 c1 c2 c3) (zat_r (wLn_len cy ra tv) (zat_l (wSe_at2 cy sa o1.1 o1.2.1 o1.2.2)))))))) rfl hF dX7_best_52 (fun hF => ?_)
      refine lv_sipush (v := 1000) hx hb dX7_best_53 (by decide) ?_
      refine lv_iadd hx hb dX7_best_56 ?_
      refine z_iret (o := o) (o1 := (((o1.2.1 (zn x01)) + 1000), o1.1, o1.2.1, o1.2.2)) (v := ((o1.2.1 (zn x01)) + 1000)) (wf := (fun o => ((wTo cy x (ta 0) (na 0) (da 0) (pa 0) (ca 0) (sa 0)) ++ ((wTx cy ta tl td tn tq) ++ ((wPo cy pa la pn pz) ++ ((wLs cy la pl) ++ ((wCo cy ca (ra 0) sn sb c0 c1 c2 c3) ++ ((wLn cy ra tv) ++ ((wSe cy sa o.2.1 o.2.2.1 o.2.2.2) ++ ((wLn cy na v) ++ (wLn cy da u))))))))))) (rf := fun o => o.1) hx hb hr hlocks hK ?_ ?_ hS ?_ rfl dX7_best_57
      · exact hP
      · exact hD
      · exact hF
    · refine lv_aload_n hx hb dX7_best_34 rfl (lv_at hl 0 rfl) ?_
      refine va_get (ci := 7) (C := RX7) (T := TX7) (N := 6) (fs := (zTo x (ta 0) (na 0) (da 0) (pa 0) (ca 0) (sa 0))) (v := .ref (sa 0)) hx hb hts iX7 hown hK hP _ (zat_l (wTo_at0 cy x (ta 0) (na 0) (da 0) (pa 0) (ca 0) (sa 0))) rfl 5 (by decide) k43 (fun _ h9 => h9) rfl dX7_best_35 ?_
      refine va_get (ci := 3) (C := RX3) (T := TX3) (N := 3) (fs := (zSe sa o1.2.2)) (v := .int o1.2.2) hx hb hts iX3 hown hK hP _ (zat_r (wTo_len cy x (ta 0) (na 0) (da 0) (pa 0) (ca 0) (sa 0)) (zat_r (wTx_len cy ta tl td tn tq) (zat_r (wPo_len cy pa la pn pz) (zat_r (wLs_len cy la pl) (zat_r (wCo_len cy ca (ra 0) sn sb c0 c1 c2 c3) (zat_r (wLn_len cy ra tv) (zat_l (wSe_at0 cy sa o1.1 o1.2.1 o1.2.2)))))))) rfl 2 (by decide) k160 (fun _ h9 => h9) rfl dX7_best_38 ?_
      refine lv_goto (tgt := 57) hx hb dX7_best_41 (by decide) ?_
      refine z_iret (o := o) (o1 := (o1.2.2, o1.1, o1.2.1, o1.2.2)) (v := o1.2.2) (wf := (fun o => ((wTo cy x (ta 0) (na 0) (da 0) (pa 0) (ca 0) (sa 0)) ++ ((wTx cy ta tl td tn tq) ++ ((wPo cy pa la pn pz) ++ ((wLs cy la pl) ++ ((wCo cy ca (ra 0) sn sb c0 c1 c2 c3) ++ ((wLn cy ra tv) ++ ((wSe cy sa o.2.1 o.2.2.1 o.2.2.2) ++ ((wLn cy na v) ++ (wLn cy da u))))))))))) (rf := fun o => o.1) hx hb hr hlocks hK ?_ ?_ hS ?_ rfl dX7_best_57
      · exact hP
      · exact hD
      · exact hF
  refine zi_eq (tgt := 18) hx hb hF dX7_best_2 (by decide) (fun hF => ?_) (fun hF => ?_)
  · exact J18 _ _ ls hP hD hS (lv_sub hl [0, 1] rfl) hF
  · refine lv_aload_n hx hb dX7_best_5 rfl (lv_at hl 0 rfl) ?_
    refine va_get (ci := 7) (C := RX7) (T := TX7) (N := 6) (fs := (zTo x (ta 0) (na 0) (da 0) (pa 0) (ca 0) (sa 0))) (v := .ref (na 0)) hx hb hts iX7 hown hK hP _ (zat_l (wTo_at0 cy x (ta 0) (na 0) (da 0) (pa 0) (ca 0) (sa 0))) rfl 1 (by decide) k19 (fun _ h9 => h9) rfl dX7_best_6 ?_
    refine lv_iload_n hx hb dX7_best_9 rfl (lv_at hl 1 rfl) ?_
    refine z_cVi (b := na 0) (As := [.int x01]) (rest := []) (wc := (wLn cy na v)) (wcf := fun o' => (wLn cy na v)) (wf := fun o' => ((wTo cy x (ta 0) (na 0) (da 0) (pa 0) (ca 0) (sa 0)) ++ ((wTx cy ta tl td tn tq) ++ ((wPo cy pa la pn pz) ++ ((wLs cy la pl) ++ ((wCo cy ca (ra 0) sn sb c0 c1 c2 c3) ++ ((wLn cy ra tv) ++ ((wSe cy sa sp sq sk) ++ ((wLn cy na v) ++ (wLn cy da u)))))))))) (rf := fun o' => o') hF (fun o' hz => c_X1_has l G cy st na v x01 o' hz) (fun o' => (zCut_r (zCut_r (zCut_r (zCut_r (zCut_r (zCut_r (zCut_r (zCut_l zCut_all))))))))) ⟨hx, hb, hml, hown, hts⟩ (cwV 1 hts gX7_best_X1_has rfl rfl rfl (by decide +kernel) ⟨by decide, by decide⟩) (ci := 1) (q0 := 0) rfl (wLn_at0 cy na v) hK hSE hA hP hD hS rfl hl.1 rfl (Nat.le_of_ble_eq_true rfl) dX7_best_10 ⟨Nat.le_refl _, Nat.le_refl _⟩ (fun o2 hF H locs hP hD hS => ?_)
    refine zf_ne (tgt := 18) hx hb hF dX7_best_13 (by decide) (fun hF => ?_) (fun hF => ?_)
    · exact J18 _ _ ls hP hD hS (lv_sub hl [0, 1] rfl) hF
    · refine lv_iconst (v := (-1)) hx hb dX7_best_16 (by decide) ?_
      refine z_iret (o := o) (o1 := ((-1), sp, sq, sk)) (v := (-1)) (wf := (fun o => ((wTo cy x (ta 0) (na 0) (da 0) (pa 0) (ca 0) (sa 0)) ++ ((wTx cy ta tl td tn tq) ++ ((wPo cy pa la pn pz) ++ ((wLs cy la pl) ++ ((wCo cy ca (ra 0) sn sb c0 c1 c2 c3) ++ ((wLn cy ra tv) ++ ((wSe cy sa o.2.1 o.2.2.1 o.2.2.2) ++ ((wLn cy na v) ++ (wLn cy da u))))))))))) (rf := fun o => o.1) hx hb hr hlocks hK ?_ ?_ hS ?_ rfl dX7_best_17
      · exact hP
      · exact hD
      · exact hF
def f_X7_isGrade (x01 : Int32) : Option (Int32) :=
if x01 < 0 then (
some 0) else (
if (9 : Int32) < x01 then (
some 0) else (
some 1))
set_option maxHeartbeats 4000000 in
set_option maxRecDepth 100000 in
theorem c_X7_isGrade (l : Launch) (G : va_G) (cy : Nat → ClassId) (st : Nat → Nat) (x01 : Int32) (o : Int32) (hF : f_X7_isGrade x01 = some o) : zMi l yX7_isGrade wsX7_isGrade (zR 1) G cy st [.int x01] ([] : va_W) ([] : va_W) o := by
  refine zM_of (cc := cX7_isGrade) (maxL := 1) (ret := (some .boolean)) (Qc := fun A => zQi G cy A ([] : va_W) o) (by decide) rfl (Nat.le_of_ble_eq_true rfl) ?_
  intro p e s m below meth c A ls hx hb hml hr hlocks hown hts hK hSE hA hP hD hS hl
  have hown : s.vm.findClass RX7 = some m.cls := hown
  have hl : lv_has ls 1 [(0, .int x01)] := hl
  unfold f_X7_isGrade at hF
  refine lv_iload_n hx hb dX7_isGrade_0 rfl (lv_at hl 0 rfl) ?_
  refine zf_lt (tgt := 14) hx hb hF dX7_isGrade_1 (by decide) (fun hF => ?_) (fun hF => ?_)
  · refine lv_iconst (v := 0) hx hb dX7_isGrade_14 (by decide) ?_
    refine z_zret (o := o) (o1 := 0) (v := 0) (wf := (fun o => ([] : va_W))) (rf := fun o => o) hx hb hr hlocks hK ?_ ?_ hS ?_ rfl rfl dX7_isGrade_15
    · exact hP
    · exact hD
    · exact hF
  · refine lv_iload_n hx hb dX7_isGrade_4 rfl (lv_at hl 0 rfl) ?_
    refine lv_bipush (v := 9) hx hb dX7_isGrade_5 (by decide) ?_
    refine zi_gt (tgt := 14) hx hb hF dX7_isGrade_7 (by decide) (fun hF => ?_) (fun hF => ?_)
    · refine lv_iconst (v := 0) hx hb dX7_isGrade_14 (by decide) ?_
      refine z_zret (o := o) (o1 := 0) (v := 0) (wf := (fun o => ([] : va_W))) (rf := fun o => o) hx hb hr hlocks hK ?_ ?_ hS ?_ rfl rfl dX7_isGrade_15
      · exact hP
      · exact hD
      · exact hF
    · refine lv_iconst (v := 1) hx hb dX7_isGrade_10 (by decide) ?_
      refine lv_goto (tgt := 15) hx hb dX7_isGrade_11 (by decide) ?_
      refine z_zret (o := o) (o1 := 1) (v := 1) (wf := (fun o => ([] : va_W))) (rf := fun o => o) hx hb hr hlocks hK ?_ ?_ hS ?_ rfl rfl dX7_isGrade_15
      · exact hP
      · exact hD
      · exact hF
def f_X7_mayBeTold (x01 : Int32) (x02 : Int32) : Option (Int32) :=
if x01 = 0 then (
if x02 < (950 : Int32) then (
some 0) else (
if (1050 : Int32) < x02 then (
some 0) else (
some 1))) else (
if x01 = 1 then (
if x02 < (995 : Int32) then (
some 0) else (
if (1005 : Int32) < x02 then (
some 0) else (
some 1))) else (
if x01 = 2 then (
if x02 < (1 : Int32) then (
some 0) else (
if (9 : Int32) < x02 then (
some 0) else (
some 1))) else (
some 0)))
set_option maxHeartbeats 4000000 in
set_option maxRecDepth 100000 in
theorem c_X7_mayBeTold (l : Launch) (G : va_G) (cy : Nat → ClassId) (st : Nat → Nat) (x01 : Int32) (x02 : Int32) (o : Int32) (hF : f_X7_mayBeTold x01 x02 = some o) : zMi l yX7_mayBeTold wsX7_mayBeTold (zR 1) G cy st [.int x01, .int x02] ([] : va_W) ([] : va_W) o := by
  refine zM_of (cc := cX7_mayBeTold) (maxL := 2) (ret := (some .boolean)) (Qc := fun A => zQi G cy A ([] : va_W) o) (by decide) rfl (Nat.le_of_ble_eq_true rfl) ?_
  intro p e s m below meth c A ls hx hb hml hr hlocks hown hts hK hSE hA hP hD hS hl
  have hown : s.vm.findClass RX7 = some m.cls := hown
  have hl : lv_has ls 2 [(0, .int x01), (1, .int x02)] := hl
  unfold f_X7_mayBeTold at hF
  refine lv_iload_n hx hb dX7_mayBeTold_0 rfl (lv_at hl 0 rfl) ?_
  by_cases h1 : x01 = 0
  · have hF := (if_pos h1).symm.trans hF
    refine lv_tableIn (off := 27) (tgt := 28) hx hb dX7_mayBeTold_1 (by rw [h1]; decide) (by rw [h1]; decide) (by rw [h1]; decide) (by decide) ?_
    refine lv_iload_n hx hb dX7_mayBeTold_28 rfl (lv_at hl 1 rfl) ?_
    refine lv_sipush (v := 950) hx hb dX7_mayBeTold_29 (by decide) ?_
    refine zi_lt (tgt := 46) hx hb hF dX7_mayBeTold_32 (by decide) (fun hF => ?_) (fun hF => ?_)
    · refine lv_iconst (v := 0) hx hb dX7_mayBeTold_46 (by decide) ?_
      refine z_zret (o := o) (o1 := 0) (v := 0) (wf := (fun o => ([] : va_W))) (rf := fun o => o) hx hb hr hlocks hK ?_ ?_ hS ?_ rfl rfl dX7_mayBeTold_47
      · exact hP
      · exact hD
      · exact hF
    · refine lv_iload_n hx hb dX7_mayBeTold_35 rfl (lv_at hl 1 rfl) ?_
      refine lv_sipush (v := 1050) hx hb dX7_mayBeTold_36 (by decide) ?_
      refine zi_gt (tgt := 46) hx hb hF dX7_mayBeTold_39 (by decide) (fun hF => ?_) (fun hF => ?_)
      · refine lv_iconst (v := 0) hx hb dX7_mayBeTold_46 (by decide) ?_
        refine z_zret (o := o) (o1 := 0) (v := 0) (wf := (fun o => ([] : va_W))) (rf := fun o => o) hx hb hr hlocks hK ?_ ?_ hS ?_ rfl rfl dX7_mayBeTold_47
        · exact hP
        · exact hD
        · exact hF
      · refine lv_iconst (v := 1) hx hb dX7_mayBeTold_42 (by decide) ?_
        refine lv_goto (tgt := 47) hx hb dX7_mayBeTold_43 (by decide) ?_
        refine z_zret (o := o) (o1 := 1) (v := 1) (wf := (fun o => ([] : va_W))) (rf := fun o => o) hx hb hr hlocks hK ?_ ?_ hS ?_ rfl rfl dX7_mayBeTold_47
        · exact hP
        · exact hD
        · exact hF
  have hF := (if_neg h1).symm.trans hF
  by_cases h2 : x01 = 1
  · have hF := (if_pos h2).symm.trans hF
    refine lv_tableIn (off := 47) (tgt := 48) hx hb dX7_mayBeTold_1 (by rw [h2]; decide) (by rw [h2]; decide) (by rw [h2]; decide) (by decide) ?_
    refine lv_iload_n hx hb dX7_mayBeTold_48 rfl (lv_at hl 1 rfl) ?_
    refine lv_sipush (v := 995) hx hb dX7_mayBeTold_49 (by decide) ?_
    refine zi_lt (tgt := 66) hx hb hF dX7_mayBeTold_52 (by decide) (fun hF => ?_) (fun hF => ?_)
    · refine lv_iconst (v := 0) hx hb dX7_mayBeTold_66 (by decide) ?_
      refine z_zret (o := o) (o1 := 0) (v := 0) (wf := (fun o => ([] : va_W))) (rf := fun o => o) hx hb hr hlocks hK ?_ ?_ hS ?_ rfl rfl dX7_mayBeTold_67
      · exact hP
      · exact hD
      · exact hF
    · refine lv_iload_n hx hb dX7_mayBeTold_55 rfl (lv_at hl 1 rfl) ?_
      refine lv_sipush (v := 1005) hx hb dX7_mayBeTold_56 (by decide) ?_
      refine zi_gt (tgt := 66) hx hb hF dX7_mayBeTold_59 (by decide) (fun hF => ?_) (fun hF => ?_)
      · refine lv_iconst (v := 0) hx hb dX7_mayBeTold_66 (by decide) ?_
        refine z_zret (o := o) (o1 := 0) (v := 0) (wf := (fun o => ([] : va_W))) (rf := fun o => o) hx hb hr hlocks hK ?_ ?_ hS ?_ rfl rfl dX7_mayBeTold_67
        · exact hP
        · exact hD
        · exact hF
      · refine lv_iconst (v := 1) hx hb dX7_mayBeTold_62 (by decide) ?_
        refine lv_goto (tgt := 67) hx hb dX7_mayBeTold_63 (by decide) ?_
        refine z_zret (o := o) (o1 := 1) (v := 1) (wf := (fun o => ([] : va_W))) (rf := fun o => o) hx hb hr hlocks hK ?_ ?_ hS ?_ rfl rfl dX7_mayBeTold_67
        · exact hP
        · exact hD
        · exact hF
  have hF := (if_neg h2).symm.trans hF
  by_cases h3 : x01 = 2
  · have hF := (if_pos h3).symm.trans hF
    refine lv_tableIn (off := 67) (tgt := 68) hx hb dX7_mayBeTold_1 (by rw [h3]; decide) (by rw [h3]; decide) (by rw [h3]; decide) (by decide) ?_
    refine lv_iload_n hx hb dX7_mayBeTold_68 rfl (lv_at hl 1 rfl) ?_
    refine lv_iconst (v := 1) hx hb dX7_mayBeTold_69 (by decide) ?_
    refine zi_lt (tgt := 83) hx hb hF dX7_mayBeTold_70 (by decide) (fun hF => ?_) (fun hF => ?_)
    · refine lv_iconst (v := 0) hx hb dX7_mayBeTold_83 (by decide) ?_
      refine z_zret (o := o) (o1 := 0) (v := 0) (wf := (fun o => ([] : va_W))) (rf := fun o => o) hx hb hr hlocks hK ?_ ?_ hS ?_ rfl rfl dX7_mayBeTold_84
      · exact hP
      · exact hD
      · exact hF
    · refine lv_iload_n hx hb dX7_mayBeTold_73 rfl (lv_at hl 1 rfl) ?_
      refine lv_bipush (v := 9) hx hb dX7_mayBeTold_74 (by decide) ?_
      refine zi_gt (tgt := 83) hx hb hF dX7_mayBeTold_76 (by decide) (fun hF => ?_) (fun hF => ?_)
      · refine lv_iconst (v := 0) hx hb dX7_mayBeTold_83 (by decide) ?_
        refine z_zret (o := o) (o1 := 0) (v := 0) (wf := (fun o => ([] : va_W))) (rf := fun o => o) hx hb hr hlocks hK ?_ ?_ hS ?_ rfl rfl dX7_mayBeTold_84
        · exact hP
        · exact hD
        · exact hF
      · refine lv_iconst (v := 1) hx hb dX7_mayBeTold_79 (by decide) ?_
        refine lv_goto (tgt := 84) hx hb dX7_mayBeTold_80 (by decide) ?_
        refine z_zret (o := o) (o1 := 1) (v := 1) (wf := (fun o => ([] : va_W))) (rf := fun o => o) hx hb hr hlocks hK ?_ ?_ hS ?_ rfl rfl dX7_mayBeTold_84
        · exact hP
        · exact hD
        · exact hF
  have hF := (if_neg h3).symm.trans hF
  refine lv_tableOut (x := x01) (tgt := 85) hx hb dX7_mayBeTold_1 (by have q0 := lv_neT (a := 0) h1 (by decide); have q1 := lv_neT (a := 1) h2 (by decide); have q2 := lv_neT (a := 2) h3 (by decide); omega) (by decide) ?_
  refine lv_iconst (v := 0) hx hb dX7_mayBeTold_85 (by decide) ?_
  refine z_zret (o := o) (o1 := 0) (v := 0) (wf := (fun o => ([] : va_W))) (rf := fun o => o) hx hb hr hlocks hK ?_ ?_ hS ?_ rfl rfl dX7_mayBeTold_86
  · exact hP
  · exact hD
  · exact hF
def b_X7_greatestCommon_3 (rc3 : (Int64 × Int64 × Int32) → Option (Int64)) (s3 : Int64 × Int64 × Int32) : Option (Int64) :=
if (100 : Int32) ≤ s3.2.2 then (
some s3.1) else (
if (lg_cmp s3.2.1 0) = 0 then (
some s3.1) else (
zg (decide (¬ s3.2.1 = 0)) (
zlet (s3.1 - s3.1 / s3.2.1 * s3.2.1) fun x2 =>
zlet (s3.2.2 + 1) fun x3 =>
rc3 (s3.2.1, x2, x3))))
def f_X7_greatestCommon (x01 : Int64) (x02 : Int64) : Option (Int64) :=
zloop (b_X7_greatestCommon_3) 1000 (x01, x02, 0)
set_option maxHeartbeats 4000000 in
set_option maxRecDepth 100000 in
theorem c_X7_greatestCommon (l : Launch) (G : va_G) (cy : Nat → ClassId) (st : Nat → Nat) (x01 : Int64) (x02 : Int64) (o : Int64) (hF : f_X7_greatestCommon x01 x02 = some o) : zMl l yX7_greatestCommon wsX7_greatestCommon (zR 1) G cy st [.long x01, .long x02] ([] : va_W) ([] : va_W) o := by
  refine zM_of (cc := cX7_greatestCommon) (maxL := 7) (ret := (some .long)) (Qc := fun A => zQl G cy A ([] : va_W) o) (by decide) rfl (Nat.le_of_ble_eq_true rfl) ?_
  intro p e s m below meth c A ls hx hb hml hr hlocks hown hts hK hSE hA hP hD hS hl
  have hown : s.vm.findClass RX7 = some m.cls := hown
  have hl : lv_has ls 7 [(0, .long x01), (2, .long x02)] := hl
  unfold f_X7_greatestCommon at hF
  refine lv_iconst (v := 0) hx hb dX7_greatestCommon_0 (by decide) ?_
  refine lv_istore (lv' := [(4, .int 0), (0, .long x01), (2, .long x02)]) hx hb dX7_greatestCommon_1 hl (by decide) rfl (fun ls hl => ?_)
  have L3 : ∀ (n : Nat) (s3 : Int64 × Int64 × Int32) (H : Heap) (locs : List Loc) (ls : Array Slot), va_P G vwCl ([] : va_W) H → va_D A ([] : va_W) → va_S A s.heap H locs → lv_has ls 7 [(0, .long s3.1), (2, .long s3.2.1), (4, .int s3.2.2)] → zloop (b_X7_greatestCommon_3) n s3 = some o → W p l e (zR 1) s m ([.long x01, .long x02] : List Value).toArray below meth c H locs 0 0 (MQ below (zQl G cy A ([] : va_W) o) ([.long x01, .long x02] : List Value).toArray s 0 0 A) (F0 m 3 ls []) := by
    intro n
    induction n with
    | zero => exact fun s3 H locs ls _ _ _ _ hF => (zloop_0 hF).elim
    | succ n ih3 =>
      intro s3 H locs ls hP hD hS hl hF
      have hF : b_X7_greatestCommon_3 (zloop (b_X7_greatestCommon_3) n) s3 = some o := hF
      generalize zloop (b_X7_greatestCommon_3) n = rc3 at ih3 hF
      unfold b_X7_greatestCommon_3 at hF
      refine lv_iload hx hb dX7_greatestCommon_3 (lv_at hl 2 rfl) ?_
      refine lv_bipush (v := 100) hx hb dX7_greatestCommon_5 (by decide) ?_
      refine zi_ge (tgt := 32) hx hb hF dX7_greatestCommon_7 (by decide) (fun hF => ?_) (fun hF => ?_)
      · refine lv_lload_n hx hb dX7_greatestCommon_32 rfl (lv_at hl 0 rfl) ?_
        refine z_lret (o := o) (o1 := s3.1) (v := s3.1) (wf := (fun o => ([] : va_W))) (rf := fun o => o) hx hb hr hlocks hK ?_ ?_ hS ?_ rfl dX7_greatestCommon_33
        · exact hP
        · exact hD
        · exact hF
      · refine lv_lload_n hx hb dX7_greatestCommon_10 rfl (lv_at hl 1 rfl) ?_
        refine lv_lconst (v := 0) hx hb dX7_greatestCommon_11 (by decide) ?_
        refine W.lcmp hx hb dX7_greatestCommon_12 ?_
        refine zf_eq (tgt := 32) hx hb hF dX7_greatestCommon_13 (by decide) (fun hF => ?_) (fun hF => ?_)
        · refine lv_lload_n hx hb dX7_greatestCommon_32 rfl (lv_at hl 0 rfl) ?_
          refine z_lret (o := o) (o1 := s3.1) (v := s3.1) (wf := (fun o => ([] : va_W))) (rf := fun o => o) hx hb hr hlocks hK ?_ ?_ hS ?_ rfl dX7_greatestCommon_33
          · exact hP
          · exact hD
          · exact hF
        · refine lv_lload_n hx hb dX7_greatestCommon_16 rfl (lv_at hl 0 rfl) ?_
          refine lv_lload_n hx hb dX7_greatestCommon_17 rfl (lv_at hl 1 rfl) ?_
          obtain ⟨g1, hF⟩ := zg_some hF
          refine lv_lrem hx hb dX7_greatestCommon_18 (of_decide_eq_true g1) ?_
          refine z_letl hF (fun x2 hF => ?_)
          refine lv_lstore (lv' := [(5, .long x2), (0, .long s3.1), (2, .long s3.2.1), (4, .int s3.2.2)]) hx hb dX7_greatestCommon_19 hl (by decide) rfl (fun ls hl => ?_)
          refine lv_lload_n hx hb dX7_greatestCommon_21 rfl (lv_at hl 2 rfl) ?_
          refine lv_lstore_n (lv' := [(0, .long s3.2.1), (5, .long x2), (2, .long s3.2.1), (4, .int s3.2.2)]) hx hb dX7_greatestCommon_22 rfl hl (by decide) rfl (fun ls hl => ?_)
          refine lv_lload hx hb dX7_greatestCommon_23 (lv_at hl 1 rfl) ?_
          refine lv_lstore_n (lv' := [(2, .long x2), (0, .long s3.2.1), (5, .long x2), (4, .int s3.2.2)]) hx hb dX7_greatestCommon_25 rfl hl (by decide) rfl (fun ls hl => ?_)
          refine z_name hF (fun x3 ex3 hF => ?_)
          refine lv_iinc (v := x3) (lv' := [(4, .int x3), (2, .long x2), (0, .long s3.2.1), (5, .long x2)]) hx hb dX7_greatestCommon_26 hl (k := 3) rfl (by rw [ex3]; rfl) (by decide) rfl (fun ls hl => ?_)
          refine lv_goto (tgt := 3) hx hb dX7_greatestCommon_29 (by decide) ?_
          exact ih3 (s3.2.1, x2, x3) _ _ ls hP hD hS (lv_sub hl [2, 1, 0] rfl) hF
  exact L3 1000 (x01, x02, 0) _ _ ls hP hD hS (lv_sub hl [1, 2, 0] rfl) hF
def f_X7_write (tl : Nat → Int32) (tn : Int32) (x01 : Int32) : Option (Int32 × (Nat → Int32) × Int32) :=
if x01 < (32 : Int32) then (
some ((-1), tl, tn)) else (
if x01 ≤ (126 : Int32) then (
zbd (f_X6_append tl tn x01) fun o1 =>
if o1.1 = 0 then (
some ((-3), o1.2.1, o1.2.2)) else (
some (o1.2.2, o1.2.1, o1.2.2))) else (
some ((-1), tl, tn)))
set_option maxHeartbeats 4000000 in
set_option maxRecDepth 100000 in
theorem c_X7_write (l : Launch) (G : va_G) (cy : Nat → ClassId) (st : Nat → Nat) (x : Nat) (ta : Nat → Nat) (pa : Nat → Nat) (la : Nat → Nat → Nat) (ca : Nat → Nat) (ra : Nat → Nat) (sa : Nat → Nat) (na : Nat → Nat) (da : Nat → Nat) (tl : Nat → Int32) (td : Nat → Int32) (tn : Int32) (tq : Int32) (pn : Int32) (pz : Int32) (pl : Nat → R2) (sn : Nat → Int64) (sb : Nat → Int32) (c0 : Int32) (c1 : Int32) (c2 : Int32) (c3 : Int32) (tv : R2) (sp : Nat → Int32) (sq : Nat → Int32) (sk : Int32) (v : R2) (u : R2) (x01 : Int32) (o : Int32 × (Nat → Int32) × Int32) (hF : f_X7_write tl tn x01 = some o) : zMi l yX7_write wsX7_write (zR 2) G cy st [.ref x, .int x01] ((wTo cy x (ta 0) (na 0) (da 0) (pa 0) (ca 0) (sa 0)) ++ ((wTx cy ta tl td tn tq) ++ ((wPo cy pa la pn pz) ++ ((wLs cy la pl) ++ ((wCo cy ca (ra 0) sn sb c0 c1 c2 c3) ++ ((wLn cy ra tv) ++ ((wSe cy sa sp sq sk) ++ ((wLn cy na v) ++ (wLn cy da u))))))))) ((wTo cy x (ta 0) (na 0) (da 0) (pa 0) (ca 0) (sa 0)) ++ ((wTx cy ta o.2.1 td o.2.2 tq) ++ ((wPo cy pa la pn pz) ++ ((wLs cy la pl) ++ ((wCo cy ca (ra 0) sn sb c0 c1 c2 c3) ++ ((wLn cy ra tv) ++ ((wSe cy sa sp sq sk) ++ ((wLn cy na v) ++ (wLn cy da u))))))))) o.1 := by
  refine zM_of (cc := cX7_write) (maxL := 2) (ret := (some .int)) (Qc := fun A => zQi G cy A ((wTo cy x (ta 0) (na 0) (da 0) (pa 0) (ca 0) (sa 0)) ++ ((wTx cy ta o.2.1 td o.2.2 tq) ++ ((wPo cy pa la pn pz) ++ ((wLs cy la pl) ++ ((wCo cy ca (ra 0) sn sb c0 c1 c2 c3) ++ ((wLn cy ra tv) ++ ((wSe cy sa sp sq sk) ++ ((wLn cy na v) ++ (wLn cy da u))))))))) o.1) (by decide) rfl (Nat.le_of_ble_eq_true rfl) ?_
  intro p e s m below meth c A ls hx hb hml hr hlocks hown hts hK hSE hA hP hD hS hl
  have hown : s.vm.findClass RX7 = some m.cls := hown
  have hl : lv_has ls 2 [(0, .ref x), (1, .int x01)] := hl
  have k10 := hts (.fieldLink RX7 10 "TapCascade" "text" "LTapCascade$Text;") (by decide +kernel)
  have iX7 : ∀ w ∈ wsX70, w ∈ wsX7_write := fun w h => List.mem_cons_of_mem _ (List.mem_append_left _ (List.mem_append_right _ h))
  have k71 := hts (.fieldLink RX7 71 "TapCascade$Text" "length" "I") (by decide +kernel)
  have iX6 : ∀ w ∈ wsX60, w ∈ wsX7_write := fun w h => List.mem_cons_of_mem _ (List.mem_append_right _ h)
  unfold f_X7_write at hF
  refine lv_iload_n hx hb dX7_write_0 rfl (lv_at hl 1 rfl) ?_
  refine lv_bipush (v := 32) hx hb dX7_write_1 (by decide) ?_
  refine zi_lt (tgt := 12) hx hb hF dX7_write_3 (by decide) (fun hF => ?_) (fun hF => ?_)
  · refine lv_iconst (v := (-1)) hx hb dX7_write_12 (by decide) ?_
    refine z_iret (o := o) (o1 := ((-1), tl, tn)) (v := (-1)) (wf := (fun o => ((wTo cy x (ta 0) (na 0) (da 0) (pa 0) (ca 0) (sa 0)) ++ ((wTx cy ta o.2.1 td o.2.2 tq) ++ ((wPo cy pa la pn pz) ++ ((wLs cy la pl) ++ ((wCo cy ca (ra 0) sn sb c0 c1 c2 c3) ++ ((wLn cy ra tv) ++ ((wSe cy sa sp sq sk) ++ ((wLn cy na v) ++ (wLn cy da u))))))))))) (rf := fun o => o.1) hx hb hr hlocks hK ?_ ?_ hS ?_ rfl dX7_write_13
    · exact hP
    · exact hD
    · exact hF
  · refine lv_iload_n hx hb dX7_write_6 rfl (lv_at hl 1 rfl) ?_
    refine lv_bipush (v := 126) hx hb dX7_write_7 (by decide) ?_
    refine zi_le (tgt := 14) hx hb hF dX7_write_9 (by decide) (fun hF => ?_) (fun hF => ?_)
    · refine lv_aload_n hx hb dX7_write_14 rfl (lv_at hl 0 rfl) ?_
      refine va_get (ci := 7) (C := RX7) (T := TX7) (N := 6) (fs := (zTo x (ta 0) (na 0) (da 0) (pa 0) (ca 0) (sa 0))) (v := .ref (ta 0)) hx hb hts iX7 hown hK hP _ (zat_l (wTo_at0 cy x (ta 0) (na 0) (da 0) (pa 0) (ca 0) (sa 0))) rfl 0 (by decide) k10 (fun _ h9 => h9) rfl dX7_write_15 ?_
      refine lv_iload_n hx hb dX7_write_18 rfl (lv_at hl 1 rfl) ?_
      refine z_cVi (b := ta 0) (As := [.int x01]) (rest := []) (wc := (wTx cy ta tl td tn tq)) (wcf := fun o' => (wTx cy ta o'.2.1 td o'.2.2 tq)) (wf := fun o' => ((wTo cy x (ta 0) (na 0) (da 0) (pa 0) (ca 0) (sa 0)) ++ ((wTx cy ta o'.2.1 td o'.2.2 tq) ++ ((wPo cy pa la pn pz) ++ ((wLs cy la pl) ++ ((wCo cy ca (ra 0) sn sb c0 c1 c2 c3) ++ ((wLn cy ra tv) ++ ((wSe cy sa sp sq sk) ++ ((wLn cy na v) ++ (wLn cy da u)))))))))) (rf := fun o' => o'.1) hF (fun o' hz => c_X6_append l G cy st ta tl td tn tq x01 o' hz) (fun o' => (zCut_r (zCut_l zCut_all))) ⟨hx, hb, hml, hown, hts⟩ (cwV 1 hts gX7_write_X6_append rfl rfl rfl (by decide +kernel) ⟨by decide, by decide⟩) (ci := 6) (q0 := 0) rfl (wTx_at0 cy ta tl td tn tq) hK hSE hA hP hD hS rfl hl.1 rfl (Nat.le_of_ble_eq_true rfl) dX7_write_19 ⟨Nat.le_refl _, Nat.le_refl _⟩ (fun o1 hF H locs hP hD hS => ?_)
      refine zf_eq (tgt := 35) hx hb hF dX7_write_22 (by decide) (fun hF => ?_) (fun hF => ?_)
      · refine lv_bipush (v := (-3)) hx hb dX7_write_35 (by decide) ?_
        refine z_iret (o := o) (o1 := ((-3), o1.2.1, o1.2.2)) (v := (-3)) (wf := (fun o => ((wTo cy x (ta 0) (na 0) (da 0) (pa 0) (ca 0) (sa 0)) ++ ((wTx cy ta o.2.1 td o.2.2 tq) ++ ((wPo cy pa la pn pz) ++ ((wLs cy la pl) ++ ((wCo cy ca (ra 0) sn sb c0 c1 c2 c3) ++ ((wLn cy ra tv) ++ ((wSe cy sa sp sq sk) ++ ((wLn cy na v) ++ (wLn cy da u))))))))))) (rf := fun o => o.1) hx hb hr hlocks hK ?_ ?_ hS ?_ rfl dX7_write_37
        · exact hP
        · exact hD
        · exact hF
      · refine lv_aload_n hx hb dX7_write_25 rfl (lv_at hl 0 rfl) ?_
        refine va_get (ci := 7) (C := RX7) (T := TX7) (N := 6) (fs := (zTo x (ta 0) (na 0) (da 0) (pa 0) (ca 0) (sa 0))) (v := .ref (ta 0)) hx hb hts iX7 hown hK hP _ (zat_l (wTo_at0 cy x (ta 0) (na 0) (da 0) (pa 0) (ca 0) (sa 0))) rfl 0 (by decide) k10 (fun _ h9 => h9) rfl dX7_write_26 ?_
        refine va_get (ci := 6) (C := RX6) (T := TX6) (N := 4) (fs := (zTx ta o1.2.2 tq)) (v := .int o1.2.2) hx hb hts iX6 hown hK hP _ (zat_r (wTo_len cy x (ta 0) (na 0) (da 0) (pa 0) (ca 0) (sa 0)) (zat_l (wTx_at0 cy ta o1.2.1 td o1.2.2 tq))) rfl 2 (by decide) k71 (fun _ h9 => h9) rfl dX7_write_29 ?_
        refine lv_goto (tgt := 37) hx hb dX7_write_32 (by decide) ?_
        refine z_iret (o := o) (o1 := (o1.2.2, o1.2.1, o1.2.2)) (v := o1.2.2) (wf := (fun o => ((wTo cy x (ta 0) (na 0) (da 0) (pa 0) (ca 0) (sa 0)) ++ ((wTx cy ta o.2.1 td o.2.2 tq) ++ ((wPo cy pa la pn pz) ++ ((wLs cy la pl) ++ ((wCo cy ca (ra 0) sn sb c0 c1 c2 c3) ++ ((wLn cy ra tv) ++ ((wSe cy sa sp sq sk) ++ ((wLn cy na v) ++ (wLn cy da u))))))))))) (rf := fun o => o.1) hx hb hr hlocks hK ?_ ?_ hS ?_ rfl dX7_write_37
        · exact hP
        · exact hD
        · exact hF
    · refine lv_iconst (v := (-1)) hx hb dX7_write_12 (by decide) ?_
      refine z_iret (o := o) (o1 := ((-1), tl, tn)) (v := (-1)) (wf := (fun o => ((wTo cy x (ta 0) (na 0) (da 0) (pa 0) (ca 0) (sa 0)) ++ ((wTx cy ta o.2.1 td o.2.2 tq) ++ ((wPo cy pa la pn pz) ++ ((wLs cy la pl) ++ ((wCo cy ca (ra 0) sn sb c0 c1 c2 c3) ++ ((wLn cy ra tv) ++ ((wSe cy sa sp sq sk) ++ ((wLn cy na v) ++ (wLn cy da u))))))))))) (rf := fun o => o.1) hx hb hr hlocks hK ?_ ?_ hS ?_ rfl dX7_write_13
      · exact hP
      · exact hD
      · exact hF
def f_X7_wipe (tn : Int32) : Option (Int32 × Int32) :=
zlet 0 fun tn_1 =>
some (tn, tn_1)
set_option maxHeartbeats 4000000 in
set_option maxRecDepth 100000 in
theorem c_X7_wipe (l : Launch) (G : va_G) (cy : Nat → ClassId) (st : Nat → Nat) (x : Nat) (ta : Nat → Nat) (pa : Nat → Nat) (la : Nat → Nat → Nat) (ca : Nat → Nat) (ra : Nat → Nat) (sa : Nat → Nat) (na : Nat → Nat) (da : Nat → Nat) (tl : Nat → Int32) (td : Nat → Int32) (tn : Int32) (tq : Int32) (pn : Int32) (pz : Int32) (pl : Nat → R2) (sn : Nat → Int64) (sb : Nat → Int32) (c0 : Int32) (c1 : Int32) (c2 : Int32) (c3 : Int32) (tv : R2) (sp : Nat → Int32) (sq : Nat → Int32) (sk : Int32) (v : R2) (u : R2) (o : Int32 × Int32) (hF : f_X7_wipe tn = some o) : zMi l yX7_wipe wsX7_wipe (zR 1) G cy st [.ref x] ((wTo cy x (ta 0) (na 0) (da 0) (pa 0) (ca 0) (sa 0)) ++ ((wTx cy ta tl td tn tq) ++ ((wPo cy pa la pn pz) ++ ((wLs cy la pl) ++ ((wCo cy ca (ra 0) sn sb c0 c1 c2 c3) ++ ((wLn cy ra tv) ++ ((wSe cy sa sp sq sk) ++ ((wLn cy na v) ++ (wLn cy da u))))))))) ((wTo cy x (ta 0) (na 0) (da 0) (pa 0) (ca 0) (sa 0)) ++ ((wTx cy ta tl td o.2 tq) ++ ((wPo cy pa la pn pz) ++ ((wLs cy la pl) ++ ((wCo cy ca (ra 0) sn sb c0 c1 c2 c3) ++ ((wLn cy ra tv) ++ ((wSe cy sa sp sq sk) ++ ((wLn cy na v) ++ (wLn cy da u))))))))) o.1 := by
  refine zM_of (cc := cX7_wipe) (maxL := 2) (ret := (some .int)) (Qc := fun A => zQi G cy A ((wTo cy x (ta 0) (na 0) (da 0) (pa 0) (ca 0) (sa 0)) ++ ((wTx cy ta tl td o.2 tq) ++ ((wPo cy pa la pn pz) ++ ((wLs cy la pl) ++ ((wCo cy ca (ra 0) sn sb c0 c1 c2 c3) ++ ((wLn cy ra tv) ++ ((wSe cy sa sp sq sk) ++ ((wLn cy na v) ++ (wLn cy da u))))))))) o.1) (by decide) rfl (Nat.le_of_ble_eq_true rfl) ?_
  intro p e s m below meth c A ls hx hb hml hr hlocks hown hts hK hSE hA hP hD hS hl
  have hown : s.vm.findClass RX7 = some m.cls := hown
  have hl : lv_has ls 2 [(0, .ref x)] := hl
  have k10 := hts (.fieldLink RX7 10 "TapCascade" "text" "LTapCascade$Text;") (by decide +kernel)
  have iX7 : ∀ w ∈ wsX70, w ∈ wsX7_wipe := fun w h => List.mem_cons_of_mem _ (List.mem_append_left _ (List.mem_append_right _ h))
  have k71 := hts (.fieldLink RX7 71 "TapCascade$Text" "length" "I") (by decide +kernel)
  have iX6 : ∀ w ∈ wsX60, w ∈ wsX7_wipe := fun w h => List.mem_cons_of_mem _ (List.mem_append_right _ h)
  unfold f_X7_wipe at hF
  refine lv_aload_n hx hb dX7_wipe_0 rfl (lv_at hl 0 rfl) ?_
  refine va_get (ci := 7) (C := RX7) (T := TX7) (N := 6) (fs := (zTo x (ta 0) (na 0) (da 0) (pa 0) (ca 0) (sa 0))) (v := .ref (ta 0)) hx hb hts iX7 hown hK hP _ (zat_l (wTo_at0 cy x (ta 0) (na 0) (da 0) (pa 0) (ca 0) (sa 0))) rfl 0 (by decide) k10 (fun _ h9 => h9) rfl dX7_wipe_1 ?_
  refine va_get (ci := 6) (C := RX6) (T := TX6) (N := 4) (fs := (zTx ta tn tq)) (v := .int tn) hx hb hts iX6 hown hK hP _ (zat_r (wTo_len cy x (ta 0) (na 0) (da 0) (pa 0) (ca 0) (sa 0)) (zat_l (wTx_at0 cy ta tl td tn tq))) rfl 2 (by decide) k71 (fun _ h9 => h9) rfl dX7_wipe_4 ?_
  refine lv_istore_n (lv' := [(1, .int tn), (0, .ref x)]) hx hb dX7_wipe_7 rfl hl (by decide) rfl (fun ls hl => ?_)
  refine lv_aload_n hx hb dX7_wipe_8 rfl (lv_at hl 1 rfl) ?_
  refine va_get (ci := 7) (C := RX7) (T := TX7) (N := 6) (fs := (zTo x (ta 0) (na 0) (da 0) (pa 0) (ca 0) (sa 0))) (v := .ref (ta 0)) hx hb hts iX7 hown hK hP _ (zat_l (wTo_at0 cy x (ta 0) (na 0) (da 0) (pa 0) (ca 0) (sa 0))) rfl 0 (by decide) k10 (fun _ h9 => h9) rfl dX7_wipe_9 ?_
  refine lv_iconst (v := 0) hx hb dX7_wipe_12 (by decide) ?_
  refine z_puti (ci := 6) (C := RX6) (T := TX6) (N := 4) (fs := (zTx ta tn tq)) (x := 0) (wf := (fun y => ((wTo cy x (ta 0) (na 0) (da 0) (pa 0) (ca 0) (sa 0)) ++ ((wTx cy ta tl td y tq) ++ ((wPo cy pa la pn pz) ++ ((wLs cy la pl) ++ ((wCo cy ca (ra 0) sn sb c0 c1 c2 c3) ++ ((wLn cy ra tv) ++ ((wSe cy sa sp sq sk) ++ ((wLn cy na v) ++ (wLn cy da u))))))))))) hx hb hts iX6 tyX6 tyX6_ok nmX6 hown hK hP hD hS _ 2 (zFoc_r (wTo_len cy x (ta 0) (na 0) (da 0) (pa 0) (ca 0) (sa 0)) (zFoc_l (wTx_foc0_2 cy ta tl td tn tq 0))) rfl (by decide) k71 (fun _ h9 => h9) rfl (by decide +kernel) (Nat.le_of_ble_eq_true rfl) hF dX7_wipe_13 (fun tn_1 hF H locs hP hD hS => ?_)
  refine lv_iload_n hx hb dX7_wipe_16 rfl (lv_at hl 0 rfl) ?_
  refine z_iret (o := o) (o1 := (tn, tn_1)) (v := tn) (wf := (fun o => ((wTo cy x (ta 0) (na 0) (da 0) (pa 0) (ca 0) (sa 0)) ++ ((wTx cy ta tl td o.2 tq) ++ ((wPo cy pa la pn pz) ++ ((wLs cy la pl) ++ ((wCo cy ca (ra 0) sn sb c0 c1 c2 c3) ++ ((wLn cy ra tv) ++ ((wSe cy sa sp sq sk) ++ ((wLn cy na v) ++ (wLn cy da u))))))))))) (rf := fun o => o.1) hx hb hr hlocks hK ?_ ?_ hS ?_ rfl dX7_wipe_17
  · exact hP
  · exact hD
  · exact hF
def f_X7_fault (tl : Nat → Int32) (td : Nat → Int32) (tn : Int32) (u : R2) : Option (Int32 × (Nat → Int32) × Int32 × R2) :=
zbd (f_X6_readInto tl td tn u) fun o1 =>
zlet (o1.1) fun x2 =>
zlet (o1.2.1) fun td_3 =>
zlet (o1.2.2.1) fun tq_4 =>
zlet (o1.2.2.2) fun u_5 =>
some (x2, td_3, tq_4, u_5)
set_option maxHeartbeats 4000000 in
set_option maxRecDepth 100000 in
theorem c_X7_fault (l : Launch) (G : va_G) (cy : Nat → ClassId) (st : Nat → Nat) (x : Nat) (ta : Nat → Nat) (pa : Nat → Nat) (la : Nat → Nat → Nat) (ca : Nat → Nat) (ra : Nat → Nat) (sa : Nat → Nat) (na : Nat → Nat) (da : Nat → Nat) (tl : Nat → Int32) (td : Nat → Int32) (tn : Int32) (tq : Int32) (pn : Int32) (pz : Int32) (pl : Nat → R2) (sn : Nat → Int64) (sb : Nat → Int32) (c0 : Int32) (c1 : Int32) (c2 : Int32) (c3 : Int32) (tv : R2) (sp : Nat → Int32) (sq : Nat → Int32) (sk : Int32) (v : R2) (u : R2) (o : Int32 × (Nat → Int32) × Int32 × R2) (hF : f_X7_fault tl td tn u = some o) : zMi l yX7_fault wsX7_fault (zR 6) G cy st [.ref x] ((wTo cy x (ta 0) (na 0) (da 0) (pa 0) (ca 0) (sa 0)) ++ ((wTx cy ta tl td tn tq) ++ ((wPo cy pa la pn pz) ++ ((wLs cy la pl) ++ ((wCo cy ca (ra 0) sn sb c0 c1 c2 c3) ++ ((wLn cy ra tv) ++ ((wSe cy sa sp sq sk) ++ ((wLn cy na v) ++ (wLn cy da u))))))))) ((wTo cy x (ta 0) (na 0) (da 0) (pa 0) (ca 0) (sa 0)) ++ ((wTx cy ta tl o.2.1 tn o.2.2.1) ++ ((wPo cy pa la pn pz) ++ ((wLs cy la pl) ++ ((wCo cy ca (ra 0) sn sb c0 c1 c2 c3) ++ ((wLn cy ra tv) ++ ((wSe cy sa sp sq sk) ++ ((wLn cy na v) ++ (wLn cy da o.2.2.2))))))))) o.1 := by
  refine zM_of (cc := cX7_fault) (maxL := 1) (ret := (some .int)) (Qc := fun A => zQi G cy A ((wTo cy x (ta 0) (na 0) (da 0) (pa 0) (ca 0) (sa 0)) ++ ((wTx cy ta tl o.2.1 tn o.2.2.1) ++ ((wPo cy pa la pn pz) ++ ((wLs cy la pl) ++ ((wCo cy ca (ra 0) sn sb c0 c1 c2 c3) ++ ((wLn cy ra tv) ++ ((wSe cy sa sp sq sk) ++ ((wLn cy na v) ++ (wLn cy da o.2.2.2))))))))) o.1) (by decide) rfl (Nat.le_of_ble_eq_true rfl) ?_
  intro p e s m below meth c A ls hx hb hml hr hlocks hown hts hK hSE hA hP hD hS hl
  have hown : s.vm.findClass RX7 = some m.cls := hown
  have hl : lv_has ls 1 [(0, .ref x)] := hl
  have k10 := hts (.fieldLink RX7 10 "TapCascade" "text" "LTapCascade$Text;") (by decide +kernel)
  have iX7 : ∀ w ∈ wsX70, w ∈ wsX7_fault := fun w h => List.mem_cons_of_mem _ (List.mem_append_left _ (List.mem_append_left _ (List.mem_append_left _ (List.mem_append_left _ (List.mem_append_right _ h)))))
  have k23 := hts (.fieldLink RX7 23 "TapCascade" "draft" "LTapCascade$Line;") (by decide +kernel)
  unfold f_X7_fault at hF
  refine lv_aload_n hx hb dX7_fault_0 rfl (lv_at hl 0 rfl) ?_
  refine va_get (ci := 7) (C := RX7) (T := TX7) (N := 6) (fs := (zTo x (ta 0) (na 0) (da 0) (pa 0) (ca 0) (sa 0))) (v := .ref (ta 0)) hx hb hts iX7 hown hK hP _ (zat_l (wTo_at0 cy x (ta 0) (na 0) (da 0) (pa 0) (ca 0) (sa 0))) rfl 0 (by decide) k10 (fun _ h9 => h9) rfl dX7_fault_1 ?_
  refine lv_aload_n hx hb dX7_fault_4 rfl (lv_at hl 0 rfl) ?_
  refine va_get (ci := 7) (C := RX7) (T := TX7) (N := 6) (fs := (zTo x (ta 0) (na 0) (da 0) (pa 0) (ca 0) (sa 0))) (v := .ref (da 0)) hx hb hts iX7 hown hK hP _ (zat_l (wTo_at0 cy x (ta 0) (na 0) (da 0) (pa 0) (ca 0) (sa 0))) rfl 2 (by decide) k23 (fun _ h9 => h9) rfl dX7_fault_5 ?_
  refine z_cVi (b := ta 0) (As := [.ref (da 0)]) (rest := []) (wc := ((wTx cy ta tl td tn tq) ++ (wLn cy da u))) (wcf := fun o' => ((wTx cy ta tl o'.2.1 tn o'.2.2.1) ++ (wLn cy da o'.2.2.2))) (wf := fun o' => ((wTo cy x (ta 0) (na 0) (da 0) (pa 0) (ca 0) (sa 0)) ++ ((wTx cy ta tl o'.2.1 tn o'.2.2.1) ++ ((wPo cy pa la pn pz) ++ ((wLs cy la pl) ++ ((wCo cy ca (ra 0) sn sb c0 c1 c2 c3) ++ ((wLn cy ra tv) ++ ((wSe cy sa sp sq sk) ++ ((wLn cy na v) ++ (wLn cy da o'.2.2.2)))))))))) (rf := fun o' => o'.1) hF (fun o' hz => c_X6_readInto l G cy st ta da tl td tn tq u o' hz) (fun o' => (zCut_r (zCut_b zCut_all (zCut_r (zCut_r (zCut_r (zCut_r (zCut_r (zCut_r zCut_all))))))))) ⟨hx, hb, hml, hown, hts⟩ (cwV 1 hts gX7_fault_X6_readInto rfl rfl rfl (by decide +kernel) ⟨by decide, by decide⟩) (ci := 6) (q0 := 0) rfl (zat_l (wTx_at0 cy ta tl td tn tq)) hK hSE hA hP hD hS rfl hl.1 rfl (Nat.le_of_ble_eq_true rfl) dX7_fault_8 ⟨Nat.le_refl _, Nat.le_refl _⟩ (fun o1 hF H locs hP hD hS => ?_)
  refine z_leti hF (fun x2 hF => ?_)
  refine z_nameW (wf := (fun y => ((wTo cy x (ta 0) (na 0) (da 0) (pa 0) (ca 0) (sa 0)) ++ ((wTx cy ta tl y tn o1.2.2.1) ++ ((wPo cy pa la pn pz) ++ ((wLs cy la pl) ++ ((wCo cy ca (ra 0) sn sb c0 c1 c2 c3) ++ ((wLn cy ra tv) ++ ((wSe cy sa sp sq sk) ++ ((wLn cy na v) ++ (wLn cy da o1.2.2.2))))))))))) hF hP hD (fun td_3 hF hP hD => ?_)
  refine z_nameW (wf := (fun y => ((wTo cy x (ta 0) (na 0) (da 0) (pa 0) (ca 0) (sa 0)) ++ ((wTx cy ta tl td_3 tn y) ++ ((wPo cy pa la pn pz) ++ ((wLs cy la pl) ++ ((wCo cy ca (ra 0) sn sb c0 c1 c2 c3) ++ ((wLn cy ra tv) ++ ((wSe cy sa sp sq sk) ++ ((wLn cy na v) ++ (wLn cy da o1.2.2.2))))))))))) hF hP hD (fun tq_4 hF hP hD => ?_)
  refine z_nameW (wf := (fun y => ((wTo cy x (ta 0) (na 0) (da 0) (pa 0) (ca 0) (sa 0)) ++ ((wTx cy ta tl td_3 tn tq_4) ++ ((wPo cy pa la pn pz) ++ ((wLs cy la pl) ++ ((wCo cy ca (ra 0) sn sb c0 c1 c2 c3) ++ ((wLn cy ra tv) ++ ((wSe cy sa sp sq sk) ++ ((wLn cy na v) ++ (wLn cy da y))))))))))) hF hP hD (fun u_5 hF hP hD => ?_)
  refine z_iret (o := o) (o1 := (x2, td_3, tq_4, u_5)) (v := x2) (wf := (fun o => ((wTo cy x (ta 0) (na 0) (da 0) (pa 0) (ca 0) (sa 0)) ++ ((wTx cy ta tl o.2.1 tn o.2.2.1) ++ ((wPo cy pa la pn pz) ++ ((wLs cy la pl) ++ ((wCo cy ca (ra 0) sn sb c0 c1 c2 c3) ++ ((wLn cy ra tv) ++ ((wSe cy sa sp sq sk) ++ ((wLn cy na v) ++ (wLn cy da o.2.2.2))))))))))) (rf := fun o => o.1) hx hb hr hlocks hK ?_ ?_ hS ?_ rfl dX7_fault_11
  · exact hP
  · exact hD
  · exact hF
def f_X7_lay (tl : Nat → Int32) (td : Nat → Int32) (tn : Int32) (pz : Int32) (v : R2) (u : R2) : Option (Int32 × (Nat → Int32) × Int32 × Int32 × R2 × R2) :=
zbd (f_X6_readInto tl td tn u) fun o1 =>
zlet (o1.1) fun x2 =>
zlet (o1.2.1) fun td_3 =>
zlet (o1.2.2.1) fun tq_4 =>
zlet (o1.2.2.2) fun u_5 =>
if x2 = (-4 : Int32) then (
if (u_5 9 0) = 0 then (
some ((-2), td_3, tq_4, pz, v, u_5)) else (
zbd (f_X1_copyFrom v u_5) fun o6 =>
zbd (f_X2_forget) fun o7 =>
some (o6 9 0, td_3, tq_4, o7, o6, u_5))) else (
some ((-2), td_3, tq_4, pz, v, u_5))
set_option maxHeartbeats 4000000 in
set_option maxRecDepth 100000 in
theorem c_X7_lay (l : Launch) (G : va_G) (cy : Nat → ClassId) (st : Nat → Nat) (x : Nat) (ta : Nat → Nat) (pa : Nat → Nat) (la : Nat → Nat → Nat) (ca : Nat → Nat) (ra : Nat → Nat) (sa : Nat → Nat) (na : Nat → Nat) (da : Nat → Nat) (tl : Nat → Int32) (td : Nat → Int32) (tn : Int32) (tq : Int32) (pn : Int32) (pz : Int32) (pl : Nat → R2) (sn : Nat → Int64) (sb : Nat → Int32) (c0 : Int32) (c1 : Int32) (c2 : Int32) (c3 : Int32) (tv : R2) (sp : Nat → Int32) (sq : Nat → Int32) (sk : Int32) (v : R2) (u : R2) (o : Int32 × (Nat → Int32) × Int32 × Int32 × R2 × R2) (hF : f_X7_lay tl td tn pz v u = some o) : zMi l yX7_lay wsX7_lay (zR 6) G cy st [.ref x] ((wTo cy x (ta 0) (na 0) (da 0) (pa 0) (ca 0) (sa 0)) ++ ((wTx cy ta tl td tn tq) ++ ((wPo cy pa la pn pz) ++ ((wLs cy la pl) ++ ((wCo cy ca (ra 0) sn sb c0 c1 c2 c3) ++ ((wLn cy ra tv) ++ ((wSe cy sa sp sq sk) ++ ((wLn cy na v) ++ (wLn cy da u))))))))) ((wTo cy x (ta 0) (na 0) (da 0) (pa 0) (ca 0) (sa 0)) ++ ((wTx cy ta tl o.2.1 tn o.2.2.1) ++ ((wPo cy pa la pn o.2.2.2.1) ++ ((wLs cy la pl) ++ ((wCo cy ca (ra 0) sn sb c0 c1 c2 c3) ++ ((wLn cy ra tv) ++ ((wSe cy sa sp sq sk) ++ ((wLn cy na o.2.2.2.2.1) ++ (wLn cy da o.2.2.2.2.2))))))))) o.1 := by
  refine zM_of (cc := cX7_lay) (maxL := 1) (ret := (some .int)) (Qc := fun A => zQi G cy A ((wTo cy x (ta 0) (na 0) (da 0) (pa 0) (ca 0) (sa 0)) ++ ((wTx cy ta tl o.2.1 tn o.2.2.1) ++ ((wPo cy pa la pn o.2.2.2.1) ++ ((wLs cy la pl) ++ ((wCo cy ca (ra 0) sn sb c0 c1 c2 c3) ++ ((wLn cy ra tv) ++ ((wSe cy sa sp sq sk) ++ ((wLn cy na o.2.2.2.2.1) ++ (wLn cy da o.2.2.2.2.2))))))))) o.1) (by decide) rfl (Nat.le_of_ble_eq_true rfl) ?_
  intro p e s m below meth c A ls hx hb hml hr hlocks hown hts hK hSE hA hP hD hS hl
  have hown : s.vm.findClass RX7 = some m.cls := hown
  have hl : lv_has ls 1 [(0, .ref x)] := hl
  have k10 := hts (.fieldLink RX7 10 "TapCascade" "text" "LTapCascade$Text;") (by decide +kernel)
  have iX7 : ∀ w ∈ wsX70, w ∈ wsX7_lay := fun w h => List.mem_cons_of_mem _ (List.mem_append_left _ (List.mem_append_left _ (List.mem_append_left _ (List.mem_append_left _ (List.mem_append_left _ (List.mem_append_right _ h))))))
  have k23 := hts (.fieldLink RX7 23 "TapCascade" "draft" "LTapCascade$Line;") (by decide +kernel)
  have k74 := hts (.fieldLink RX7 74 "TapCascade$Line" "size" "I") (by decide +kernel)
  have iX1 : ∀ w ∈ wsX10, w ∈ wsX7_lay := fun w h => List.mem_cons_of_mem _ (List.mem_append_left _ (List.mem_append_left _ (List.mem_append_left _ (List.mem_append_left _ (List.mem_append_right _ h)))))
  have k19 := hts (.fieldLink RX7 19 "TapCascade" "line" "LTapCascade$Line;") (by decide +kernel)
  have k29 := hts (.fieldLink RX7 29 "TapCascade" "past" "LTapCascade$Past;") (by decide +kernel)
  unfold f_X7_lay at hF
  refine lv_aload_n hx hb dX7_lay_0 rfl (lv_at hl 0 rfl) ?_
  refine va_get (ci := 7) (C := RX7) (T := TX7) (N := 6) (fs := (zTo x (ta 0) (na 0) (da 0) (pa 0) (ca 0) (sa 0))) (v := .ref (ta 0)) hx hb hts iX7 hown hK hP _ (zat_l (wTo_at0 cy x (ta 0) (na 0) (da 0) (pa 0) (ca 0) (sa 0))) rfl 0 (by decide) k10 (fun _ h9 => h9) rfl dX7_lay_1 ?_
  refine lv_aload_n hx hb dX7_lay_4 rfl (lv_at hl 0 rfl) ?_
  refine va_get (ci := 7) (C := RX7) (T := TX7) (N := 6) (fs := (zTo x (ta 0) (na 0) (da 0) (pa 0) (ca 0) (sa 0))) (v := .ref (da 0)) hx hb hts iX7 hown hK hP _ (zat_l (wTo_at0 cy x (ta 0) (na 0) (da 0) (pa 0) (ca 0) (sa 0))) rfl 2 (by decide) k23 (fun _ h9 => h9) rfl dX7_lay_5 ?_
  refine z_cVi (b := ta 0) (As := [.ref (da 0)]) (rest := []) (wc := ((wTx cy ta tl td tn tq) ++ (wLn cy da u))) (wcf := fun o' => ((wTx cy ta tl o'.2.1 tn o'.2.2.1) ++ (wLn cy da o'.2.2.2))) (wf := fun o' => ((wTo cy x (ta 0) (na 0) (da 0) (pa 0) (ca 0) (sa 0)) ++ ((wTx cy ta tl o'.2.1 tn o'.2.2.1) ++ ((wPo cy pa la pn pz) ++ ((wLs cy la pl) ++ ((wCo cy ca (ra 0) sn sb c0 c1 c2 c3) ++ ((wLn cy ra tv) ++ ((wSe cy sa sp sq sk) ++ ((wLn cy na v) ++ (wLn cy da o'.2.2.2)))))))))) (rf := fun o' => o'.1) hF (fun o' hz => c_X6_readInto l G cy st ta da tl td tn tq u o' hz) (fun o' => (zCut_r (zCut_b zCut_all (zCut_r (zCut_r (zCut_r (zCut_r (zCut_r (zCut_r zCut_all))))))))) ⟨hx, hb, hml, hown, hts⟩ (cwV 1 hts gX7_lay_X6_readInto rfl rfl rfl (by decide +kernel) ⟨by decide, by decide⟩) (ci := 6) (q0 := 0) rfl (zat_l (wTx_at0 cy ta tl td tn tq)) hK hSE hA hP hD hS rfl hl.1 rfl (Nat.le_of_ble_eq_true rfl) dX7_lay_8 ⟨Nat.le_refl _, Nat.le_refl _⟩ (fun o1 hF H locs hP hD hS => ?_)
  refine z_leti hF (fun x2 hF => ?_)
  refine z_nameW (wf := (fun y => ((wTo cy x (ta 0) (na 0) (da 0) (pa 0) (ca 0) (sa 0)) ++ ((wTx cy ta tl y tn o1.2.2.1) ++ ((wPo cy pa la pn pz) ++ ((wLs cy la pl) ++ ((wCo cy ca (ra 0) sn sb c0 c1 c2 c3) ++ ((wLn cy ra tv) ++ ((wSe cy sa sp sq sk) ++ ((wLn cy na v) ++ (wLn cy da o1.2.2.2))))))))))) hF hP hD (fun td_3 hF hP hD => ?_)
  refine z_nameW (wf := (fun y => ((wTo cy x (ta 0) (na 0) (da 0) (pa 0) (ca 0) (sa 0)) ++ ((wTx cy ta tl td_3 tn y) ++ ((wPo cy pa la pn pz) ++ ((wLs cy la pl) ++ ((wCo cy ca (ra 0) sn sb c0 c1 c2 c3) ++ ((wLn cy ra tv) ++ ((wSe cy sa sp sq sk) ++ ((wLn cy na v) ++ (wLn cy da o1.2.2.2))))))))))) hF hP hD (fun tq_4 hF hP hD => ?_)
  refine z_nameW (wf := (fun y => ((wTo cy x (ta 0) (na 0) (da 0) (pa 0) (ca 0) (sa 0)) ++ ((wTx cy ta tl td_3 tn tq_4) ++ ((wPo cy pa la pn pz) ++ ((wLs cy la pl) ++ ((wCo cy ca (ra 0) sn sb c0 c1 c2 c3) ++ ((wLn cy ra tv) ++ ((wSe cy sa sp sq sk) ++ ((wLn cy na v) ++ (wLn cy da y))))))))))) hF hP hD (fun u_5 hF hP hD => ?_)
  refine lv_bipush (v := (-4)) hx hb dX7_lay_11 (by decide) ?_
  refine zi_ne (tgt := 26) hx hb hF dX7_lay_13 (by decide) (fun hF => ?_) (fun hF => ?_)
  · refine lv_bipush (v := (-2)) hx hb dX7_lay_26 (by decide) ?_
    refine z_iret (o := o) (o1 := ((-2), td_3, tq_4, pz, v, u_5)) (v := (-2)) (wf := (fun o => ((wTo cy x (ta 0) (na 0) (da 0) (pa 0) (ca 0) (sa 0)) ++ ((wTx cy ta tl o.2.1 tn o.2.2.1) ++ ((wPo cy pa la pn o.2.2.2.1) ++ ((wLs cy la pl) ++ ((wCo cy ca (ra 0) sn sb c0 c1 c2 c3) ++ ((wLn cy ra tv) ++ ((wSe cy sa sp sq sk) ++ ((wLn cy na o.2.2.2.2.1) ++ (wLn cy da o.2.2.2.2.2))))))))))) (rf := fun o => o.1) hx hb hr hlocks hK ?_ ?_ hS ?_ rfl dX7_lay_28
    · exact hP
    · exact hD
    · exact hF
  · refine lv_aload_n hx hb dX7_lay_16 rfl (lv_at hl 0 rfl) ?_
    refine va_get (ci := 7) (C := RX7) (T := TX7) (N := 6) (fs := (zTo x (ta 0) (na 0) (da 0) (pa 0) (ca 0) (sa 0))) (v := .ref (da 0)) hx hb hts iX7 hown hK hP _ (zat_l (wTo_at0 cy x (ta 0) (na 0) (da 0) (pa 0) (ca 0) (sa 0))) rfl 2 (by decide) k23 (fun _ h9 => h9) rfl dX7_lay_17 ?_
    refine va_get (ci := 1) (C := RX1) (T := TX1) (N := 6) (fs := (zLn da u_5)) (v := .int (u_5 9 0)) hx hb hts iX1 hown hK hP _ (zat_r (wTo_len cy x (ta 0) (na 0) (da 0) (pa 0) (ca 0) (sa 0)) (zat_r (wTx_len cy ta tl td_3 tn tq_4) (zat_r (wPo_len cy pa la pn pz) (zat_r (wLs_len cy la pl) (zat_r (wCo_len cy ca (ra 0) sn sb c0 c1 c2 c3) (zat_r (wLn_len cy ra tv) (zat_r (wSe_len cy sa sp sq sk) (zat_r (wLn_len cy na v) (wLn_at0 cy da u_5))))))))) rfl 3 (by decide) k74 (fun _ h9 => h9) rfl dX7_lay_20 ?_
    refine zf_ne (tgt := 29) hx hb hF dX7_lay_23 (by decide) (fun hF => ?_) (fun hF => ?_)
    · refine lv_aload_n hx hb dX7_lay_29 rfl (lv_at hl 0 rfl) ?_
      refine va_get (ci := 7) (C := RX7) (T := TX7) (N := 6) (fs := (zTo x (ta 0) (na 0) (da 0) (pa 0) (ca 0) (sa 0))) (v := .ref (na 0)) hx hb hts iX7 hown hK hP _ (zat_l (wTo_at0 cy x (ta 0) (na 0) (da 0) (pa 0) (ca 0) (sa 0))) rfl 1 (by decide) k19 (fun _ h9 => h9) rfl dX7_lay_30 ?_
      refine lv_aload_n hx hb dX7_lay_33 rfl (lv_at hl 0 rfl) ?_
      refine va_get (ci := 7) (C := RX7) (T := TX7) (N := 6) (fs := (zTo x (ta 0) (na 0) (da 0) (pa 0) (ca 0) (sa 0))) (v := .ref (da 0)) hx hb hts iX7 hown hK hP _ (zat_l (wTo_at0 cy x (ta 0) (na 0) (da 0) (pa 0) (ca 0) (sa 0))) rfl 2 (by decide) k23 (fun _ h9 => h9) rfl dX7_lay_34 ?_
      refine z_cVv (b := na 0) (As := [.ref (da 0)]) (rest := []) (wc := ((wLn cy na v) ++ (wLn cy da u_5))) (wcf := fun o' => ((wLn cy na o') ++ (wLn cy da u_5))) (wf := fun o' => ((wTo cy x (ta 0) (na 0) (da 0) (pa 0) (ca 0) (sa 0)) ++ ((wTx cy ta tl td_3 tn tq_4) ++ ((wPo cy pa la pn pz) ++ ((wLs cy la pl) ++ ((wCo cy ca (ra 0) sn sb c0 c1 c2 c3) ++ ((wLn cy ra tv) ++ ((wSe cy sa sp sq sk) ++ ((wLn cy na o') ++ (wLn cy da u_5)))))))))) hF (fun o' hz => c_X1_copyFrom l G cy st na da v u_5 o' hz) (fun o' => (zCut_r (zCut_r (zCut_r (zCut_r (zCut_r (zCut_r (zCut_r (zCut_b zCut_all zCut_all))))))))) ⟨hx, hb, hml, hown, hts⟩ (cwV 1 hts gX7_lay_X1_copyFrom rfl rfl rfl (by decide +kernel) ⟨by decide, by decide⟩) (ci := 1) (q0 := 0) rfl (zat_l (wLn_at0 cy na v)) hK hSE hA hP hD hS rfl hl.1 rfl (Nat.le_of_ble_eq_true rfl) dX7_lay_37 ⟨Nat.le_refl _, Nat.le_refl _⟩ (fun o6 hF H locs hP hD hS => ?_)
      refine lv_aload_n hx hb dX7_lay_40 rfl (lv_at hl 0 rfl) ?_
      refine va_get (ci := 7) (C := RX7) (T := TX7) (N := 6) (fs := (zTo x (ta 0) (na 0) (da 0) (pa 0) (ca 0) (sa 0))) (v := .ref (pa 0)) hx hb hts iX7 hown hK hP _ (zat_l (wTo_at0 cy x (ta 0) (na 0) (da 0) (pa 0) (ca 0) (sa 0))) rfl 3 (by decide) k29 (fun _ h9 => h9) rfl dX7_lay_41 ?_
      refine z_cVv (b := pa 0) (As := []) (rest := []) (wc := ((wPo cy pa la pn pz) ++ (wLs cy la pl))) (wcf := fun o' => ((wPo cy pa la pn o') ++ (wLs cy la pl))) (wf := fun o' => ((wTo cy x (ta 0) (na 0) (da 0) (pa 0) (ca 0) (sa 0)) ++ ((wTx cy ta tl td_3 tn tq_4) ++ ((wPo cy pa la pn o') ++ ((wLs cy la pl) ++ ((wCo cy ca (ra 0) sn sb c0 c1 c2 c3) ++ ((wLn cy ra tv) ++ ((wSe cy sa sp sq sk) ++ ((wLn cy na o6) ++ (wLn cy da u_5)))))))))) hF (fun o' hz => c_X2_forget l G cy st pa la pn pz pl o' hz) (fun o' => (zCut_r (zCut_r (zCut_b zCut_all (zCut_l zCut_all))))) ⟨hx, hb, hml, hown, hts⟩ (cwV 0 hts gX7_lay_X2_forget rfl rfl rfl (by decide +kernel) ⟨by decide, by decide⟩) (ci := 2) (q0 := 0) rfl (zat_l (wPo_at0 cy pa la pn pz)) hK hSE hA hP hD hS rfl hl.1 rfl (Nat.le_of_ble_eq_true rfl) dX7_lay_44 ⟨Nat.le_refl _, Nat.le_refl _⟩ (fun o7 hF H locs hP hD hS => ?_)
      refine lv_aload_n hx hb dX7_lay_47 rfl (lv_at hl 0 rfl) ?_
      refine va_get (ci := 7) (C := RX7) (T := TX7) (N := 6) (fs := (zTo x (ta 0) (na 0) (da 0) (pa 0) (ca 0) (sa 0))) (v := .ref (na 0)) hx hb hts iX7 hown hK hP _ (zat_l (wTo_at0 cy x (ta 0) (na 0) (da 0) (pa 0) (ca 0) (sa 0))) rfl 1 (by decide) k19 (fun _ h9 => h9) rfl dX7_lay_48 ?_
      refine va_get (ci := 1) (C := RX1) (T := TX1) (N := 6) (fs := (zLn na o6)) (v := .int (o6 9 0)) hx hb hts iX1 hown hK hP _ (zat_r (wTo_len cy x (ta 0) (na 0) (da 0) (pa 0) (ca 0) (sa 0)) (zat_r (wTx_len cy ta tl td_3 tn tq_4) (zat_r (wPo_len cy pa la pn o7) (zat_r (wLs_len cy la pl) (zat_r (wCo_len cy ca (ra 0) sn sb c0 c1 c2 c3) (zat_r (wLn_len cy ra tv) (zat_r (wSe_len cy sa sp sq sk) (zat_l (wLn_at0 cy na o6))))))))) rfl 3 (by decide) k74 (fun _ h9 => h9) rfl dX7_lay_51 ?_
      refine z_iret (o := o) (o1 := (o6 9 0, td_3, tq_4, o7, o6, u_5)) (v := o6 9 0) (wf := (fun o => ((wTo cy x (ta 0) (na 0) (da 0) (pa 0) (ca 0) (sa 0)) ++ ((wTx cy ta tl o.2.1 tn o.2.2.1) ++ ((wPo cy pa la pn o.2.2.2.1) ++ ((wLs cy la pl) ++ ((wCo cy ca (ra 0) sn sb c0 c1 c2 c3) ++ ((wLn cy ra tv) ++ ((wSe cy sa sp sq sk) ++ ((wLn cy na o.2.2.2.2.1) ++ (wLn cy da o.2.2.2.2.2))))))))))) (rf := fun o => o.1) hx hb hr hlocks hK ?_ ?_ hS ?_ rfl dX7_lay_54
      · exact hP
      · exact hD
      · exact hF
    · refine lv_bipush (v := (-2)) hx hb dX7_lay_26 (by decide) ?_
      refine z_iret (o := o) (o1 := ((-2), td_3, tq_4, pz, v, u_5)) (v := (-2)) (wf := (fun o => ((wTo cy x (ta 0) (na 0) (da 0) (pa 0) (ca 0) (sa 0)) ++ ((wTx cy ta tl o.2.1 tn o.2.2.1) ++ ((wPo cy pa la pn o.2.2.2.1) ++ ((wLs cy la pl) ++ ((wCo cy ca (ra 0) sn sb c0 c1 c2 c3) ++ ((wLn cy ra tv) ++ ((wSe cy sa sp sq sk) ++ ((wLn cy na o.2.2.2.2.1) ++ (wLn cy da o.2.2.2.2.2))))))))))) (rf := fun o => o.1) hx hb hr hlocks hK ?_ ?_ hS ?_ rfl dX7_lay_28
      · exact hP
      · exact hD
      · exact hF
def f_X7_source (pn : Int32) (pz : Int32) (pl : Nat → R2) (v : R2) (x01 : Int32) : Option (Int32 × Int32 × Int32 × (Nat → R2) × R2) :=
if x01 < (800 : Int32) then (
some ((-1), pn, pz, pl, v)) else (
if x01 ≤ (1200 : Int32) then (
zlet (v 9 1) fun x1 =>
if x1 = x01 then (
some ((-2), pn, pz, pl, v)) else (
zbd (f_X2_keep pn pz pl v) fun o2 =>
zlet (z2 v 9 1 x01) fun v_3 =>
zbd (f_X1_reckon v_3) fun o4 =>
some (x1, o2.1, o2.2.1, o2.2.2, o4))) else (
some ((-1), pn, pz, pl, v)))
set_option maxHeartbeats 4000000 in
set_option maxRecDepth 100000 in
theorem c_X7_source (l : Launch) (G : va_G) (cy : Nat → ClassId) (st : Nat → Nat) (x : Nat) (ta : Nat → Nat) (pa : Nat → Nat) (la : Nat → Nat → Nat) (ca : Nat → Nat) (ra : Nat → Nat) (sa : Nat → Nat) (na : Nat → Nat) (da : Nat → Nat) (tl : Nat → Int32) (td : Nat → Int32) (tn : Int32) (tq : Int32) (pn : Int32) (pz : Int32) (pl : Nat → R2) (sn : Nat → Int64) (sb : Nat → Int32) (c0 : Int32) (c1 : Int32) (c2 : Int32) (c3 : Int32) (tv : R2) (sp : Nat → Int32) (sq : Nat → Int32) (sk : Int32) (v : R2) (u : R2) (x01 : Int32) (o : Int32 × Int32 × Int32 × (Nat → R2) × R2) (hF : f_X7_source pn pz pl v x01 = some o) : zMi l yX7_source wsX7_source (zR 4) G cy st [.ref x, .int x01] ((wTo cy x (ta 0) (na 0) (da 0) (pa 0) (ca 0) (sa 0)) ++ ((wTx cy ta tl td tn tq) ++ ((wPo cy pa la pn pz) ++ ((wLs cy la pl) ++ ((wCo cy ca (ra 0) sn sb c0 c1 c2 c3) ++ ((wLn cy ra tv) ++ ((wSe cy sa sp sq sk) ++ ((wLn cy na v) ++ (wLn cy da u))))))))) ((wTo cy x (ta 0) (na 0) (da 0) (pa 0) (ca 0) (sa 0)) ++ ((wTx cy ta tl td tn tq) ++ ((wPo cy pa la o.2.1 o.2.2.1) ++ ((wLs cy la o.2.2.2.1) ++ ((wCo cy ca (ra 0) sn sb c0 c1 c2 c3) ++ ((wLn cy ra tv) ++ ((wSe cy sa sp sq sk) ++ ((wLn cy na o.2.2.2.2) ++ (wLn cy da u))))))))) o.1 := by
  refine zM_of (cc := cX7_source) (maxL := 3) (ret := (some .int)) (Qc := fun A => zQi G cy A ((wTo cy x (ta 0) (na 0) (da 0) (pa 0) (ca 0) (sa 0)) ++ ((wTx cy ta tl td tn tq) ++ ((wPo cy pa la o.2.1 o.2.2.1) ++ ((wLs cy la o.2.2.2.1) ++ ((wCo cy ca (ra 0) sn sb c0 c1 c2 c3) ++ ((wLn cy ra tv) ++ ((wSe cy sa sp sq sk) ++ ((wLn cy na o.2.2.2.2) ++ (wLn cy da u))))))))) o.1) (by decide) rfl (Nat.le_of_ble_eq_true rfl) ?_
  intro p e s m below meth c A ls hx hb hml hr hlocks hown hts hK hSE hA hP hD hS hl
  have hown : s.vm.findClass RX7 = some m.cls := hown
  have hl : lv_has ls 3 [(0, .ref x), (1, .int x01)] := hl
  have k19 := hts (.fieldLink RX7 19 "TapCascade" "line" "LTapCascade$Line;") (by decide +kernel)
  have iX7 : ∀ w ∈ wsX70, w ∈ wsX7_source := fun w h => List.mem_cons_of_mem _ (List.mem_append_left _ (List.mem_append_left _ (List.mem_append_left _ (List.mem_append_left _ (List.mem_append_right _ h)))))
  have k80 := hts (.fieldLink RX7 80 "TapCascade$Line" "source" "I") (by decide +kernel)
  have iX1 : ∀ w ∈ wsX10, w ∈ wsX7_source := fun w h => List.mem_cons_of_mem _ (List.mem_append_left _ (List.mem_append_left _ (List.mem_append_left _ (List.mem_append_right _ h))))
  have k29 := hts (.fieldLink RX7 29 "TapCascade" "past" "LTapCascade$Past;") (by decide +kernel)
  unfold f_X7_source at hF
  refine lv_iload_n hx hb dX7_source_0 rfl (lv_at hl 1 rfl) ?_
  refine lv_sipush (v := 800) hx hb dX7_source_1 (by decide) ?_
  refine zi_lt (tgt := 14) hx hb hF dX7_source_4 (by decide) (fun hF => ?_) (fun hF => ?_)
  · refine lv_iconst (v := (-1)) hx hb dX7_source_14 (by decide) ?_
    refine z_iret (o := o) (o1 := ((-1), pn, pz, pl, v)) (v := (-1)) (wf := (fun o => ((wTo cy x (ta 0) (na 0) (da 0) (pa 0) (ca 0) (sa 0)) ++ ((wTx cy ta tl td tn tq) ++ ((wPo cy pa la o.2.1 o.2.2.1) ++ ((wLs cy la o.2.2.2.1) ++ ((wCo cy ca (ra 0) sn sb c0 c1 c2 c3) ++ ((wLn cy ra tv) ++ ((wSe cy sa sp sq sk) ++ ((wLn cy na o.2.2.2.2) ++ (wLn cy da u))))))))))) (rf := fun o => o.1) hx hb hr hlocks hK ?_ ?_ hS ?_ rfl dX7_source_15
    · exact hP
    · exact hD
    · exact hF
  · refine lv_iload_n hx hb dX7_source_7 rfl (lv_at hl 1 rfl) ?_
    refine lv_sipush (v := 1200) hx hb dX7_source_8 (by decide) ?_
    refine zi_le (tgt := 16) hx hb hF dX7_source_11 (by decide) (fun hF => ?_) (fun hF => ?_)
    · refine lv_aload_n hx hb dX7_source_16 rfl (lv_at hl 0 rfl) ?_
      refine va_get (ci := 7) (C := RX7) (T := TX7) (N := 6) (fs := (zTo x (ta 0) (na 0) (da 0) (pa 0) (ca 0) (sa 0))) (v := .ref (na 0)) hx hb hts iX7 hown hK hP _ (zat_l (wTo_at0 cy x (ta 0) (na 0) (da 0) (pa 0) (ca 0) (sa 0))) rfl 1 (by decide) k19 (fun _ h9 => h9) rfl dX7_source_17 ?_
      refine va_get (ci := 1) (C := RX1) (T := TX1) (N := 6) (fs := (zLn na v)) (v := .int (v 9 1)) hx hb hts iX1 hown hK hP _ (zat_r (wTo_len cy x (ta 0) (na 0) (da 0) (pa 0) (ca 0) (sa 0)) (zat_r (wTx_len cy ta tl td tn tq) (zat_r (wPo_len cy pa la pn pz) (zat_r (wLs_len cy la pl) (zat_r (wCo_len cy ca (ra 0) sn sb c0 c1 c2 c3) (zat_r (wLn_len cy ra tv) (zat_r (wSe_len cy sa sp sq sk) (zat_l (wLn_at0 cy na v))))))))) rfl 4 (by decide) k80 (fun _ h9 => h9) rfl dX7_source_20 ?_
      refine z_leti hF (fun x1 hF => ?_)
      refine lv_istore_n (lv' := [(2, .int x1), (0, .ref x), (1, .int x01)]) hx hb dX7_source_23 rfl hl (by decide) rfl (fun ls hl => ?_)
      refine lv_iload_n hx hb dX7_source_24 rfl (lv_at hl 0 rfl) ?_
      refine lv_iload_n hx hb dX7_source_25 rfl (lv_at hl 2 rfl) ?_
      refine zi_ne (tgt := 32) hx hb hF dX7_source_26 (by decide) (fun hF => ?_) (fun hF => ?_)
      · refine lv_aload_n hx hb dX7_source_32 rfl (lv_at hl 1 rfl) ?_
        refine va_get (ci := 7) (C := RX7) (T := TX7) (N := 6) (fs := (zTo x (ta 0) (na 0) (da 0) (pa 0) (ca 0) (sa 0))) (v := .ref (pa 0)) hx hb hts iX7 hown hK hP _ (zat_l (wTo_at0 cy x (ta 0) (na 0) (da 0) (pa 0) (ca 0) (sa 0))) rfl 3 (by decide) k29 (fun _ h9 => h9) rfl dX7_source_33 ?_
        refine lv_aload_n hx hb dX7_source_36 rfl (lv_at hl 1 rfl) ?_
        refine va_get (ci := 7) (C := RX7) (T := TX7) (N := 6) (fs := (zTo x (ta 0) (na 0) (da 0) (pa 0) (ca 0) (sa 0))) (v := .ref (na 0)) hx hb hts iX7 hown hK hP _ (zat_l (wTo_at0 cy x (ta 0) (na 0) (da 0) (pa 0) (ca 0) (sa 0))) rfl 1 (by decide) k19 (fun _ h9 => h9) rfl dX7_source_37 ?_
        refine z_cVv (b := pa 0) (As := [.ref (na 0)]) (rest := []) (wc := ((wPo cy pa la pn pz) ++ ((wLs cy la pl) ++ (wLn cy na v)))) (wcf := fun o' => ((wPo cy pa la o'.1 o'.2.1) ++ ((wLs cy la o'.2.2) ++ (wLn cy na v)))) (wf := fun o' => ((wTo cy x (ta 0) (na 0) (da 0) (pa 0) (ca 0) (sa 0)) ++ ((wTx cy ta tl td tn tq) ++ ((wPo cy pa la o'.1 o'.2.1) ++ ((wLs cy la o'.2.2) ++ ((wCo cy ca (ra 0) sn sb c0 c1 c2 c3) ++ ((wLn cy ra tv) ++ ((wSe cy sa sp sq sk) ++ ((wLn cy na v) ++ (wLn cy da u)))))))))) hF (fun o' hz => c_X2_keep l G cy st pa la na pn pz pl v o' hz) (fun o' => (zCut_r (zCut_r (zCut_b zCut_all (zCut_b zCut_all (zCut_r (zCut_r (zCut_r (zCut_l zCut_all))))))))) ⟨hx, hb, hml, hown, hts⟩ (cwV 1 hts gX7_source_X2_keep rfl rfl rfl (by decide +kernel) ⟨by decide, by decide⟩) (ci := 2) (q0 := 0) rfl (zat_l (wPo_at0 cy pa la pn pz)) hK hSE hA hP hD hS rfl hl.1 rfl (Nat.le_of_ble_eq_true rfl) dX7_source_40 ⟨Nat.le_refl _, Nat.le_refl _⟩ (fun o2 hF H locs hP hD hS => ?_)
        refine lv_aload_n hx hb dX7_source_43 rfl (lv_at hl 1 rfl) ?_
        refine va_get (ci := 7) (C := RX7) (T := TX7) (N := 6) (fs := (zTo x (ta 0) (na 0) (da 0) (pa 0) (ca 0) (sa 0))) (v := .ref (na 0)) hx hb hts iX7 hown hK hP _ (zat_l (wTo_at0 cy x (ta 0) (na 0) (da 0) (pa 0) (ca 0) (sa 0))) rfl 1 (by decide) k19 (fun _ h9 => h9) rfl dX7_source_44 ?_
        refine lv_iload_n hx hb dX7_source_47 rfl (lv_at hl 2 rfl) ?_
        refine z_puti (ci := 1) (C := RX1) (T := TX1) (N := 6) (fs := (zLn na v)) (x := x01) (wf := (fun y => ((wTo cy x (ta 0) (na 0) (da 0) (pa 0) (ca 0) (sa 0)) ++ ((wTx cy ta tl td tn tq) ++ ((wPo cy pa la o2.1 o2.2.1) ++ ((wLs cy la o2.2.2) ++ ((wCo cy ca (ra 0) sn sb c0 c1 c2 c3) ++ ((wLn cy ra tv) ++ ((wSe cy sa sp sq sk) ++ ((wLn cy na y) ++ (wLn cy da u))))))))))) hx hb hts iX1 tyX1 tyX1_ok nmX1 hown hK hP hD hS _ 4 (zFoc_r (wTo_len cy x (ta 0) (na 0) (da 0) (pa 0) (ca 0) (sa 0)) (zFoc_r (wTx_len cy ta tl td tn tq) (zFoc_r (wPo_len cy pa la o2.1 o2.2.1) (zFoc_r (wLs_len cy la o2.2.2) (zFoc_r (wCo_len cy ca (ra 0) sn sb c0 c1 c2 c3) (zFoc_r (wLn_len cy ra tv) (zFoc_r (wSe_len cy sa sp sq sk) (zFoc_l (wLn_foc0_4 cy na v x01))))))))) rfl (by decide) k80 (fun _ h9 => h9) rfl (by decide +kernel) (Nat.le_of_ble_eq_true rfl) hF dX7_source_48 (fun v_3 hF H locs hP hD hS => ?_)
        refine lv_aload_n hx hb dX7_source_51 rfl (lv_at hl 1 rfl) ?_
        refine va_get (ci := 7) (C := RX7) (T := TX7) (N := 6) (fs := (zTo x (ta 0) (na 0) (da 0) (pa 0) (ca 0) (sa 0))) (v := .ref (na 0)) hx hb hts iX7 hown hK hP _ (zat_l (wTo_at0 cy x (ta 0) (na 0) (da 0) (pa 0) (ca 0) (sa 0))) rfl 1 (by decide) k19 (fun _ h9 => h9) rfl dX7_source_52 ?_
        refine z_cVv (b := na 0) (As := []) (rest := []) (wc := (wLn cy na v_3)) (wcf := fun o' => (wLn cy na o')) (wf := fun o' => ((wTo cy x (ta 0) (na 0) (da 0) (pa 0) (ca 0) (sa 0)) ++ ((wTx cy ta tl td tn tq) ++ ((wPo cy pa la o2.1 o2.2.1) ++ ((wLs cy la o2.2.2) ++ ((wCo cy ca (ra 0) sn sb c0 c1 c2 c3) ++ ((wLn cy ra tv) ++ ((wSe cy sa sp sq sk) ++ ((wLn cy na o') ++ (wLn cy da u)))))))))) hF (fun o' hz => c_X1_reckon l G cy st na v_3 o' hz) (fun o' => (zCut_r (zCut_r (zCut_r (zCut_r (zCut_r (zCut_r (zCut_r (zCut_l zCut_all))))))))) ⟨hx, hb, hml, hown, hts⟩ (cwV 0 hts gX7_source_X1_reckon rfl rfl rfl (by decide +kernel) ⟨by decide, by decide⟩) (ci := 1) (q0 := 0) rfl (wLn_at0 cy na v_3) hK hSE hA hP hD hS rfl hl.1 rfl (Nat.le_of_ble_eq_true rfl) dX7_source_55 ⟨Nat.le_refl _, Nat.le_refl _⟩ (fun o4 hF H locs hP hD hS => ?_)
        refine lv_iload_n hx hb dX7_source_58 rfl (lv_at hl 0 rfl) ?_
        refine z_iret (o := o) (o1 := (x1, o2.1, o2.2.1, o2.2.2, o4)) (v := x1) (wf := (fun o => ((wTo cy x (ta 0) (na 0) (da 0) (pa 0) (ca 0) (sa 0)) ++ ((wTx cy ta tl td tn tq) ++ ((wPo cy pa la o.2.1 o.2.2.1) ++ ((wLs cy la o.2.2.2.1) ++ ((wCo cy ca (ra 0) sn sb c0 c1 c2 c3) ++ ((wLn cy ra tv) ++ ((wSe cy sa sp sq sk) ++ ((wLn cy na o.2.2.2.2) ++ (wLn cy da u))))))))))) (rf := fun o => o.1) hx hb hr hlocks hK ?_ ?_ hS ?_ rfl dX7_source_59
        · exact hP
        · exact hD
        · exact hF
      · refine lv_bipush (v := (-2)) hx hb dX7_source_29 (by decide) ?_
        refine z_iret (o := o) (o1 := ((-2), pn, pz, pl, v)) (v := (-2)) (wf := (fun o => ((wTo cy x (ta 0) (na 0) (da 0) (pa 0) (ca 0) (sa 0)) ++ ((wTx cy ta tl td tn tq) ++ ((wPo cy pa la o.2.1 o.2.2.1) ++ ((wLs cy la o.2.2.2.1) ++ ((wCo cy ca (ra 0) sn sb c0 c1 c2 c3) ++ ((wLn cy ra tv) ++ ((wSe cy sa sp sq sk) ++ ((wLn cy na o.2.2.2.2) ++ (wLn cy da u))))))))))) (rf := fun o => o.1) hx hb hr hlocks hK ?_ ?_ hS ?_ rfl dX7_source_31
        · exact hP
        · exact hD
        · exact hF
    · refine lv_iconst (v := (-1)) hx hb dX7_source_14 (by decide) ?_
      refine z_iret (o := o) (o1 := ((-1), pn, pz, pl, v)) (v := (-1)) (wf := (fun o => ((wTo cy x (ta 0) (na 0) (da 0) (pa 0) (ca 0) (sa 0)) ++ ((wTx cy ta tl td tn tq) ++ ((wPo cy pa la o.2.1 o.2.2.1) ++ ((wLs cy la o.2.2.2.1) ++ ((wCo cy ca (ra 0) sn sb c0 c1 c2 c3) ++ ((wLn cy ra tv) ++ ((wSe cy sa sp sq sk) ++ ((wLn cy na o.2.2.2.2) ++ (wLn cy da u))))))))))) (rf := fun o => o.1) hx hb hr hlocks hK ?_ ?_ hS ?_ rfl dX7_source_15
      · exact hP
      · exact hD
      · exact hF
def f_X7_tell (pn : Int32) (pz : Int32) (pl : Nat → R2) (v : R2) (x01 : Int32) (x02 : Int32) (x03 : Int32) : Option (Int32 × Int32 × Int32 × (Nat → R2) × R2) :=
zbd (f_X1_has v x01) fun o1 =>
if o1 = 0 then (
some ((-1), pn, pz, pl, v)) else (
zbd (f_X7_mayBeTold x02 x03) fun o2 =>
if o2 = 0 then (
some ((-1), pn, pz, pl, v)) else (
zg (zin x01 4) (
zbd (f_X4_valueToTell (v (zn x01)) x02) fun o4 =>
if o4 = x03 then (
some ((-2), pn, pz, pl, v)) else (
zbd (f_X2_keep pn pz pl v) fun o5 =>
zbd (f_X4_takeTold (v (zn x01)) x02 x03) fun o6 =>
zlet (va_up v (zn x01) o6) fun v_7 =>
zbd (f_X1_reckon v_7) fun o8 =>
some (o4, o5.1, o5.2.1, o5.2.2, o8)))))
set_option maxHeartbeats 4000000 in
set_option maxRecDepth 100000 in
theorem c_X7_tell (l : Launch) (G : va_G) (cy : Nat → ClassId) (st : Nat → Nat) (x : Nat) (ta : Nat → Nat) (pa : Nat → Nat) (la : Nat → Nat → Nat) (ca : Nat → Nat) (ra : Nat → Nat) (sa : Nat → Nat) (na : Nat → Nat) (da : Nat → Nat) (tl : Nat → Int32) (td : Nat → Int32) (tn : Int32) (tq : Int32) (pn : Int32) (pz : Int32) (pl : Nat → R2) (sn : Nat → Int64) (sb : Nat → Int32) (c0 : Int32) (c1 : Int32) (c2 : Int32) (c3 : Int32) (tv : R2) (sp : Nat → Int32) (sq : Nat → Int32) (sk : Int32) (v : R2) (u : R2) (x01 : Int32) (x02 : Int32) (x03 : Int32) (o : Int32 × Int32 × Int32 × (Nat → R2) × R2) (hF : f_X7_tell pn pz pl v x01 x02 x03 = some o) : zMi l yX7_tell wsX7_tell (zR 4) G cy st [.ref x, .int x01, .int x02, .int x03] ((wTo cy x (ta 0) (na 0) (da 0) (pa 0) (ca 0) (sa 0)) ++ ((wTx cy ta tl td tn tq) ++ ((wPo cy pa la pn pz) ++ ((wLs cy la pl) ++ ((wCo cy ca (ra 0) sn sb c0 c1 c2 c3) ++ ((wLn cy ra tv) ++ ((wSe cy sa sp sq sk) ++ ((wLn cy na v) ++ (wLn cy da u))))))))) ((wTo cy x (ta 0) (na 0) (da 0) (pa 0) (ca 0) (sa 0)) ++ ((wTx cy ta tl td tn tq) ++ ((wPo cy pa la o.2.1 o.2.2.1) ++ ((wLs cy la o.2.2.2.1) ++ ((wCo cy ca (ra 0) sn sb c0 c1 c2 c3) ++ ((wLn cy ra tv) ++ ((wSe cy sa sp sq sk) ++ ((wLn cy na o.2.2.2.2) ++ (wLn cy da u))))))))) o.1 := by
  refine zM_of (cc := cX7_tell) (maxL := 6) (ret := (some .int)) (Qc := fun A => zQi G cy A ((wTo cy x (ta 0) (na 0) (da 0) (pa 0) (ca 0) (sa 0)) ++ ((wTx cy ta tl td tn tq) ++ ((wPo cy pa la o.2.1 o.2.2.1) ++ ((wLs cy la o.2.2.2.1) ++ ((wCo cy ca (ra 0) sn sb c0 c1 c2 c3) ++ ((wLn cy ra tv) ++ ((wSe cy sa sp sq sk) ++ ((wLn cy na o.2.2.2.2) ++ (wLn cy da u))))))))) o.1) (by decide) rfl (Nat.le_of_ble_eq_true rfl) ?_
  intro p e s m below meth c A ls hx hb hml hr hlocks hown hts hK hSE hA hP hD hS hl
  have hown : s.vm.findClass RX7 = some m.cls := hown
  have hl : lv_has ls 6 [(0, .ref x), (1, .int x01), (2, .int x02), (3, .int x03)] := hl
  have k19 := hts (.fieldLink RX7 19 "TapCascade" "line" "LTapCascade$Line;") (by decide +kernel)
  have iX7 : ∀ w ∈ wsX70, w ∈ wsX7_tell := fun w h => List.mem_cons_of_mem _ (List.mem_append_left _ (List.mem_append_left _ (List.mem_append_left _ (List.mem_append_left _ (List.mem_append_right _ h)))))
  have k96 := hts (.fieldLink RX7 96 "TapCascade$Line" "stages" "[LTapCascade$Stage;") (by decide +kernel)
  have iX1 : ∀ w ∈ wsX10, w ∈ wsX7_tell := fun w h => List.mem_cons_of_mem _ (List.mem_append_left _ (List.mem_append_left _ (List.mem_append_left _ (List.mem_append_right _ h))))
  have k29 := hts (.fieldLink RX7 29 "TapCascade" "past" "LTapCascade$Past;") (by decide +kernel)
  unfold f_X7_tell at hF
  refine lv_aload_n hx hb dX7_tell_0 rfl (lv_at hl 0 rfl) ?_
  refine va_get (ci := 7) (C := RX7) (T := TX7) (N := 6) (fs := (zTo x (ta 0) (na 0) (da 0) (pa 0) (ca 0) (sa 0))) (v := .ref (na 0)) hx hb hts iX7 hown hK hP _ (zat_l (wTo_at0 cy x (ta 0) (na 0) (da 0) (pa 0) (ca 0) (sa 0))) rfl 1 (by decide) k19 (fun _ h9 => h9) rfl dX7_tell_1 ?_
  refine lv_iload_n hx hb dX7_tell_4 rfl (lv_at hl 1 rfl) ?_
  refine z_cVi (b := na 0) (As := [.int x01]) (rest := []) (wc := (wLn cy na v)) (wcf := fun o' => (wLn cy na v)) (wf := fun o' => ((wTo cy x (ta 0) (na 0) (da 0) (pa 0) (ca 0) (sa 0)) ++ ((wTx cy ta tl td tn tq) ++ ((wPo cy pa la pn pz) ++ ((wLs cy la pl) ++ ((wCo cy ca (ra 0) sn sb c0 c1 c2 c3) ++ ((wLn cy ra tv) ++ ((wSe cy sa sp sq sk) ++ ((wLn cy na v) ++ (wLn cy da u)))))))))) (rf := fun o' => o') hF (fun o' hz => c_X1_has l G cy st na v x01 o' hz) (fun o' => (zCut_r (zCut_r (zCut_r (zCut_r (zCut_r (zCut_r (zCut_r (zCut_l zCut_all))))))))) ⟨hx, hb, hml, hown, hts⟩ (cwV 1 hts gX7_tell_X1_has rfl rfl rfl (by decide +kernel) ⟨by decide, by decide⟩) (ci := 1) (q0 := 0) rfl (wLn_at0 cy na v) hK hSE hA hP hD hS rfl hl.1 rfl (Nat.le_of_ble_eq_true rfl) dX7_tell_5 ⟨Nat.le_refl _, Nat.le_refl _⟩ (fun o1 hF H locs hP hD hS => ?_)
  refine zf_eq (tgt := 19) hx hb hF dX7_tell_8 (by decide) (fun hF => ?_) (fun hF => ?_)
  · refine lv_iconst (v := (-1)) hx hb dX7_tell_19 (by decide) ?_
    refine z_iret (o := o) (o1 := ((-1), pn, pz, pl, v)) (v := (-1)) (wf := (fun o => ((wTo cy x (ta 0) (na 0) (da 0) (pa 0) (ca 0) (sa 0)) ++ ((wTx cy ta tl td tn tq) ++ ((wPo cy pa la o.2.1 o.2.2.1) ++ ((wLs cy la o.2.2.2.1) ++ ((wCo cy ca (ra 0) sn sb c0 c1 c2 c3) ++ ((wLn cy ra tv) ++ ((wSe cy sa sp sq sk) ++ ((wLn cy na o.2.2.2.2) ++ (wLn cy da u))))))))))) (rf := fun o => o.1) hx hb hr hlocks hK ?_ ?_ hS ?_ rfl dX7_tell_20
    · exact hP
    · exact hD
    · exact hF
  · refine lv_iload_n hx hb dX7_tell_11 rfl (lv_at hl 2 rfl) ?_
    refine lv_iload_n hx hb dX7_tell_12 rfl (lv_at hl 3 rfl) ?_
    refine z_cSi (As := [.int x02, .int x03]) (rest := []) (wc := ([] : va_W)) (wcf := fun o' => ([] : va_W)) (wf := fun o' => ((wTo cy x (ta 0) (na 0) (da 0) (pa 0) (ca 0) (sa 0)) ++ ((wTx cy ta tl td tn tq) ++ ((wPo cy pa la pn pz) ++ ((wLs cy la pl) ++ ((wCo cy ca (ra 0) sn sb c0 c1 c2 c3) ++ ((wLn cy ra tv) ++ ((wSe cy sa sp sq sk) ++ ((wLn cy na v) ++ (wLn cy da u)))))))))) (rf := fun o' => o') hF (fun o' hz => c_X7_mayBeTold l G cy st x02 x03 o' hz) (fun o' => zCut_nil) ⟨hx, hb, hml, hown, hts⟩ (va_cwS 2 hts gX7_tell_X7_mayBeTold rfl rfl rfl (by decide +kernel) ⟨by decide, by decide⟩) hK hSE hA hP hD hS rfl hl.1 rfl (Nat.le_of_ble_eq_true rfl) dX7_tell_13 ⟨Nat.le_refl _, Nat.le_refl _⟩ (fun o2 hF H locs hP hD hS => ?_)
    refine zf_ne (tgt := 21) hx hb hF dX7_tell_16 (by decide) (fun hF => ?_) (fun hF => ?_)
    · refine lv_aload_n hx hb dX7_tell_21 rfl (lv_at hl 0 rfl) ?_
      refine va_get (ci := 7) (C := RX7) (T := TX7) (N := 6) (fs := (zTo x (ta 0) (na 0) (da 0) (pa 0) (ca 0) (sa 0))) (v := .ref (na 0)) hx hb hts iX7 hown hK hP _ (zat_l (wTo_at0 cy x (ta 0) (na 0) (da 0) (pa 0) (ca 0) (sa 0))) rfl 1 (by decide) k19 (fun _ h9 => h9) rfl dX7_tell_22 ?_
      refine va_get (ci := 1) (C := RX1) (T := TX1) (N := 6) (fs := (zLn na v)) (v := .ref (na 1)) hx hb hts iX1 hown hK hP _ (zat_r (wTo_len cy x (ta 0) (na 0) (da 0) (pa 0) (ca 0) (sa 0)) (zat_r (wTx_len cy ta tl td tn tq) (zat_r (wPo_len cy pa la pn pz) (zat_r (wLs_len cy la pl) (zat_r (wCo_len cy ca (ra 0) sn sb c0 c1 c2 c3) (zat_r (wLn_len cy ra tv) (zat_r (wSe_len cy sa sp sq sk) (zat_l (wLn_at0 cy na v))))))))) rfl 0 (by decide) k96 (fun _ h9 => h9) rfl dX7_tell_25 ?_
      refine lv_iload_n hx hb dX7_tell_28 rfl (lv_at hl 1 rfl) ?_
      refine z_aald (ad := (fun j => na (2 + j))) (n := 4) hx hb hK hP _ 5 (zat_r (wTo_len cy x (ta 0) (na 0) (da 0) (pa 0) (ca 0) (sa 0)) (zat_r (wTx_len cy ta tl td tn tq) (zat_r (wPo_len cy pa la pn pz) (zat_r (wLs_len cy la pl) (zat_r (wCo_len cy ca (ra 0) sn sb c0 c1 c2 c3) (zat_r (wLn_len cy ra tv) (zat_r (wSe_len cy sa sp sq sk) (zat_l (wLn_at1 cy na v))))))))) rfl hF dX7_tell_29 (fun h3 hF => ?_)
      refine lv_astore (lv' := [(4, .ref (na (2 + zn x01))), (0, .ref x), (1, .int x01), (2, .int x02), (3, .int x03)]) hx hb dX7_tell_30 hl (by decide) rfl (fun ls hl => ?_)
      refine lv_aload hx hb dX7_tell_32 (lv_at hl 0 rfl) ?_
      refine lv_iload_n hx hb dX7_tell_34 rfl (lv_at hl 3 rfl) ?_
      refine z_cVi (b := na (2 + zn x01)) (As := [.int x02]) (rest := []) (wc := (wSt cy (na (2 + zn x01)) (v (zn x01)))) (wcf := fun o' => (wSt cy (na (2 + zn x01)) (v (zn x01)))) (wf := fun o' => ((wTo cy x (ta 0) (na 0) (da 0) (pa 0) (ca 0) (sa 0)) ++ ((wTx cy ta tl td tn tq) ++ ((wPo cy pa la pn pz) ++ ((wLs cy la pl) ++ ((wCo cy ca (ra 0) sn sb c0 c1 c2 c3) ++ ((wLn cy ra tv) ++ ((wSe cy sa sp sq sk) ++ ((wLn cy na v) ++ (wLn cy da u)))))))))) (rf := fun o' => o') hF (fun o' hz => c_X4_valueToTell l G cy st (na (2 + zn x01)) (v (zn x01)) x02 o' hz) (fun o' => (zCut_r (zCut_r (zCut_r (zCut_r (zCut_r (zCut_r (zCut_r (zCut_l (wLn_cutS0 cy na v h3)))))))))) ⟨hx, hb, hml, hown, hts⟩ (cwV 1 hts gX7_tell_X4_valueToTell rfl rfl rfl (by decide +kernel) ⟨by decide, by decide⟩) (ci := 4) (q0 := 0) rfl (wSt_at0 cy (na (2 + zn x01)) (v (zn x01))) hK hSE hA hP hD hS rfl hl.1 rfl (Nat.le_of_ble_eq_true rfl) dX7_tell_35 ⟨Nat.le_refl _, Nat.le_refl _⟩ (fun o4 hF H locs hP hD hS => ?_)
      refine lv_istore (lv' := [(5, .int o4), (4, .ref (na (2 + zn x01))), (0, .ref x), (1, .int x01), (2, .int x02), (3, .int x03)]) hx hb dX7_tell_38 hl (by decide) rfl (fun ls hl => ?_)
      refine lv_iload hx hb dX7_tell_40 (lv_at hl 0 rfl) ?_
      refine lv_iload_n hx hb dX7_tell_42 rfl (lv_at hl 5 rfl) ?_
      refine zi_ne (tgt := 49) hx hb hF dX7_tell_43 (by decide) (fun hF => ?_) (fun hF => ?_)
      · refine lv_aload_n hx hb dX7_tell_49 rfl (lv_at hl 2 rfl) ?_
        refine va_get (ci := 7) (C := RX7) (T := TX7) (N := 6) (fs := (zTo x (ta 0) (na 0) (da 0) (pa 0) (ca 0) (sa 0))) (v := .ref (pa 0)) hx hb hts iX7 hown hK hP _ (zat_l (wTo_at0 cy x (ta 0) (na 0) (da 0) (pa 0) (ca 0) (sa 0))) rfl 3 (by decide) k29 (fun _ h9 => h9) rfl dX7_tell_50 ?_
        refine lv_aload_n hx hb dX7_tell_53 rfl (lv_at hl 2 rfl) ?_
        refine va_get (ci := 7) (C := RX7) (T := TX7) (N := 6) (fs := (zTo x (ta 0) (na 0) (da 0) (pa 0) (ca 0) (sa 0))) (v := .ref (na 0)) hx hb hts iX7 hown hK hP _ (zat_l (wTo_at0 cy x (ta 0) (na 0) (da 0) (pa 0) (ca 0) (sa 0))) rfl 1 (by decide) k19 (fun _ h9 => h9) rfl dX7_tell_54 ?_
        refine z_cVv (b := pa 0) (As := [.ref (na 0)]) (rest := []) (wc := ((wPo cy pa la pn pz) ++ ((wLs cy la pl) ++ (wLn cy na v)))) (wcf := fun o' => ((wPo cy pa la o'.1 o'.2.1) ++ ((wLs cy la o'.2.2) ++ (wLn cy na v)))) (wf := fun o' => ((wTo cy x (ta 0) (na 0) (da 0) (pa 0) (ca 0) (sa 0)) ++ ((wTx cy ta tl td tn tq) ++ ((wPo cy pa la o'.1 o'.2.1) ++ ((wLs cy la o'.2.2) ++ ((wCo cy ca (ra 0) sn sb c0 c1 c2 c3) ++ ((wLn cy ra tv) ++ ((wSe cy sa sp sq sk) ++ ((wLn cy na v) ++ (wLn cy da u)))))))))) hF (fun o' hz => c_X2_keep l G cy st pa la na pn pz pl v o' hz) (fun o' => (zCut_r (zCut_r (zCut_b zCut_all (zCut_b zCut_all (zCut_r (zCut_r (zCut_r (zCut_l zCut_all))))))))) ⟨hx, hb, hml, hown, hts⟩ (cwV 1 hts gX7_tell_X2_keep rfl rfl rfl (by decide +kernel) ⟨by decide, by decide⟩) (ci := 2) (q0 := 0) rfl (zat_l (wPo_at0 cy pa la pn pz)) hK hSE hA hP hD hS rfl hl.1 rfl (Nat.le_of_ble_eq_true rfl) dX7_tell_57 ⟨Nat.le_refl _, Nat.le_refl _⟩ (fun o5 hF H locs hP hD hS => ?_)
        refine lv_aload hx hb dX7_tell_60 (lv_at hl 1 rfl) ?_
        refine lv_iload_n hx hb dX7_tell_62 rfl (lv_at hl 4 rfl) ?_
        refine lv_iload_n hx hb dX7_tell_63 rfl (lv_at hl 5 rfl) ?_
        refine z_cVv (b := na (2 + zn x01)) (As := [.int x02, .int x03]) (rest := []) (wc := (wSt cy (na (2 + zn x01)) (v (zn x01)))) (wcf := fun o' => (wSt cy (na (2 + zn x01)) o')) (wf := fun o' => ((wTo cy x (ta 0) (na 0) (da 0) (pa 0) (ca 0) (sa 0)) ++ ((wTx cy ta tl td tn tq) ++ ((wPo cy pa la o5.1 o5.2.1) ++ ((wLs cy la o5.2.2) ++ ((wCo cy ca (ra 0) sn sb c0 c1 c2 c3) ++ ((wLn cy ra tv) ++ ((wSe cy sa sp sq sk) ++ ((wLn cy na (va_up v (zn x01) o')) ++ (wLn cy da u)))))))))) hF (fun o' hz => c_X4_takeTold l G cy st (na (2 + zn x01)) (v (zn x01)) x02 x03 o' hz) (fun o' => (zCut_r (zCut_r (zCut_r (zCut_r (zCut_r (zCut_r (zCut_r (zCut_l (wLn_cutS cy na v h3 _)))))))))) ⟨hx, hb, hml, hown, hts⟩ (cwV 2 hts gX7_tell_X4_takeTold rfl rfl rfl (by decide +kernel) ⟨by decide, by decide⟩) (ci := 4) (q0 := 0) rfl (wSt_at0 cy (na (2 + zn x01)) (v (zn x01))) hK hSE hA hP hD hS rfl hl.1 rfl (Nat.le_of_ble_eq_true rfl) dX7_tell_64 ⟨Nat.le_refl _, Nat.le_refl _⟩ (fun o6 hF H locs hP hD hS => ?_)
        refine z_nameW (wf := (fun y => ((wTo cy x (ta 0) (na 0) (da 0) (pa 0) (ca 0) (sa 0)) ++ ((wTx cy ta tl td tn tq) ++ ((wPo cy pa la o5.1 o5.2.1) ++ ((wLs cy la o5.2.2) ++ ((wCo cy ca (ra 0) sn sb c0 c1 c2 c3) ++ ((wLn cy ra tv) ++ ((wSe cy sa sp sq sk) ++ ((wLn cy na y) ++ (wLn cy da u))))))))))) hF hP hD (fun v_7 hF hP hD => ?_)
        refine lv_aload_n hx hb dX7_tell_67 rfl (lv_at hl 2 rfl) ?_
        refine va_get (ci := 7) (C := RX7) (T := TX7) (N := 6) (fs := (zTo x (ta 0) (na 0) (da 0) (pa 0) (ca 0) (sa 0))) (v := .ref (na 0)) hx hb hts iX7 hown hK hP _ (zat_l (wTo_at0 cy x (ta 0) (na 0) (da 0) (pa 0) (ca 0) (sa 0))) rfl 1 (by decide) k19 (fun _ h9 => h9) rfl dX7_tell_68 ?_
        refine z_cVv (b := na 0) (As := []) (rest := []) (wc := (wLn cy na v_7)) (wcf := fun o' => (wLn cy na o')) (wf := fun o' => ((wTo cy x (ta 0) (na 0) (da 0) (pa 0) (ca 0) (sa 0)) ++ ((wTx cy ta tl td tn tq) ++ ((wPo cy pa la o5.1 o5.2.1) ++ ((wLs cy la o5.2.2) ++ ((wCo cy ca (ra 0) sn sb c0 c1 c2 c3) ++ ((wLn cy ra tv) ++ ((wSe cy sa sp sq sk) ++ ((wLn cy na o') ++ (wLn cy da u)))))))))) hF (fun o' hz => c_X1_reckon l G cy st na v_7 o' hz) (fun o' => (zCut_r (zCut_r (zCut_r (zCut_r (zCut_r (zCut_r (zCut_r (zCut_l zCut_all))))))))) ⟨hx, hb, hml, hown, hts⟩ (cwV 0 hts gX7_tell_X1_reckon rfl rfl rfl (by decide +kernel) ⟨by decide, by decide⟩) (ci := 1) (q0 := 0) rfl (wLn_at0 cy na v_7) hK hSE hA hP hD hS rfl hl.1 rfl (Nat.le_of_ble_eq_true rfl) dX7_tell_71 ⟨Nat.le_refl _, Nat.le_refl _⟩ (fun o8 hF H locs hP hD hS => ?_)
        refine lv_iload hx hb dX7_tell_74 (lv_at hl 0 rfl) ?_
        refine z_iret (o := o) (o1 := (o4, o5.1, o5.2.1, o5.2.2, o8)) (v := o4) (wf := (fun o => ((wTo cy x (ta 0) (na 0) (da 0) (pa 0) (ca 0) (sa 0)) ++ ((wTx cy ta tl td tn tq) ++ ((wPo cy pa la o.2.1 o.2.2.1) ++ ((wLs cy la o.2.2.2.1) ++ ((wCo cy ca (ra 0) sn sb c0 c1 c2 c3) ++ ((wLn cy ra tv) ++ ((wSe cy sa sp sq sk) ++ ((wLn cy na o.2.2.2.2) ++ (wLn cy da u))))))))))) (rf := fun o => o.1) hx hb hr hlocks hK ?_ ?_ hS ?_ rfl dX7_tell_76
        · exact hP
        · exact hD
        · exact hF
      · refine lv_bipush (v := (-2)) hx hb dX7_tell_46 (by decide) ?_
        refine z_iret (o := o) (o1 := ((-2), pn, pz, pl, v)) (v := (-2)) (wf := (fun o => ((wTo cy x (ta 0) (na 0) (da 0) (pa 0) (ca 0) (sa 0)) ++ ((wTx cy ta tl td tn tq) ++ ((wPo cy pa la o.2.1 o.2.2.1) ++ ((wLs cy la o.2.2.2.1) ++ ((wCo cy ca (ra 0) sn sb c0 c1 c2 c3) ++ ((wLn cy ra tv) ++ ((wSe cy sa sp sq sk) ++ ((wLn cy na o.2.2.2.2) ++ (wLn cy da u))))))))))) (rf := fun o => o.1) hx hb hr hlocks hK ?_ ?_ hS ?_ rfl dX7_tell_48
        · exact hP
        · exact hD
        · exact hF
    · refine lv_iconst (v := (-1)) hx hb dX7_tell_19 (by decide) ?_
      refine z_iret (o := o) (o1 := ((-1), pn, pz, pl, v)) (v := (-1)) (wf := (fun o => ((wTo cy x (ta 0) (na 0) (da 0) (pa 0) (ca 0) (sa 0)) ++ ((wTx cy ta tl td tn tq) ++ ((wPo cy pa la o.2.1 o.2.2.1) ++ ((wLs cy la o.2.2.2.1) ++ ((wCo cy ca (ra 0) sn sb c0 c1 c2 c3) ++ ((wLn cy ra tv) ++ ((wSe cy sa sp sq sk) ++ ((wLn cy na o.2.2.2.2) ++ (wLn cy da u))))))))))) (rf := fun o => o.1) hx hb hr hlocks hK ?_ ?_ hS ?_ rfl dX7_tell_20
      · exact hP
      · exact hD
      · exact hF
def j_X7_stick_32 (pn : Int32) (pz : Int32) (pl : Nat → R2) (v : R2) (x01 : Int32) (t2 : Int32) : Option (Int32 × Int32 × Int32 × (Nat → R2) × R2) :=
zg (zin x01 4) (
if (v (zn x01) 11) = t2 then (
some ((-2), pn, pz, pl, v)) else (
zbd (f_X2_keep pn pz pl v) fun o4 =>
zg (zin x01 4) (
zg (zbo t2) (
zlet (z2 v (zn x01) 11 t2) fun v_6 =>
zbd (f_X1_stuckStages v_6) fun o7 =>
some (o7, o4.1, o4.2.1, o4.2.2, v_6)))))
def f_X7_stick (pn : Int32) (pz : Int32) (pl : Nat → R2) (v : R2) (x01 : Int32) (x02 : Int32) : Option (Int32 × Int32 × Int32 × (Nat → R2) × R2) :=
zbd (f_X1_has v x01) fun o1 =>
if o1 = 0 then (
some ((-1), pn, pz, pl, v)) else (
if x02 < 0 then (
some ((-1), pn, pz, pl, v)) else (
if x02 ≤ (1 : Int32) then (
if x02 = (1 : Int32) then (
j_X7_stick_32 pn pz pl v x01 1) else (
j_X7_stick_32 pn pz pl v x01 0)) else (
some ((-1), pn, pz, pl, v))))
set_option maxHeartbeats 4000000 in
set_option maxRecDepth 100000 in
theorem c_X7_stick (l : Launch) (G : va_G) (cy : Nat → ClassId) (st : Nat → Nat) (x : Nat) (ta : Nat → Nat) (pa : Nat → Nat) (la : Nat → Nat → Nat) (ca : Nat → Nat) (ra : Nat → Nat) (sa : Nat → Nat) (na : Nat → Nat) (da : Nat → Nat) (tl : Nat → Int32) (td : Nat → Int32) (tn : Int32) (tq : Int32) (pn : Int32) (pz : Int32) (pl : Nat → R2) (sn : Nat → Int64) (sb : Nat → Int32) (c0 : Int32) (c1 : Int32) (c2 : Int32) (c3 : Int32) (tv : R2) (sp : Nat → Int32) (sq : Nat → Int32) (sk : Int32) (v : R2) (u : R2) (x01 : Int32) (x02 : Int32) (o : Int32 × Int32 × Int32 × (Nat → R2) × R2) (hF : f_X7_stick pn pz pl v x01 x02 = some o) : zMi l yX7_stick wsX7_stick (zR 4) G cy st [.ref x, .int x01, .int x02] ((wTo cy x (ta 0) (na 0) (da 0) (pa 0) (ca 0) (sa 0)) ++ ((wTx cy ta tl td tn tq) ++ ((wPo cy pa la pn pz) ++ ((wLs cy la pl) ++ ((wCo cy ca (ra 0) sn sb c0 c1 c2 c3) ++ ((wLn cy ra tv) ++ ((wSe cy sa sp sq sk) ++ ((wLn cy na v) ++ (wLn cy da u))))))))) ((wTo cy x (ta 0) (na 0) (da 0) (pa 0) (ca 0) (sa 0)) ++ ((wTx cy ta tl td tn tq) ++ ((wPo cy pa la o.2.1 o.2.2.1) ++ ((wLs cy la o.2.2.2.1) ++ ((wCo cy ca (ra 0) sn sb c0 c1 c2 c3) ++ ((wLn cy ra tv) ++ ((wSe cy sa sp sq sk) ++ ((wLn cy na o.2.2.2.2) ++ (wLn cy da u))))))))) o.1 := by
  refine zM_of (cc := cX7_stick) (maxL := 4) (ret := (some .int)) (Qc := fun A => zQi G cy A ((wTo cy x (ta 0) (na 0) (da 0) (pa 0) (ca 0) (sa 0)) ++ ((wTx cy ta tl td tn tq) ++ ((wPo cy pa la o.2.1 o.2.2.1) ++ ((wLs cy la o.2.2.2.1) ++ ((wCo cy ca (ra 0) sn sb c0 c1 c2 c3) ++ ((wLn cy ra tv) ++ ((wSe cy sa sp sq sk) ++ ((wLn cy na o.2.2.2.2) ++ (wLn cy da u))))))))) o.1) (by decide) rfl (Nat.le_of_ble_eq_true rfl) ?_
  intro p e s m below meth c A ls hx hb hml hr hlocks hown hts hK hSE hA hP hD hS hl
  have hown : s.vm.findClass RX7 = some m.cls := hown
  have hl : lv_has ls 4 [(0, .ref x), (1, .int x01), (2, .int x02)] := hl
  have k19 := hts (.fieldLink RX7 19 "TapCascade" "line" "LTapCascade$Line;") (by decide +kernel)
  have iX7 : ∀ w ∈ wsX70, w ∈ wsX7_stick := fun w h => List.mem_cons_of_mem _ (List.mem_append_left _ (List.mem_append_left _ (List.mem_append_left _ (List.mem_append_left _ (List.mem_append_right _ h)))))
  have k96 := hts (.fieldLink RX7 96 "TapCascade$Line" "stages" "[LTapCascade$Stage;") (by decide +kernel)
  have iX1 : ∀ w ∈ wsX10, w ∈ wsX7_stick := fun w h => List.mem_cons_of_mem _ (List.mem_append_left _ (List.mem_append_left _ (List.mem_append_left _ (List.mem_append_right _ h))))
  have k110 := hts (.fieldLink RX7 110 "TapCascade$Stage" "stuck" "Z") (by decide +kernel)
  have iX4 : ∀ w ∈ wsX40, w ∈ wsX7_stick := fun w h => List.mem_cons_of_mem _ (List.mem_append_left _ (List.mem_append_left _ (List.mem_append_right _ h)))
  have k29 := hts (.fieldLink RX7 29 "TapCascade" "past" "LTapCascade$Past;") (by decide +kernel)
  unfold f_X7_stick at hF
  refine lv_aload_n hx hb dX7_stick_0 rfl (lv_at hl 0 rfl) ?_
  refine va_get (ci := 7) (C := RX7) (T := TX7) (N := 6) (fs := (zTo x (ta 0) (na 0) (da 0) (pa 0) (ca 0) (sa 0))) (v := .ref (na 0)) hx hb hts iX7 hown hK hP _ (zat_l (wTo_at0 cy x (ta 0) (na 0) (da 0) (pa 0) (ca 0) (sa 0))) rfl 1 (by decide) k19 (fun _ h9 => h9) rfl dX7_stick_1 ?_
  refine lv_iload_n hx hb dX7_stick_4 rfl (lv_at hl 1 rfl) ?_
  refine z_cVi (b := na 0) (As := [.int x01]) (rest := []) (wc := (wLn cy na v)) (wcf := fun o' => (wLn cy na v)) (wf := fun o' => ((wTo cy x (ta 0) (na 0) (da 0) (pa 0) (ca 0) (sa 0)) ++ ((wTx cy ta tl td tn tq) ++ ((wPo cy pa la pn pz) ++ ((wLs cy la pl) ++ ((wCo cy ca (ra 0) sn sb c0 c1 c2 c3) ++ ((wLn cy ra tv) ++ ((wSe cy sa sp sq sk) ++ ((wLn cy na v) ++ (wLn cy da u)))))))))) (rf := fun o' => o') hF (fun o' hz => c_X1_has l G cy st na v x01 o' hz) (fun o' => (zCut_r (zCut_r (zCut_r (zCut_r (zCut_r (zCut_r (zCut_r (zCut_l zCut_all))))))))) ⟨hx, hb, hml, hown, hts⟩ (cwV 1 hts gX7_stick_X1_has rfl rfl rfl (by decide +kernel) ⟨by decide, by decide⟩) (ci := 1) (q0 := 0) rfl (wLn_at0 cy na v) hK hSE hA hP hD hS rfl hl.1 rfl (Nat.le_of_ble_eq_true rfl) dX7_stick_5 ⟨Nat.le_refl _, Nat.le_refl _⟩ (fun o1 hF H locs hP hD hS => ?_)
  refine zf_eq (tgt := 20) hx hb hF dX7_stick_8 (by decide) (fun hF => ?_) (fun hF => ?_)
  · refine lv_iconst (v := (-1)) hx hb dX7_stick_20 (by decide) ?_
    refine z_iret (o := o) (o1 := ((-1), pn, pz, pl, v)) (v := (-1)) (wf := (fun o => ((wTo cy x (ta 0) (na 0) (da 0) (pa 0) (ca 0) (sa 0)) ++ ((wTx cy ta tl td tn tq) ++ ((wPo cy pa la o.2.1 o.2.2.1) ++ ((wLs cy la o.2.2.2.1) ++ ((wCo cy ca (ra 0) sn sb c0 c1 c2 c3) ++ ((wLn cy ra tv) ++ ((wSe cy sa sp sq sk) ++ ((wLn cy na o.2.2.2.2) ++ (wLn cy da u))))))))))) (rf := fun o => o.1) hx hb hr hlocks hK ?_ ?_ hS ?_ rfl dX7_stick_21
    · exact hP
    · exact hD
    · exact hF
  · refine lv_iload_n hx hb dX7_stick_11 rfl (lv_at hl 2 rfl) ?_
    refine zf_lt (tgt := 20) hx hb hF dX7_stick_12 (by decide) (fun hF => ?_) (fun hF => ?_)
    · refine lv_iconst (v := (-1)) hx hb dX7_stick_20 (by decide) ?_
      refine z_iret (o := o) (o1 := ((-1), pn, pz, pl, v)) (v := (-1)) (wf := (fun o => ((wTo cy x (ta 0) (na 0) (da 0) (pa 0) (ca 0) (sa 0)) ++ ((wTx cy ta tl td tn tq) ++ ((wPo cy pa la o.2.1 o.2.2.1) ++ ((wLs cy la o.2.2.2.1) ++ ((wCo cy ca (ra 0) sn sb c0 c1 c2 c3) ++ ((wLn cy ra tv) ++ ((wSe cy sa sp sq sk) ++ ((wLn cy na o.2.2.2.2) ++ (wLn cy da u))))))))))) (rf := fun o => o.1) hx hb hr hlocks hK ?_ ?_ hS ?_ rfl dX7_stick_21
      · exact hP
      · exact hD
      · exact hF
    · refine lv_iload_n hx hb dX7_stick_15 rfl (lv_at hl 2 rfl) ?_
      refine lv_iconst (v := 1) hx hb dX7_stick_16 (by decide) ?_
      refine zi_le (tgt := 22) hx hb hF dX7_stick_17 (by decide) (fun hF => ?_) (fun hF => ?_)
      · refine lv_iload_n hx hb dX7_stick_22 rfl (lv_at hl 2 rfl) ?_
        refine lv_iconst (v := 1) hx hb dX7_stick_23 (by decide) ?_
        have J32 : ∀ (t2 : Int32) (H : Heap) (locs : List Loc) (ls : Array Slot), va_P G vwCl ((wTo cy x (ta 0) (na 0) (da 0) (pa 0) (ca 0) (sa 0)) ++ ((wTx cy ta tl td tn tq) ++ ((wPo cy pa la pn pz) ++ ((wLs cy la pl) ++ ((wCo cy ca (ra 0) sn sb c0 c1 c2 c3) ++ ((wLn cy ra tv) ++ ((wSe cy sa sp sq sk) ++ ((wLn cy na v) ++ (wLn cy da u))))))))) H → va_D A ((wTo cy x (ta 0) (na 0) (da 0) (pa 0) (ca 0) (sa 0)) ++ ((wTx cy ta tl td tn tq) ++ ((wPo cy pa la pn pz) ++ ((wLs cy la pl) ++ ((wCo cy ca (ra 0) sn sb c0 c1 c2 c3) ++ ((wLn cy ra tv) ++ ((wSe cy sa sp sq sk) ++ ((wLn cy na v) ++ (wLn cy da u))))))))) → va_S A s.heap H locs → lv_has ls 4 [(0, .ref x), (1, .int x01)] → j_X7_stick_32 pn pz pl v x01 t2 = some o → W p l e (zR 4) s m ([.ref x, .int x01, .int x02] : List Value).toArray below meth c H locs 0 0 (MQ below (zQi G cy A ((wTo cy x (ta 0) (na 0) (da 0) (pa 0) (ca 0) (sa 0)) ++ ((wTx cy ta tl td tn tq) ++ ((wPo cy pa la o.2.1 o.2.2.1) ++ ((wLs cy la o.2.2.2.1) ++ ((wCo cy ca (ra 0) sn sb c0 c1 c2 c3) ++ ((wLn cy ra tv) ++ ((wSe cy sa sp sq sk) ++ ((wLn cy na o.2.2.2.2) ++ (wLn cy da u))))))))) o.1) ([.ref x, .int x01, .int x02] : List Value).toArray s 0 0 A) (F0 m 32 ls [.int t2]) := by
          intro t2 H locs ls hP hD hS hl hF
          unfold j_X7_stick_32 at hF
          refine lv_istore_n (lv' := [(3, .int t2), (0, .ref x), (1, .int x01)]) hx hb dX7_stick_32 rfl hl (by decide) rfl (fun ls hl => ?_)
          refine lv_aload_n hx hb dX7_stick_33 rfl (lv_at hl 1 rfl) ?_
          refine va_get (ci := 7) (C := RX7) (T := TX7) (N := 6) (fs := (zTo x (ta 0) (na 0) (da 0) (pa 0) (ca 0) (sa 0))) (v := .ref (na 0)) hx hb hts iX7 hown hK hP _ (zat_l (wTo_at0 cy x (ta 0) (na 0) (da 0) (pa 0) (ca 0) (sa 0))) rfl 1 (by decide) k19 (fun _ h9 => h9) rfl dX7_stick_34 ?_
          refine va_get (ci := 1) (C := RX1) (T := TX1) (N := 6) (fs := (zLn na v)) (v := .ref (na 1)) hx hb hts iX1 hown hK hP _ (zat_r (wTo_len cy x (ta 0) (na 0) (da 0) (pa 0) (ca 0) (sa 0)) (zat_r (wTx_len cy ta tl td tn tq) (zat_r (wPo_len cy pa la pn pz) (zat_r (wLs_len cy la pl) (zat_r (wCo_len cy ca (ra 0) sn sb c0 c1 c2 c3) (zat_r (wLn_len cy ra tv) (zat_r (wSe_len cy sa sp sq sk) (zat_l (wLn_at0 cy na v))))))))) rfl 0 (by decide) k96 (fun _ h9 => h9) rfl dX7_stick_37 ?_
          refine lv_iload_n hx hb dX7_stick_40 rfl (lv_at hl 2 rfl) ?_
          refine z_aald (ad := (fun j => na (2 + j))) (n := 4) hx hb hK hP _ 5 (zat_r (wTo_len cy x (ta 0) (na 0) (da 0) (pa 0) (ca 0) (sa 0)) (zat_r (wTx_len cy ta tl td tn tq) (zat_r (wPo_len cy pa la pn pz) (zat_r (wLs_len cy la pl) (zat_r (wCo_len cy ca (ra 0) sn sb c0 c1 c2 c3) (zat_r (wLn_len cy ra tv) (zat_r (wSe_len cy sa sp sq sk) (zat_l (wLn_at1 cy na v))))))))) rfl hF dX7_stick_41 (fun h3 hF => ?_)
          refine va_get (ci := 4) (C := RX4) (T := TX4) (N := 15) (fs := (zSt (v (zn x01)))) (v := .int (v (zn x01) 11)) hx hb hts iX4 hown hK hP _ (zat_r (wTo_len cy x (ta 0) (na 0) (da 0) (pa 0) (ca 0) (sa 0)) (zat_r (wTx_len cy ta tl td tn tq) (zat_r (wPo_len cy pa la pn pz) (zat_r (wLs_len cy la pl) (zat_r (wCo_len cy ca (ra 0) sn sb c0 c1 c2 c3) (zat_r (wLn_len cy ra tv) (zat_r (wSe_len cy sa sp sq sk) (zat_l (wLn_atS cy na v h3))))))))) rfl 11 (by decide) k110 (fun _ h9 => h9) rfl dX7_stick_42 ?_
          refine lv_iload_n hx hb dX7_stick_45 rfl (lv_at hl 0 rfl) ?_
          refine zi_ne (tgt := 52) hx hb hF dX7_stick_46 (by decide) (fun hF => ?_) (fun hF => ?_)
          · refine lv_aload_n hx hb dX7_stick_52 rfl (lv_at hl 1 rfl) ?_
            refine va_get (ci := 7) (C := RX7) (T := TX7) (N := 6) (fs := (zTo x (ta 0) (na 0) (da 0) (pa 0) (ca 0) (sa 0))) (v := .ref (pa 0)) hx hb hts iX7 hown hK hP _ (zat_l (wTo_at0 cy x (ta 0) (na 0) (da 0) (pa 0) (ca 0) (sa 0))) rfl 3 (by decide) k29 (fun _ h9 => h9) rfl dX7_stick_53 ?_
            refine lv_aload_n hx hb dX7_stick_56 rfl (lv_at hl 1 rfl) ?_
            refine va_get (ci := 7) (C := RX7) (T := TX7) (N := 6) (fs := (zTo x (ta 0) (na 0) (da 0) (pa 0) (ca 0) (sa 0))) (v := .ref (na 0)) hx hb hts iX7 hown hK hP _ (zat_l (wTo_at0 cy x (ta 0) (na 0) (da 0) (pa 0) (ca 0) (sa 0))) rfl 1 (by decide) k19 (fun _ h9 => h9) rfl dX7_stick_57 ?_
            refine z_cVv (b := pa 0) (As := [.ref (na 0)]) (rest := []) (wc := ((wPo cy pa la pn pz) ++ ((wLs cy la pl) ++ (wLn cy na v)))) (wcf := fun o' => ((wPo cy pa la o'.1 o'.2.1) ++ ((wLs cy la o'.2.2) ++ (wLn cy na v)))) (wf := fun o' => ((wTo cy x (ta 0) (na 0) (da 0) (pa 0) (ca 0) (sa 0)) ++ ((wTx cy ta tl td tn tq) ++ ((wPo cy pa la o'.1 o'.2.1) ++ ((wLs cy la o'.2.2) ++ ((wCo cy ca (ra 0) sn sb c0 c1 c2 c3) ++ ((wLn cy ra tv) ++ ((wSe cy sa sp sq sk) ++ ((wLn cy na v) ++ (wLn cy da u)))))))))) hF (fun o' hz => c_X2_keep l G cy st pa la na pn pz pl v o' hz) (fun o' => (zCut_r (zCut_r (zCut_b zCut_all (zCut_b zCut_all (zCut_r (zCut_r (zCut_r (zCut_l zCut_all))))))))) ⟨hx, hb, hml, hown, hts⟩ (cwV 1 hts gX7_stick_X2_keep rfl rfl rfl (by decide +kernel) ⟨by decide, by decide⟩) (ci := 2) (q0 := 0) rfl (zat_l (wPo_at0 cy pa la pn pz)) hK hSE hA hP hD hS rfl hl.1 rfl (Nat.le_of_ble_eq_true rfl) dX7_stick_60 ⟨Nat.le_refl _, Nat.le_refl _⟩ (fun o4 hF H locs hP hD hS => ?_)
            refine lv_aload_n hx hb dX7_stick_63 rfl (lv_at hl 1 rfl) ?_
            refine va_get (ci := 7) (C := RX7) (T := TX7) (N := 6) (fs := (zTo x (ta 0) (na 0) (da 0) (pa 0) (ca 0) (sa 0))) (v := .ref (na 0)) hx hb hts iX7 hown hK hP _ (zat_l (wTo_at0 cy x (ta 0) (na 0) (da 0) (pa 0) (ca 0) (sa 0))) rfl 1 (by decide) k19 (fun _ h9 => h9) rfl dX7_stick_64 ?_
            refine va_get (ci := 1) (C := RX1) (T := TX1) (N := 6) (fs := (zLn na v)) (v := .ref (na 1)) hx hb hts iX1 hown hK hP _ (zat_r (wTo_len cy x (ta 0) (na 0) (da 0) (pa 0) (ca 0) (sa 0)) (zat_r (wTx_len cy ta tl td tn tq) (zat_r (wPo_len cy pa la o4.1 o4.2.1) (zat_r (wLs_len cy la o4.2.2) (zat_r (wCo_len cy ca (ra 0) sn sb c0 c1 c2 c3) (zat_r (wLn_len cy ra tv) (zat_r (wSe_len cy sa sp sq sk) (zat_l (wLn_at0 cy na v))))))))) rfl 0 (by decide) k96 (fun _ h9 => h9) rfl dX7_stick_67 ?_
            refine lv_iload_n hx hb dX7_stick_70 rfl (lv_at hl 2 rfl) ?_
            refine z_aald (ad := (fun j => na (2 + j))) (n := 4) hx hb hK hP _ 5 (zat_r (wTo_len cy x (ta 0) (na 0) (da 0) (pa 0) (ca 0) (sa 0)) (zat_r (wTx_len cy ta tl td tn tq) (zat_r (wPo_len cy pa la o4.1 o4.2.1) (zat_r (wLs_len cy la o4.2.2) (zat_r (wCo_len cy ca (ra 0) sn sb c0 c1 c2 c3) (zat_r (wLn_len cy ra tv) (zat_r (wSe_len cy sa sp sq sk) (zat_l (wLn_at1 cy na v))))))))) rfl hF dX7_stick_71 (fun h5 hF => ?_)
            refine lv_iload_n hx hb dX7_stick_72 rfl (lv_at hl 0 rfl) ?_
            refine z_putz (ci := 4) (C := RX4) (T := TX4) (N := 15) (fs := (zSt (v (zn x01)))) (x := t2) (wf := (fun y => ((wTo cy x (ta 0) (na 0) (da 0) (pa 0) (ca 0) (sa 0)) ++ ((wTx cy ta tl td tn tq) ++ ((wPo cy pa la o4.1 o4.2.1) ++ ((wLs cy la o4.2.2) ++ ((wCo cy ca (ra 0) sn sb c0 c1 c2 c3) ++ ((wLn cy ra tv) ++ ((wSe cy sa sp sq sk) ++ ((wLn cy na y) ++ (wLn cy da u))))))))))) hx hb hts iX4 tyX4 tyX4_ok nmX4 hown hK hP hD hS _ 11 (zFoc_r (wTo_len cy x (ta 0) (na 0) (da 0) (pa 0) (ca 0) (sa 0)) (zFoc_r (wTx_len cy ta tl td tn tq) (zFoc_r (wPo_len cy pa la o4.1 o4.2.1) (zFoc_r (wLs_len cy la o4.2.2) (zFoc_r (wCo_len cy ca (ra 0) sn sb c0 c1 c2 c3) (zFoc_r (wLn_len cy ra tv) (zFoc_r (wSe_len cy sa sp sq sk) (zFoc_l (wLn_focS cy na v h5 11 (by decide) t2))))))))) rfl (by decide) k110 (fun _ h9 => h9) rfl (by decide +kernel) (Nat.le_of_ble_eq_true rfl) hF dX7_stick_73 (fun v_6 hF H locs hP hD hS => ?_)
            refine lv_aload_n hx hb dX7_stick_76 rfl (lv_at hl 1 rfl) ?_
            refine va_get (ci := 7) (C := RX7) (T := TX7) (N := 6) (fs := (zTo x (ta 0) (na 0) (da 0) (pa 0) (ca 0) (sa 0))) (v := .ref (na 0)) hx hb hts iX7 hown hK hP _ (zat_l (wTo_at0 cy x (ta 0) (na 0) (da 0) (pa 0) (ca 0) (sa 0))) rfl 1 (by decide) k19 (fun _ h9 => h9) rfl dX7_stick_77 ?_
            refine z_cVi (b := na 0) (As := []) (rest := []) (wc := (wLn cy na v_6)) (wcf := fun o' => (wLn cy na v_6)) (wf := fun o' => ((wTo cy x (ta 0) (na 0) (da 0) (pa 0) (ca 0) (sa 0)) ++ ((wTx cy ta tl td tn tq) ++ ((wPo cy pa la o4.1 o4.2.1) ++ ((wLs cy la o4.2.2) ++ ((wCo cy ca (ra 0) sn sb c0 c1 c2 c3) ++ ((wLn cy ra tv) ++ ((wSe cy sa sp sq sk) ++ ((wLn cy na v_6) ++ (wLn cy da u)))))))))) (rf := fun o' => o') hF (fun o' hz => c_X1_stuckStages l G cy st na v_6 o' hz) (fun o' => (zCut_r (zCut_r (zCut_r (zCut_r (zCut_r (zCut_r (zCut_r (zCut_l zCut_all))))))))) ⟨hx, hb, hml, hown, hts⟩ (cwV 0 hts gX7_stick_X1_stuckStages rfl rfl rfl (by decide +kernel) ⟨by decide, by decide⟩) (ci := 1) (q0 := 0) rfl (wLn_at0 cy na v_6) hK hSE hA hP hD hS rfl hl.1 rfl (Nat.le_of_ble_eq_true rfl) dX7_stick_80 ⟨Nat.le_refl _, Nat.le_refl _⟩ (fun o7 hF H locs hP hD hS => ?_)
            refine z_iret (o := o) (o1 := (o7, o4.1, o4.2.1, o4.2.2, v_6)) (v := o7) (wf := (fun o => ((wTo cy x (ta 0) (na 0) (da 0) (pa 0) (ca 0) (sa 0)) ++ ((wTx cy ta tl td tn tq) ++ ((wPo cy pa la o.2.1 o.2.2.1) ++ ((wLs cy la o.2.2.2.1) ++ ((wCo cy ca (ra 0) sn sb c0 c1 c2 c3) ++ ((wLn cy ra tv) ++ ((wSe cy sa sp sq sk) ++ ((wLn cy na o.2.2.2.2) ++ (wLn cy da u))))))))))) (rf := fun o => o.1) hx hb hr hlocks hK ?_ ?_ hS ?_ rfl dX7_stick_83
            · exact hP
            · exact hD
            · exact hF
          · refine lv_bipush (v := (-2)) hx hb dX7_stick_49 (by decide) ?_
            refine z_iret (o := o) (o1 := ((-2), pn, pz, pl, v)) (v := (-2)) (wf := (fun o => ((wTo cy x (ta 0) (na 0) (da 0) (pa 0) (ca 0) (sa 0)) ++ ((wTx cy ta tl td tn tq) ++ ((wPo cy pa la o.2.1 o.2.2.1) ++ ((wLs cy la o.2.2.2.1) ++ ((wCo cy ca (ra 0) sn sb c0 c1 c2 c3) ++ ((wLn cy ra tv) ++ ((wSe cy sa sp sq sk) ++ ((wLn cy na o.2.2.2.2) ++ (wLn cy da u))))))))))) (rf := fun o => o.1) hx hb hr hlocks hK ?_ ?_ hS ?_ rfl dX7_stick_51
            · exact hP
            · exact hD
            · exact hF
        refine zi_ne (tgt := 31) hx hb hF dX7_stick_24 (by decide) (fun hF => ?_) (fun hF => ?_)
        · refine lv_iconst (v := 0) hx hb dX7_stick_31 (by decide) ?_
          exact J32 0 _ _ ls hP hD hS (lv_sub hl [0, 1] rfl) hF
        · refine lv_iconst (v := 1) hx hb dX7_stick_27 (by decide) ?_
          refine lv_goto (tgt := 32) hx hb dX7_stick_28 (by decide) ?_
          exact J32 1 _ _ ls hP hD hS (lv_sub hl [0, 1] rfl) hF
      · refine lv_iconst (v := (-1)) hx hb dX7_stick_20 (by decide) ?_
        refine z_iret (o := o) (o1 := ((-1), pn, pz, pl, v)) (v := (-1)) (wf := (fun o => ((wTo cy x (ta 0) (na 0) (da 0) (pa 0) (ca 0) (sa 0)) ++ ((wTx cy ta tl td tn tq) ++ ((wPo cy pa la o.2.1 o.2.2.1) ++ ((wLs cy la o.2.2.2.1) ++ ((wCo cy ca (ra 0) sn sb c0 c1 c2 c3) ++ ((wLn cy ra tv) ++ ((wSe cy sa sp sq sk) ++ ((wLn cy na o.2.2.2.2) ++ (wLn cy da u))))))))))) (rf := fun o => o.1) hx hb hr hlocks hK ?_ ?_ hS ?_ rfl dX7_stick_21
        · exact hP
        · exact hD
        · exact hF
def j_X7_tick_73 (o1 : Int32 × Int32 × (Nat → R2)) (x2 : Int32) (v_3 : R2) : Option (Int32 × Int32 × Int32 × (Nat → R2) × R2) :=
some (((v_3 8 0) - x2), o1.1, o1.2.1, o1.2.2, v_3)
def b_X7_tick_55 (x01 : Int32) (o1 : Int32 × Int32 × (Nat → R2)) (x2 : Int32) (rc55 : (Int32 × R2) → Option (Int32 × Int32 × Int32 × (Nat → R2) × R2)) (s55 : Int32 × R2) : Option (Int32 × Int32 × Int32 × (Nat → R2) × R2) :=
if x01 ≤ s55.1 then (
j_X7_tick_73 o1 x2 s55.2) else (
zbd (f_X1_runTick s55.2) fun o4 =>
zlet (s55.1 + 1) fun x5 =>
rc55 (x5, o4))
def f_X7_tick (pn : Int32) (pz : Int32) (pl : Nat → R2) (v : R2) (x01 : Int32) : Option (Int32 × Int32 × Int32 × (Nat → R2) × R2) :=
if x01 < (1 : Int32) then (
some ((-1), pn, pz, pl, v)) else (
if x01 ≤ (50 : Int32) then (
if ((v 9 2) + x01) ≤ (9999 : Int32) then (
zbd (f_X2_keep pn pz pl v) fun o1 =>
zlet (v 8 0) fun x2 =>
zloop (b_X7_tick_55 x01 o1 x2) 1000 (0, v)) else (
some ((-2), pn, pz, pl, v))) else (
some ((-1), pn, pz, pl, v)))
set_option maxHeartbeats 4000000 in
set_option maxRecDepth 100000 in
theorem c_X7_tick (l : Launch) (G : va_G) (cy : Nat → ClassId) (st : Nat → Nat) (x : Nat) (ta : Nat → Nat) (pa : Nat → Nat) (la : Nat → Nat → Nat) (ca : Nat → Nat) (ra : Nat → Nat) (sa : Nat → Nat) (na : Nat → Nat) (da : Nat → Nat) (tl : Nat → Int32) (td : Nat → Int32) (tn : Int32) (tq : Int32) (pn : Int32) (pz : Int32) (pl : Nat → R2) (sn : Nat → Int64) (sb : Nat → Int32) (c0 : Int32) (c1 : Int32) (c2 : Int32) (c3 : Int32) (tv : R2) (sp : Nat → Int32) (sq : Nat → Int32) (sk : Int32) (v : R2) (u : R2) (x01 : Int32) (o : Int32 × Int32 × Int32 × (Nat → R2) × R2) (hF : f_X7_tick pn pz pl v x01 = some o) : zMi l yX7_tick wsX7_tick (zR 6) G cy st [.ref x, .int x01] ((wTo cy x (ta 0) (na 0) (da 0) (pa 0) (ca 0) (sa 0)) ++ ((wTx cy ta tl td tn tq) ++ ((wPo cy pa la pn pz) ++ ((wLs cy la pl) ++ ((wCo cy ca (ra 0) sn sb c0 c1 c2 c3) ++ ((wLn cy ra tv) ++ ((wSe cy sa sp sq sk) ++ ((wLn cy na v) ++ (wLn cy da u))))))))) ((wTo cy x (ta 0) (na 0) (da 0) (pa 0) (ca 0) (sa 0)) ++ ((wTx cy ta tl td tn tq) ++ ((wPo cy pa la o.2.1 o.2.2.1) ++ ((wLs cy la o.2.2.2.1) ++ ((wCo cy ca (ra 0) sn sb c0 c1 c2 c3) ++ ((wLn cy ra tv) ++ ((wSe cy sa sp sq sk) ++ ((wLn cy na o.2.2.2.2) ++ (wLn cy da u))))))))) o.1 := by
  refine zM_of (cc := cX7_tick) (maxL := 4) (ret := (some .int)) (Qc := fun A => zQi G cy A ((wTo cy x (ta 0) (na 0) (da 0) (pa 0) (ca 0) (sa 0)) ++ ((wTx cy ta tl td tn tq) ++ ((wPo cy pa la o.2.1 o.2.2.1) ++ ((wLs cy la o.2.2.2.1) ++ ((wCo cy ca (ra 0) sn sb c0 c1 c2 c3) ++ ((wLn cy ra tv) ++ ((wSe cy sa sp sq sk) ++ ((wLn cy na o.2.2.2.2) ++ (wLn cy da u))))))))) o.1) (by decide) rfl (Nat.le_of_ble_eq_true rfl) ?_
  intro p e s m below meth c A ls hx hb hml hr hlocks hown hts hK hSE hA hP hD hS hl
  have hown : s.vm.findClass RX7 = some m.cls := hown
  have hl : lv_has ls 4 [(0, .ref x), (1, .int x01)] := hl
  have k19 := hts (.fieldLink RX7 19 "TapCascade" "line" "LTapCascade$Line;") (by decide +kernel)
  have iX7 : ∀ w ∈ wsX70, w ∈ wsX7_tick := fun w h => List.mem_cons_of_mem _ (List.mem_append_left _ (List.mem_append_left _ (List.mem_append_left _ (List.mem_append_left _ (List.mem_append_right _ h)))))
  have k117 := hts (.fieldLink RX7 117 "TapCascade$Line" "ticks" "I") (by decide +kernel)
  have iX1 : ∀ w ∈ wsX10, w ∈ wsX7_tick := fun w h => List.mem_cons_of_mem _ (List.mem_append_left _ (List.mem_append_left _ (List.mem_append_left _ (List.mem_append_right _ h))))
  have k29 := hts (.fieldLink RX7 29 "TapCascade" "past" "LTapCascade$Past;") (by decide +kernel)
  have k120 := hts (.fieldLink RX7 120 "TapCascade$Line" "log" "LTapCascade$StepLog;") (by decide +kernel)
  have k124 := hts (.fieldLink RX7 124 "TapCascade$StepLog" "total" "I") (by decide +kernel)
  have iX5 : ∀ w ∈ wsX50, w ∈ wsX7_tick := fun w h => List.mem_cons_of_mem _ (List.mem_append_left _ (List.mem_append_left _ (List.mem_append_right _ h)))
  unfold f_X7_tick at hF
  refine lv_iload_n hx hb dX7_tick_0 rfl (lv_at hl 1 rfl) ?_
  refine lv_iconst (v := 1) hx hb dX7_tick_1 (by decide) ?_
  refine zi_lt (tgt := 11) hx hb hF dX7_tick_2 (by decide) (fun hF => ?_) (fun hF => ?_)
  · refine lv_iconst (v := (-1)) hx hb dX7_tick_11 (by decide) ?_
    refine z_iret (o := o) (o1 := ((-1), pn, pz, pl, v)) (v := (-1)) (wf := (fun o => ((wTo cy x (ta 0) (na 0) (da 0) (pa 0) (ca 0) (sa 0)) ++ ((wTx cy ta tl td tn tq) ++ ((wPo cy pa la o.2.1 o.2.2.1) ++ ((wLs cy la o.2.2.2.1) ++ ((wCo cy ca (ra 0) sn sb c0 c1 c2 c3) ++ ((wLn cy ra tv) ++ ((wSe cy sa sp sq sk) ++ ((wLn cy na o.2.2.2.2) ++ (wLn cy da u))))))))))) (rf := fun o => o.1) hx hb hr hlocks hK ?_ ?_ hS ?_ rfl dX7_tick_12
    · exact hP
    · exact hD
    · exact hF
  · refine lv_iload_n hx hb dX7_tick_5 rfl (lv_at hl 1 rfl) ?_
    refine lv_bipush (v := 50) hx hb dX7_tick_6 (by decide) ?_
    refine zi_le (tgt := 13) hx hb hF dX7_tick_8 (by decide) (fun hF => ?_) (fun hF => ?_)
    · refine lv_aload_n hx hb dX7_tick_13 rfl (lv_at hl 0 rfl) ?_
      refine va_get (ci := 7) (C := RX7) (T := TX7) (N := 6) (fs := (zTo x (ta 0) (na 0) (da 0) (pa 0) (ca 0) (sa 0))) (v := .ref (na 0)) hx hb hts iX7 hown hK hP _ (zat_l (wTo_at0 cy x (ta 0) (na 0) (da 0) (pa 0) (ca 0) (sa 0))) rfl 1 (by decide) k19 (fun _ h9 => h9) rfl dX7_tick_14 ?_
      refine va_get (ci := 1) (C := RX1) (T := TX1) (N := 6) (fs := (zLn na v)) (v := .int (v 9 2)) hx hb hts iX1 hown hK hP _ (zat_r (wTo_len cy x (ta 0) (na 0) (da 0) (pa 0) (ca 0) (sa 0)) (zat_r (wTx_len cy ta tl td tn tq) (zat_r (wPo_len cy pa la pn pz) (zat_r (wLs_len cy la pl) (zat_r (wCo_len cy ca (ra 0) sn sb c0 c1 c2 c3) (zat_r (wLn_len cy ra tv) (zat_r (wSe_len cy sa sp sq sk) (zat_l (wLn_at0 cy na v))))))))) rfl 5 (by decide) k117 (fun _ h9 => h9) rfl dX7_tick_17 ?_
      refine lv_iload_n hx hb dX7_tick_20 rfl (lv_at hl 1 rfl) ?_
      refine lv_iadd hx hb dX7_tick_21 ?_
      refine lv_sipush (v := 9999) hx hb dX7_tick_22 (by decide) ?_
      refine zi_le (tgt := 31) hx hb hF dX7_tick_25 (by decide) (fun hF => ?_) (fun hF => ?_)
      · refine lv_aload_n hx hb dX7_tick_31 rfl (lv_at hl 0 rfl) ?_
        refine va_get (ci := 7) (C := RX7) (T := TX7) (N := 6) (fs := (zTo x (ta 0) (na 0) (da 0) (pa 0) (ca 0) (sa 0))) (v := .ref (pa 0)) hx hb hts iX7 hown hK hP _ (zat_l (wTo_at0 cy x (ta 0) (na 0) (da 0) (pa 0) (ca 0) (sa 0))) rfl 3 (by decide) k29 (fun _ h9 => h9) rfl dX7_tick_32 ?_
        refine lv_aload_n hx hb dX7_tick_35 rfl (lv_at hl 0 rfl) ?_
        refine va_get (ci := 7) (C := RX7) (T := TX7) (N := 6) (fs := (zTo x (ta 0) (na 0) (da 0) (pa 0) (ca 0) (sa 0))) (v := .ref (na 0)) hx hb hts iX7 hown hK hP _ (zat_l (wTo_at0 cy x (ta 0) (na 0) (da 0) (pa 0) (ca 0) (sa 0))) rfl 1 (by decide) k19 (fun _ h9 => h9) rfl dX7_tick_36 ?_
        refine z_cVv (b := pa 0) (As := [.ref (na 0)]) (rest := []) (wc := ((wPo cy pa la pn pz) ++ ((wLs cy la pl) ++ (wLn cy na v)))) (wcf := fun o' => ((wPo cy pa la o'.1 o'.2.1) ++ ((wLs cy la o'.2.2) ++ (wLn cy na v)))) (wf := fun o' => ((wTo cy x (ta 0) (na 0) (da 0) (pa 0) (ca 0) (sa 0)) ++ ((wTx cy ta tl td tn tq) ++ ((wPo cy pa la o'.1 o'.2.1) ++ ((wLs cy la o'.2.2) ++ ((wCo cy ca (ra 0) sn sb c0 c1 c2 c3) ++ ((wLn cy ra tv) ++ ((wSe cy sa sp sq sk) ++ ((wLn cy na v) ++ (wLn cy da u)))))))))) hF (fun o' hz => c_X2_keep l G cy st pa la na pn pz pl v o' hz) (fun o' => (zCut_r (zCut_r (zCut_b zCut_all (zCut_b zCut_all (zCut_r (zCut_r (zCut_r (zCut_l zCut_all))))))))) ⟨hx, hb, hml, hown, hts⟩ (cwV 1 hts gX7_tick_X2_keep rfl rfl rfl (by decide +kernel) ⟨by decide, by decide⟩) (ci := 2) (q0 := 0) rfl (zat_l (wPo_at0 cy pa la pn pz)) hK hSE hA hP hD hS rfl hl.1 rfl (Nat.le_of_ble_eq_true rfl) dX7_tick_39 ⟨Nat.le_refl _, Nat.le_refl _⟩ (fun o1 hF H locs hP hD hS => ?_)
        refine lv_aload_n hx hb dX7_tick_42 rfl (lv_at hl 0 rfl) ?_
        refine va_get (ci := 7) (C := RX7) (T := TX7) (N := 6) (fs := (zTo x (ta 0) (na 0) (da 0) (pa 0) (ca 0) (sa 0))) (v := .ref (na 0)) hx hb hts iX7 hown hK hP _ (zat_l (wTo_at0 cy x (ta 0) (na 0) (da 0) (pa 0) (ca 0) (sa 0))) rfl 1 (by decide) k19 (fun _ h9 => h9) rfl dX7_tick_43 ?_
        refine va_get (ci := 1) (C := RX1) (T := TX1) (N := 6) (fs := (zLn na v)) (v := .ref (na 7)) hx hb hts iX1 hown hK hP _ (zat_r (wTo_len cy x (ta 0) (na 0) (da 0) (pa 0) (ca 0) (sa 0)) (zat_r (wTx_len cy ta tl td tn tq) (zat_r (wPo_len cy pa la o1.1 o1.2.1) (zat_r (wLs_len cy la o1.2.2) (zat_r (wCo_len cy ca (ra 0) sn sb c0 c1 c2 c3) (zat_r (wLn_len cy ra tv) (zat_r (wSe_len cy sa sp sq sk) (zat_l (wLn_at0 cy na v))))))))) rfl 2 (by decide) k120 (fun _ h9 => h9) rfl dX7_tick_46 ?_
        refine va_get (ci := 5) (C := RX5) (T := TX5) (N := 5) (fs := (zLnL na v)) (v := .int (v 8 0)) hx hb hts iX5 hown hK hP _ (zat_r (wTo_len cy x (ta 0) (na 0) (da 0) (pa 0) (ca 0) (sa 0)) (zat_r (wTx_len cy ta tl td tn tq) (zat_r (wPo_len cy pa la o1.1 o1.2.1) (zat_r (wLs_len cy la o1.2.2) (zat_r (wCo_len cy ca (ra 0) sn sb c0 c1 c2 c3) (zat_r (wLn_len cy ra tv) (zat_r (wSe_len cy sa sp sq sk) (zat_l (wLn_at7 cy na v))))))))) rfl 3 (by decide) k124 (fun _ h9 => h9) rfl dX7_tick_49 ?_
        refine z_leti hF (fun x2 hF => ?_)
        refine lv_istore_n (lv' := [(2, .int x2), (0, .ref x), (1, .int x01)]) hx hb dX7_tick_52 rfl hl (by decide) rfl (fun ls hl => ?_)
        refine lv_iconst (v := 0) hx hb dX7_tick_53 (by decide) ?_
        refine lv_istore_n (lv' := [(3, .int 0), (2, .int x2), (0, .ref x), (1, .int x01)]) hx hb dX7_tick_54 rfl hl (by decide) rfl (fun ls hl => ?_)
        have J73 : ∀ (v_3 : R2) (H : Heap) (locs : List Loc) (ls : Array Slot), va_P G vwCl ((wTo cy x (ta 0) (na 0) (da 0) (pa 0) (ca 0) (sa 0)) ++ ((wTx cy ta tl td tn tq) ++ ((wPo cy pa la o1.1 o1.2.1) ++ ((wLs cy la o1.2.2) ++ ((wCo cy ca (ra 0) sn sb c0 c1 c2 c3) ++ ((wLn cy ra tv) ++ ((wSe cy sa sp sq sk) ++ ((wLn cy na v_3) ++ (wLn cy da u))))))))) H → va_D A ((wTo cy x (ta 0) (na 0) (da 0) (pa 0) (ca 0) (sa 0)) ++ ((wTx cy ta tl td tn tq) ++ ((wPo cy pa la o1.1 o1.2.1) ++ ((wLs cy la o1.2.2) ++ ((wCo cy ca (ra 0) sn sb c0 c1 c2 c3) ++ ((wLn cy ra tv) ++ ((wSe cy sa sp sq sk) ++ ((wLn cy na v_3) ++ (wLn cy da u))))))))) → va_S A s.heap H locs → lv_has ls 4 [(0, .ref x), (2, .int x2)] → j_X7_tick_73 o1 x2 v_3 = some o → W p l e (zR 6) s m ([.ref x, .int x01] : List Value).toArray below meth c H locs 0 0 (MQ below (zQi G cy A ((wTo cy x (ta 0) (na 0) (da 0) (pa 0) (ca 0) (sa 0)) ++ ((wTx cy ta tl td tn tq) ++ ((wPo cy pa la o.2.1 o.2.2.1) ++ ((wLs cy la o.2.2.2.1) ++ ((wCo cy ca (ra 0) sn sb c0 c1 c2 c3) ++ ((wLn cy ra tv) ++ ((wSe cy sa sp sq sk) ++ ((wLn cy na o.2.2.2.2) ++ (wLn cy da u))))))))) o.1) ([.ref x, .int x01] : List Value).toArray s 0 0 A) (F0 m 73 ls []) := by
          intro v_3 H locs ls hP hD hS hl hF
          unfold j_X7_tick_73 at hF
          refine lv_aload_n hx hb dX7_tick_73 rfl (lv_at hl 0 rfl) ?_
          refine va_get (ci := 7) (C := RX7) (T := TX7) (N := 6) (fs := (zTo x (ta 0) (na 0) (da 0) (pa 0) (ca 0) (sa 0))) (v := .ref (na 0)) hx hb hts iX7 hown hK hP _ (zat_l (wTo_at0 cy x (ta 0) (na 0) (da 0) (pa 0) (ca 0) (sa 0))) rfl 1 (by decide) k19 (fun _ h9 => h9) rfl dX7_tick_74 ?_
          refine va_get (ci := 1) (C := RX1) (T := TX1) (N := 6) (fs := (zLn na v_3)) (v := .ref (na 7)) hx hb hts iX1 hown hK hP _ (zat_r (wTo_len cy x (ta 0) (na 0) (da 0) (pa 0) (ca 0) (sa 0)) (zat_r (wTx_len cy ta tl td tn tq) (zat_r (wPo_len cy pa la o1.1 o1.2.1) (zat_r (wLs_len cy la o1.2.2) (zat_r (wCo_len cy ca (ra 0) sn sb c0 c1 c2 c3) (zat_r (wLn_len cy ra tv) (zat_r (wSe_len cy sa sp sq sk) (zat_l (wLn_at0 cy na v_3))))))))) rfl 2 (by decide) k120 (fun _ h9 => h9) rfl dX7_tick_77 ?_
          refine va_get (ci := 5) (C := RX5) (T := TX5) (N := 5) (fs := (zLnL na v_3)) (v := .int (v_3 8 0)) hx hb hts iX5 hown hK hP _ (zat_r (wTo_len cy x (ta 0) (na 0) (da 0) (pa 0) (ca 0) (sa 0)) (zat_r (wTx_len cy ta tl td tn tq) (zat_r (wPo_len cy pa la o1.1 o1.2.1) (zat_r (wLs_len cy la o1.2.2) (zat_r (wCo_len cy ca (ra 0) sn sb c0 c1 c2 c3) (zat_r (wLn_len cy ra tv) (zat_r (wSe_len cy sa sp sq sk) (zat_l (wLn_at7 cy na v_3))))))))) rfl 3 (by decide) k124 (fun _ h9 => h9) rfl dX7_tick_80 ?_
          refine lv_iload_n hx hb dX7_tick_83 rfl (lv_at hl 1 rfl) ?_
          refine lv_isub hx hb dX7_tick_84 ?_
          refine z_iret (o := o) (o1 := (((v_3 8 0) - x2), o1.1, o1.2.1, o1.2.2, v_3)) (v := ((v_3 8 0) - x2)) (wf := (fun o => ((wTo cy x (ta 0) (na 0) (da 0) (pa 0) (ca 0) (sa 0)) ++ ((wTx cy ta tl td tn tq) ++ ((wPo cy pa la o.2.1 o.2.2.1) ++ ((wLs cy la o.2.2.2.1) ++ ((wCo cy ca (ra 0) sn sb c0 c1 c2 c3) ++ ((wLn cy ra tv) ++ ((wSe cy sa sp sq sk) ++ ((wLn cy na o.2.2.2.2) ++ (wLn cy da u))))))))))) (rf := fun o => o.1) hx hb hr hlocks hK ?_ ?_ hS ?_ rfl dX7_tick_85
          · exact hP
          · exact hD
          · exact hF
        have L55 : ∀ (n : Nat) (s55 : Int32 × R2) (H : Heap) (locs : List Loc) (ls : Array Slot), va_P G vwCl ((wTo cy x (ta 0) (na 0) (da 0) (pa 0) (ca 0) (sa 0)) ++ ((wTx cy ta tl td tn tq) ++ ((wPo cy pa la o1.1 o1.2.1) ++ ((wLs cy la o1.2.2) ++ ((wCo cy ca (ra 0) sn sb c0 c1 c2 c3) ++ ((wLn cy ra tv) ++ ((wSe cy sa sp sq sk) ++ ((wLn cy na s55.2) ++ (wLn cy da u))))))))) H → va_D A ((wTo cy x (ta 0) (na 0) (da 0) (pa 0) (ca 0) (sa 0)) ++ ((wTx cy ta tl td tn tq) ++ ((wPo cy pa la o1.1 o1.2.1) ++ ((wLs cy la o1.2.2) ++ ((wCo cy ca (ra 0) sn sb c0 c1 c2 c3) ++ ((wLn cy ra tv) ++ ((wSe cy sa sp sq sk) ++ ((wLn cy na s55.2) ++ (wLn cy da u))))))))) → va_S A s.heap H locs → lv_has ls 4 [(0, .ref x), (1, .int x01), (2, .int x2), (3, .int s55.1)] → zloop (b_X7_tick_55 x01 o1 x2) n s55 = some o → W p l e (zR 6) s m ([.ref x, .int x01] : List Value).toArray below meth c H locs 0 0 (MQ below (zQi G cy A ((wTo cy x (ta 0) (na 0) (da 0) (pa 0) (ca 0) (sa 0)) ++ ((wTx cy ta tl td tn tq) ++ ((wPo cy pa la o.2.1 o.2.2.1) ++ ((wLs cy la o.2.2.2.1) ++ ((wCo cy ca (ra 0) sn sb c0 c1 c2 c3) ++ ((wLn cy ra tv) ++ ((wSe cy sa sp sq sk) ++ ((wLn cy na o.2.2.2.2) ++ (wLn cy da u))))))))) o.1) ([.ref x, .int x01] : List Value).toArray s 0 0 A) (F0 m 55 ls []) := by
          intro n
          induction n with
          | zero => exact fun s55 H locs ls _ _ _ _ hF => (zloop_0 hF).elim
          | succ n ih55 =>
            intro s55 H locs ls hP hD hS hl hF
            have hF : b_X7_tick_55 x01 o1 x2 (zloop (b_X7_tick_55 x01 o1 x2) n) s55 = some o := hF
            generalize zloop (b_X7_tick_55 x01 o1 x2) n = rc55 at ih55 hF
            unfold b_X7_tick_55 at hF
            refine lv_iload_n hx hb dX7_tick_55 rfl (lv_at hl 3 rfl) ?_
            refine lv_iload_n hx hb dX7_tick_56 rfl (lv_at hl 1 rfl) ?_
            refine zi_ge (tgt := 73) hx hb hF dX7_tick_57 (by decide) (fun hF => ?_) (fun hF => ?_)
            · exact J73 s55.2 _ _ ls hP hD hS (lv_sub hl [0, 2] rfl) hF
            · refine lv_aload_n hx hb dX7_tick_60 rfl (lv_at hl 0 rfl) ?_
              refine va_get (ci := 7) (C := RX7) (T := TX7) (N := 6) (fs := (zTo x (ta 0) (na 0) (da 0) (pa 0) (ca 0) (sa 0))) (v := .ref (na 0)) hx hb hts iX7 hown hK hP _ (zat_l (wTo_at0 cy x (ta 0) (na 0) (da 0) (pa 0) (ca 0) (sa 0))) rfl 1 (by decide) k19 (fun _ h9 => h9) rfl dX7_tick_61 ?_
              refine z_cVv (b := na 0) (As := []) (rest := []) (wc := (wLn cy na s55.2)) (wcf := fun o' => (wLn cy na o')) (wf := fun o' => ((wTo cy x (ta 0) (na 0) (da 0) (pa 0) (ca 0) (sa 0)) ++ ((wTx cy ta tl td tn tq) ++ ((wPo cy pa la o1.1 o1.2.1) ++ ((wLs cy la o1.2.2) ++ ((wCo cy ca (ra 0) sn sb c0 c1 c2 c3) ++ ((wLn cy ra tv) ++ ((wSe cy sa sp sq sk) ++ ((wLn cy na o') ++ (wLn cy da u)))))))))) hF (fun o' hz => c_X1_runTick l G cy st na s55.2 o' hz) (fun o' => (zCut_r (zCut_r (zCut_r (zCut_r (zCut_r (zCut_r (zCut_r (zCut_l zCut_all))))))))) ⟨hx, hb, hml, hown, hts⟩ (cwV 0 hts gX7_tick_X1_runTick rfl rfl rfl (by decide +kernel) ⟨by decide, by decide⟩) (ci := 1) (q0 := 0) rfl (wLn_at0 cy na s55.2) hK hSE hA hP hD hS rfl hl.1 rfl (Nat.le_of_ble_eq_true rfl) dX7_tick_64 ⟨Nat.le_refl _, Nat.le_refl _⟩ (fun o4 hF H locs hP hD hS => ?_)
              refine z_name hF (fun x5 ex5 hF => ?_)
              refine lv_iinc (v := x5) (lv' := [(3, .int x5), (0, .ref x), (1, .int x01), (2, .int x2)]) hx hb dX7_tick_67 hl (k := 3) rfl (by rw [ex5]; rfl) (by decide) rfl (fun ls hl => ?_)
              refine lv_goto (tgt := 55) hx hb dX7_tick_70 (by decide) ?_
              exact ih55 (x5, o4) _ _ ls hP hD hS (lv_sub hl [1, 2, 3, 0] rfl) hF
        exact L55 1000 (0, v) _ _ ls hP hD hS (lv_sub hl [2, 3, 1, 0] rfl) hF
      · refine lv_bipush (v := (-2)) hx hb dX7_tick_28 (by decide) ?_
        refine z_iret (o := o) (o1 := ((-2), pn, pz, pl, v)) (v := (-2)) (wf := (fun o => ((wTo cy x (ta 0) (na 0) (da 0) (pa 0) (ca 0) (sa 0)) ++ ((wTx cy ta tl td tn tq) ++ ((wPo cy pa la o.2.1 o.2.2.1) ++ ((wLs cy la o.2.2.2.1) ++ ((wCo cy ca (ra 0) sn sb c0 c1 c2 c3) ++ ((wLn cy ra tv) ++ ((wSe cy sa sp sq sk) ++ ((wLn cy na o.2.2.2.2) ++ (wLn cy da u))))))))))) (rf := fun o => o.1) hx hb hr hlocks hK ?_ ?_ hS ?_ rfl dX7_tick_30
        · exact hP
        · exact hD
        · exact hF
    · refine lv_iconst (v := (-1)) hx hb dX7_tick_11 (by decide) ?_
      refine z_iret (o := o) (o1 := ((-1), pn, pz, pl, v)) (v := (-1)) (wf := (fun o => ((wTo cy x (ta 0) (na 0) (da 0) (pa 0) (ca 0) (sa 0)) ++ ((wTx cy ta tl td tn tq) ++ ((wPo cy pa la o.2.1 o.2.2.1) ++ ((wLs cy la o.2.2.2.1) ++ ((wCo cy ca (ra 0) sn sb c0 c1 c2 c3) ++ ((wLn cy ra tv) ++ ((wSe cy sa sp sq sk) ++ ((wLn cy na o.2.2.2.2) ++ (wLn cy da u))))))))))) (rf := fun o => o.1) hx hb hr hlocks hK ?_ ?_ hS ?_ rfl dX7_tick_12
      · exact hP
      · exact hD
      · exact hF
def f_X7_undo (pn : Int32) (pz : Int32) (pl : Nat → R2) (v : R2) : Option (Int32 × Int32 × Int32 × R2) :=
if pz = 0 then (
some ((-2), pn, pz, v)) else (
zbd (f_X2_giveBack pn pz pl v) fun o1 =>
some (o1.2.1, o1.1, o1.2.1, o1.2.2))
set_option maxHeartbeats 4000000 in
set_option maxRecDepth 100000 in
theorem c_X7_undo (l : Launch) (G : va_G) (cy : Nat → ClassId) (st : Nat → Nat) (x : Nat) (ta : Nat → Nat) (pa : Nat → Nat) (la : Nat → Nat → Nat) (ca : Nat → Nat) (ra : Nat → Nat) (sa : Nat → Nat) (na : Nat → Nat) (da : Nat → Nat) (tl : Nat → Int32) (td : Nat → Int32) (tn : Int32) (tq : Int32) (pn : Int32) (pz : Int32) (pl : Nat → R2) (sn : Nat → Int64) (sb : Nat → Int32) (c0 : Int32) (c1 : Int32) (c2 : Int32) (c3 : Int32) (tv : R2) (sp : Nat → Int32) (sq : Nat → Int32) (sk : Int32) (v : R2) (u : R2) (o : Int32 × Int32 × Int32 × R2) (hF : f_X7_undo pn pz pl v = some o) : zMi l yX7_undo wsX7_undo (zR 4) G cy st [.ref x] ((wTo cy x (ta 0) (na 0) (da 0) (pa 0) (ca 0) (sa 0)) ++ ((wTx cy ta tl td tn tq) ++ ((wPo cy pa la pn pz) ++ ((wLs cy la pl) ++ ((wCo cy ca (ra 0) sn sb c0 c1 c2 c3) ++ ((wLn cy ra tv) ++ ((wSe cy sa sp sq sk) ++ ((wLn cy na v) ++ (wLn cy da u))))))))) ((wTo cy x (ta 0) (na 0) (da 0) (pa 0) (ca 0) (sa 0)) ++ ((wTx cy ta tl td tn tq) ++ ((wPo cy pa la o.2.1 o.2.2.1) ++ ((wLs cy la pl) ++ ((wCo cy ca (ra 0) sn sb c0 c1 c2 c3) ++ ((wLn cy ra tv) ++ ((wSe cy sa sp sq sk) ++ ((wLn cy na o.2.2.2) ++ (wLn cy da u))))))))) o.1 := by
  refine zM_of (cc := cX7_undo) (maxL := 1) (ret := (some .int)) (Qc := fun A => zQi G cy A ((wTo cy x (ta 0) (na 0) (da 0) (pa 0) (ca 0) (sa 0)) ++ ((wTx cy ta tl td tn tq) ++ ((wPo cy pa la o.2.1 o.2.2.1) ++ ((wLs cy la pl) ++ ((wCo cy ca (ra 0) sn sb c0 c1 c2 c3) ++ ((wLn cy ra tv) ++ ((wSe cy sa sp sq sk) ++ ((wLn cy na o.2.2.2) ++ (wLn cy da u))))))))) o.1) (by decide) rfl (Nat.le_of_ble_eq_true rfl) ?_
  intro p e s m below meth c A ls hx hb hml hr hlocks hown hts hK hSE hA hP hD hS hl
  have hown : s.vm.findClass RX7 = some m.cls := hown
  have hl : lv_has ls 1 [(0, .ref x)] := hl
  have k29 := hts (.fieldLink RX7 29 "TapCascade" "past" "LTapCascade$Past;") (by decide +kernel)
  have iX7 : ∀ w ∈ wsX70, w ∈ wsX7_undo := fun w h => List.mem_cons_of_mem _ (List.mem_append_left _ (List.mem_append_left _ (List.mem_append_left _ (List.mem_append_left _ (List.mem_append_right _ h)))))
  have k132 := hts (.fieldLink RX7 132 "TapCascade$Past" "size" "I") (by decide +kernel)
  have iX2 : ∀ w ∈ wsX20, w ∈ wsX7_undo := fun w h => List.mem_cons_of_mem _ (List.mem_append_left _ (List.mem_append_left _ (List.mem_append_left _ (List.mem_append_right _ h))))
  have k19 := hts (.fieldLink RX7 19 "TapCascade" "line" "LTapCascade$Line;") (by decide +kernel)
  unfold f_X7_undo at hF
  refine lv_aload_n hx hb dX7_undo_0 rfl (lv_at hl 0 rfl) ?_
  refine va_get (ci := 7) (C := RX7) (T := TX7) (N := 6) (fs := (zTo x (ta 0) (na 0) (da 0) (pa 0) (ca 0) (sa 0))) (v := .ref (pa 0)) hx hb hts iX7 hown hK hP _ (zat_l (wTo_at0 cy x (ta 0) (na 0) (da 0) (pa 0) (ca 0) (sa 0))) rfl 3 (by decide) k29 (fun _ h9 => h9) rfl dX7_undo_1 ?_
  refine va_get (ci := 2) (C := RX2) (T := TX2) (N := 3) (fs := (zPo pa la pn pz)) (v := .int pz) hx hb hts iX2 hown hK hP _ (zat_r (wTo_len cy x (ta 0) (na 0) (da 0) (pa 0) (ca 0) (sa 0)) (zat_r (wTx_len cy ta tl td tn tq) (zat_l (wPo_at0 cy pa la pn pz)))) rfl 2 (by decide) k132 (fun _ h9 => h9) rfl dX7_undo_4 ?_
  refine zf_ne (tgt := 13) hx hb hF dX7_undo_7 (by decide) (fun hF => ?_) (fun hF => ?_)
  · refine lv_aload_n hx hb dX7_undo_13 rfl (lv_at hl 0 rfl) ?_
    refine va_get (ci := 7) (C := RX7) (T := TX7) (N := 6) (fs := (zTo x (ta 0) (na 0) (da 0) (pa 0) (ca 0) (sa 0))) (v := .ref (pa 0)) hx hb hts iX7 hown hK hP _ (zat_l (wTo_at0 cy x (ta 0) (na 0) (da 0) (pa 0) (ca 0) (sa 0))) rfl 3 (by decide) k29 (fun _ h9 => h9) rfl dX7_undo_14 ?_
    refine lv_aload_n hx hb dX7_undo_17 rfl (lv_at hl 0 rfl) ?_
    refine va_get (ci := 7) (C := RX7) (T := TX7) (N := 6) (fs := (zTo x (ta 0) (na 0) (da 0) (pa 0) (ca 0) (sa 0))) (v := .ref (na 0)) hx hb hts iX7 hown hK hP _ (zat_l (wTo_at0 cy x (ta 0) (na 0) (da 0) (pa 0) (ca 0) (sa 0))) rfl 1 (by decide) k19 (fun _ h9 => h9) rfl dX7_undo_18 ?_
    refine z_cVv (b := pa 0) (As := [.ref (na 0)]) (rest := []) (wc := ((wPo cy pa la pn pz) ++ ((wLs cy la pl) ++ (wLn cy na v)))) (wcf := fun o' => ((wPo cy pa la o'.1 o'.2.1) ++ ((wLs cy la pl) ++ (wLn cy na o'.2.2)))) (wf := fun o' => ((wTo cy x (ta 0) (na 0) (da 0) (pa 0) (ca 0) (sa 0)) ++ ((wTx cy ta tl td tn tq) ++ ((wPo cy pa la o'.1 o'.2.1) ++ ((wLs cy la pl) ++ ((wCo cy ca (ra 0) sn sb c0 c1 c2 c3) ++ ((wLn cy ra tv) ++ ((wSe cy sa sp sq sk) ++ ((wLn cy na o'.2.2) ++ (wLn cy da u)))))))))) hF (fun o' hz => c_X2_giveBack l G cy st pa la na pn pz pl v o' hz) (fun o' => (zCut_r (zCut_r (zCut_b zCut_all (zCut_b zCut_all (zCut_r (zCut_r (zCut_r (zCut_l zCut_all))))))))) ⟨hx, hb, hml, hown, hts⟩ (cwV 1 hts gX7_undo_X2_giveBack rfl rfl rfl (by decide +kernel) ⟨by decide, by decide⟩) (ci := 2) (q0 := 0) rfl (zat_l (wPo_at0 cy pa la pn pz)) hK hSE hA hP hD hS rfl hl.1 rfl (Nat.le_of_ble_eq_true rfl) dX7_undo_21 ⟨Nat.le_refl _, Nat.le_refl _⟩ (fun o1 hF H locs hP hD hS => ?_)
    refine lv_aload_n hx hb dX7_undo_24 rfl (lv_at hl 0 rfl) ?_
    refine va_get (ci := 7) (C := RX7) (T := TX7) (N := 6) (fs := (zTo x (ta 0) (na 0) (da 0) (pa 0) (ca 0) (sa 0))) (v := .ref (pa 0)) hx hb hts iX7 hown hK hP _ (zat_l (wTo_at0 cy x (ta 0) (na 0) (da 0) (pa 0) (ca 0) (sa 0))) rfl 3 (by decide) k29 (fun _ h9 => h9) rfl dX7_undo_25 ?_
    refine va_get (ci := 2) (C := RX2) (T := TX2) (N := 3) (fs := (zPo pa la o1.1 o1.2.1)) (v := .int o1.2.1) hx hb hts iX2 hown hK hP _ (zat_r (wTo_len cy x (ta 0) (na 0) (da 0) (pa 0) (ca 0) (sa 0)) (zat_r (wTx_len cy ta tl td tn tq) (zat_l (wPo_at0 cy pa la o1.1 o1.2.1)))) rfl 2 (by decide) k132 (fun _ h9 => h9) rfl dX7_undo_28 ?_
    refine z_iret (o := o) (o1 := (o1.2.1, o1.1, o1.2.1, o1.2.2)) (v := o1.2.1) (wf := (fun o => ((wTo cy x (ta 0) (na 0) (da 0) (pa 0) (ca 0) (sa 0)) ++ ((wTx cy ta tl td tn tq) ++ ((wPo cy pa la o.2.1 o.2.2.1) ++ ((wLs cy la pl) ++ ((wCo cy ca (ra 0) sn sb c0 c1 c2 c3) ++ ((wLn cy ra tv) ++ ((wSe cy sa sp sq sk) ++ ((wLn cy na o.2.2.2) ++ (wLn cy da u))))))))))) (rf := fun o => o.1) hx hb hr hlocks hK ?_ ?_ hS ?_ rfl dX7_undo_31
    · exact hP
    · exact hD
    · exact hF
  · refine lv_bipush (v := (-2)) hx hb dX7_undo_10 (by decide) ?_
    refine z_iret (o := o) (o1 := ((-2), pn, pz, v)) (v := (-2)) (wf := (fun o => ((wTo cy x (ta 0) (na 0) (da 0) (pa 0) (ca 0) (sa 0)) ++ ((wTx cy ta tl td tn tq) ++ ((wPo cy pa la o.2.1 o.2.2.1) ++ ((wLs cy la pl) ++ ((wCo cy ca (ra 0) sn sb c0 c1 c2 c3) ++ ((wLn cy ra tv) ++ ((wSe cy sa sp sq sk) ++ ((wLn cy na o.2.2.2) ++ (wLn cy da u))))))))))) (rf := fun o => o.1) hx hb hr hlocks hK ?_ ?_ hS ?_ rfl dX7_undo_12
    · exact hP
    · exact hD
    · exact hF
def f_X7_stage (v : R2) (x01 : Int32) (x02 : Int32) : Option (Int32) :=
zbd (f_X1_has v x01) fun o1 =>
if o1 = 0 then (
some (-1)) else (
zg (zin x01 4) (
zbd (f_X4_valueOf (v (zn x01)) x02) fun o3 =>
some o3))
set_option maxHeartbeats 4000000 in
set_option maxRecDepth 100000 in
theorem c_X7_stage (l : Launch) (G : va_G) (cy : Nat → ClassId) (st : Nat → Nat) (x : Nat) (ta : Nat → Nat) (pa : Nat → Nat) (la : Nat → Nat → Nat) (ca : Nat → Nat) (ra : Nat → Nat) (sa : Nat → Nat) (na : Nat → Nat) (da : Nat → Nat) (tl : Nat → Int32) (td : Nat → Int32) (tn : Int32) (tq : Int32) (pn : Int32) (pz : Int32) (pl : Nat → R2) (sn : Nat → Int64) (sb : Nat → Int32) (c0 : Int32) (c1 : Int32) (c2 : Int32) (c3 : Int32) (tv : R2) (sp : Nat → Int32) (sq : Nat → Int32) (sk : Int32) (v : R2) (u : R2) (x01 : Int32) (x02 : Int32) (o : Int32) (hF : f_X7_stage v x01 x02 = some o) : zMi l yX7_stage wsX7_stage (zR 5) G cy st [.ref x, .int x01, .int x02] ((wTo cy x (ta 0) (na 0) (da 0) (pa 0) (ca 0) (sa 0)) ++ ((wTx cy ta tl td tn tq) ++ ((wPo cy pa la pn pz) ++ ((wLs cy la pl) ++ ((wCo cy ca (ra 0) sn sb c0 c1 c2 c3) ++ ((wLn cy ra tv) ++ ((wSe cy sa sp sq sk) ++ ((wLn cy na v) ++ (wLn cy da u))))))))) ((wTo cy x (ta 0) (na 0) (da 0) (pa 0) (ca 0) (sa 0)) ++ ((wTx cy ta tl td tn tq) ++ ((wPo cy pa la pn pz) ++ ((wLs cy la pl) ++ ((wCo cy ca (ra 0) sn sb c0 c1 c2 c3) ++ ((wLn cy ra tv) ++ ((wSe cy sa sp sq sk) ++ ((wLn cy na v) ++ (wLn cy da u))))))))) o := by
  refine zM_of (cc := cX7_stage) (maxL := 3) (ret := (some .int)) (Qc := fun A => zQi G cy A ((wTo cy x (ta 0) (na 0) (da 0) (pa 0) (ca 0) (sa 0)) ++ ((wTx cy ta tl td tn tq) ++ ((wPo cy pa la pn pz) ++ ((wLs cy la pl) ++ ((wCo cy ca (ra 0) sn sb c0 c1 c2 c3) ++ ((wLn cy ra tv) ++ ((wSe cy sa sp sq sk) ++ ((wLn cy na v) ++ (wLn cy da u))))))))) o) (by decide) rfl (Nat.le_of_ble_eq_true rfl) ?_
  intro p e s m below meth c A ls hx hb hml hr hlocks hown hts hK hSE hA hP hD hS hl
  have hown : s.vm.findClass RX7 = some m.cls := hown
  have hl : lv_has ls 3 [(0, .ref x), (1, .int x01), (2, .int x02)] := hl
  have k19 := hts (.fieldLink RX7 19 "TapCascade" "line" "LTapCascade$Line;") (by decide +kernel)
  have iX7 : ∀ w ∈ wsX70, w ∈ wsX7_stage := fun w h => List.mem_cons_of_mem _ (List.mem_append_left _ (List.mem_append_left _ (List.mem_append_right _ h)))
  have k96 := hts (.fieldLink RX7 96 "TapCascade$Line" "stages" "[LTapCascade$Stage;") (by decide +kernel)
  have iX1 : ∀ w ∈ wsX10, w ∈ wsX7_stage := fun w h => List.mem_cons_of_mem _ (List.mem_append_left _ (List.mem_append_right _ h))
  unfold f_X7_stage at hF
  refine lv_aload_n hx hb dX7_stage_0 rfl (lv_at hl 0 rfl) ?_
  refine va_get (ci := 7) (C := RX7) (T := TX7) (N := 6) (fs := (zTo x (ta 0) (na 0) (da 0) (pa 0) (ca 0) (sa 0))) (v := .ref (na 0)) hx hb hts iX7 hown hK hP _ (zat_l (wTo_at0 cy x (ta 0) (na 0) (da 0) (pa 0) (ca 0) (sa 0))) rfl 1 (by decide) k19 (fun _ h9 => h9) rfl dX7_stage_1 ?_
  refine lv_iload_n hx hb dX7_stage_4 rfl (lv_at hl 1 rfl) ?_
  refine z_cVi (b := na 0) (As := [.int x01]) (rest := []) (wc := (wLn cy na v)) (wcf := fun o' => (wLn cy na v)) (wf := fun o' => ((wTo cy x (ta 0) (na 0) (da 0) (pa 0) (ca 0) (sa 0)) ++ ((wTx cy ta tl td tn tq) ++ ((wPo cy pa la pn pz) ++ ((wLs cy la pl) ++ ((wCo cy ca (ra 0) sn sb c0 c1 c2 c3) ++ ((wLn cy ra tv) ++ ((wSe cy sa sp sq sk) ++ ((wLn cy na v) ++ (wLn cy da u)))))))))) (rf := fun o' => o') hF (fun o' hz => c_X1_has l G cy st na v x01 o' hz) (fun o' => (zCut_r (zCut_r (zCut_r (zCut_r (zCut_r (zCut_r (zCut_r (zCut_l zCut_all))))))))) ⟨hx, hb, hml, hown, hts⟩ (cwV 1 hts gX7_stage_X1_has rfl rfl rfl (by decide +kernel) ⟨by decide, by decide⟩) (ci := 1) (q0 := 0) rfl (wLn_at0 cy na v) hK hSE hA hP hD hS rfl hl.1 rfl (Nat.le_of_ble_eq_true rfl) dX7_stage_5 ⟨Nat.le_refl _, Nat.le_refl _⟩ (fun o1 hF H locs hP hD hS => ?_)
  refine zf_eq (tgt := 27) hx hb hF dX7_stage_8 (by decide) (fun hF => ?_) (fun hF => ?_)
  · refine lv_iconst (v := (-1)) hx hb dX7_stage_27 (by decide) ?_
    refine z_iret (o := o) (o1 := (-1)) (v := (-1)) (wf := (fun o => ((wTo cy x (ta 0) (na 0) (da 0) (pa 0) (ca 0) (sa 0)) ++ ((wTx cy ta tl td tn tq) ++ ((wPo cy pa la pn pz) ++ ((wLs cy la pl) ++ ((wCo cy ca (ra 0) sn sb c0 c1 c2 c3) ++ ((wLn cy ra tv) ++ ((wSe cy sa sp sq sk) ++ ((wLn cy na v) ++ (wLn cy da u))))))))))) (rf := fun o => o) hx hb hr hlocks hK ?_ ?_ hS ?_ rfl dX7_stage_28
    · exact hP
    · exact hD
    · exact hF
  · refine lv_aload_n hx hb dX7_stage_11 rfl (lv_at hl 0 rfl) ?_
    refine va_get (ci := 7) (C := RX7) (T := TX7) (N := 6) (fs := (zTo x (ta 0) (na 0) (da 0) (pa 0) (ca 0) (sa 0))) (v := .ref (na 0)) hx hb hts iX7 hown hK hP _ (zat_l (wTo_at0 cy x (ta 0) (na 0) (da 0) (pa 0) (ca 0) (sa 0))) rfl 1 (by decide) k19 (fun _ h9 => h9) rfl dX7_stage_12 ?_
    refine va_get (ci := 1) (C := RX1) (T := TX1) (N := 6) (fs := (zLn na v)) (v := .ref (na 1)) hx hb hts iX1 hown hK hP _ (zat_r (wTo_len cy x (ta 0) (na 0) (da 0) (pa 0) (ca 0) (sa 0)) (zat_r (wTx_len cy ta tl td tn tq) (zat_r (wPo_len cy pa la pn pz) (zat_r (wLs_len cy la pl) (zat_r (wCo_len cy ca (ra 0) sn sb c0 c1 c2 c3) (zat_r (wLn_len cy ra tv) (zat_r (wSe_len cy sa sp sq sk) (zat_l (wLn_at0 cy na v))))))))) rfl 0 (by decide) k96 (fun _ h9 => h9) rfl dX7_stage_15 ?_
    refine lv_iload_n hx hb dX7_stage_18 rfl (lv_at hl 1 rfl) ?_
    refine z_aald (ad := (fun j => na (2 + j))) (n := 4) hx hb hK hP _ 5 (zat_r (wTo_len cy x (ta 0) (na 0) (da 0) (pa 0) (ca 0) (sa 0)) (zat_r (wTx_len cy ta tl td tn tq) (zat_r (wPo_len cy pa la pn pz) (zat_r (wLs_len cy la pl) (zat_r (wCo_len cy ca (ra 0) sn sb c0 c1 c2 c3) (zat_r (wLn_len cy ra tv) (zat_r (wSe_len cy sa sp sq sk) (zat_l (wLn_at1 cy na v))))))))) rfl hF dX7_stage_19 (fun h2 hF => ?_)
    refine lv_iload_n hx hb dX7_stage_20 rfl (lv_at hl 2 rfl) ?_
    refine z_cVi (b := na (2 + zn x01)) (As := [.int x02]) (rest := []) (wc := (wSt cy (na (2 + zn x01)) (v (zn x01)))) (wcf := fun o' => (wSt cy (na (2 + zn x01)) (v (zn x01)))) (wf := fun o' => ((wTo cy x (ta 0) (na 0) (da 0) (pa 0) (ca 0) (sa 0)) ++ ((wTx cy ta tl td tn tq) ++ ((wPo cy pa la pn pz) ++ ((wLs cy la pl) ++ ((wCo cy ca (ra 0) sn sb c0 c1 c2 c3) ++ ((wLn cy ra tv) ++ ((wSe cy sa sp sq sk) ++ ((wLn cy na v) ++ (wLn cy da u)))))))))) (rf := fun o' => o') hF (fun o' hz => c_X4_valueOf l G cy st (na (2 + zn x01)) (v (zn x01)) x02 o' hz) (fun o' => (zCut_r (zCut_r (zCut_r (zCut_r (zCut_r (zCut_r (zCut_r (zCut_l (wLn_cutS0 cy na v h2)))))))))) ⟨hx, hb, hml, hown, hts⟩ (cwV 1 hts gX7_stage_X4_valueOf rfl rfl rfl (by decide +kernel) ⟨by decide, by decide⟩) (ci := 4) (q0 := 0) rfl (wSt_at0 cy (na (2 + zn x01)) (v (zn x01))) hK hSE hA hP hD hS rfl hl.1 rfl (Nat.le_of_ble_eq_true rfl) dX7_stage_21 ⟨Nat.le_refl _, Nat.le_refl _⟩ (fun o3 hF H locs hP hD hS => ?_)
    refine lv_goto (tgt := 28) hx hb dX7_stage_24 (by decide) ?_
    refine z_iret (o := o) (o1 := o3) (v := o3) (wf := (fun o => ((wTo cy x (ta 0) (na 0) (da 0) (pa 0) (ca 0) (sa 0)) ++ ((wTx cy ta tl td tn tq) ++ ((wPo cy pa la pn pz) ++ ((wLs cy la pl) ++ ((wCo cy ca (ra 0) sn sb c0 c1 c2 c3) ++ ((wLn cy ra tv) ++ ((wSe cy sa sp sq sk) ++ ((wLn cy na v) ++ (wLn cy da u))))))))))) (rf := fun o => o) hx hb hr hlocks hK ?_ ?_ hS ?_ rfl dX7_stage_28
    · exact hP
    · exact hD
    · exact hF
def f_X7_done (v : R2) (x01 : Int32) (x02 : Int32) : Option (Int32) :=
if x01 < 0 then (
some (-1)) else (
if x02 < 0 then (
some (-1)) else (
if x02 ≤ (2 : Int32) then (
zbd (f_X5_valueOf (v 5) (v 6) (v 7) (v 8 0) x01 x02) fun o1 =>
some o1) else (
some (-1))))
set_option maxHeartbeats 4000000 in
set_option maxRecDepth 100000 in
theorem c_X7_done (l : Launch) (G : va_G) (cy : Nat → ClassId) (st : Nat → Nat) (x : Nat) (ta : Nat → Nat) (pa : Nat → Nat) (la : Nat → Nat → Nat) (ca : Nat → Nat) (ra : Nat → Nat) (sa : Nat → Nat) (na : Nat → Nat) (da : Nat → Nat) (tl : Nat → Int32) (td : Nat → Int32) (tn : Int32) (tq : Int32) (pn : Int32) (pz : Int32) (pl : Nat → R2) (sn : Nat → Int64) (sb : Nat → Int32) (c0 : Int32) (c1 : Int32) (c2 : Int32) (c3 : Int32) (tv : R2) (sp : Nat → Int32) (sq : Nat → Int32) (sk : Int32) (v : R2) (u : R2) (x01 : Int32) (x02 : Int32) (o : Int32) (hF : f_X7_done v x01 x02 = some o) : zMi l yX7_done wsX7_done (zR 3) G cy st [.ref x, .int x01, .int x02] ((wTo cy x (ta 0) (na 0) (da 0) (pa 0) (ca 0) (sa 0)) ++ ((wTx cy ta tl td tn tq) ++ ((wPo cy pa la pn pz) ++ ((wLs cy la pl) ++ ((wCo cy ca (ra 0) sn sb c0 c1 c2 c3) ++ ((wLn cy ra tv) ++ ((wSe cy sa sp sq sk) ++ ((wLn cy na v) ++ (wLn cy da u))))))))) ((wTo cy x (ta 0) (na 0) (da 0) (pa 0) (ca 0) (sa 0)) ++ ((wTx cy ta tl td tn tq) ++ ((wPo cy pa la pn pz) ++ ((wLs cy la pl) ++ ((wCo cy ca (ra 0) sn sb c0 c1 c2 c3) ++ ((wLn cy ra tv) ++ ((wSe cy sa sp sq sk) ++ ((wLn cy na v) ++ (wLn cy da u))))))))) o := by
  refine zM_of (cc := cX7_done) (maxL := 3) (ret := (some .int)) (Qc := fun A => zQi G cy A ((wTo cy x (ta 0) (na 0) (da 0) (pa 0) (ca 0) (sa 0)) ++ ((wTx cy ta tl td tn tq) ++ ((wPo cy pa la pn pz) ++ ((wLs cy la pl) ++ ((wCo cy ca (ra 0) sn sb c0 c1 c2 c3) ++ ((wLn cy ra tv) ++ ((wSe cy sa sp sq sk) ++ ((wLn cy na v) ++ (wLn cy da u))))))))) o) (by decide) rfl (Nat.le_of_ble_eq_true rfl) ?_
  intro p e s m below meth c A ls hx hb hml hr hlocks hown hts hK hSE hA hP hD hS hl
  have hown : s.vm.findClass RX7 = some m.cls := hown
  have hl : lv_has ls 3 [(0, .ref x), (1, .int x01), (2, .int x02)] := hl
  have k19 := hts (.fieldLink RX7 19 "TapCascade" "line" "LTapCascade$Line;") (by decide +kernel)
  have iX7 : ∀ w ∈ wsX70, w ∈ wsX7_done := fun w h => List.mem_cons_of_mem _ (List.mem_append_left _ (List.mem_append_left _ (List.mem_append_right _ h)))
  have k120 := hts (.fieldLink RX7 120 "TapCascade$Line" "log" "LTapCascade$StepLog;") (by decide +kernel)
  have iX1 : ∀ w ∈ wsX10, w ∈ wsX7_done := fun w h => List.mem_cons_of_mem _ (List.mem_append_left _ (List.mem_append_right _ h))
  unfold f_X7_done at hF
  refine lv_iload_n hx hb dX7_done_0 rfl (lv_at hl 1 rfl) ?_
  refine zf_lt (tgt := 13) hx hb hF dX7_done_1 (by decide) (fun hF => ?_) (fun hF => ?_)
  · refine lv_iconst (v := (-1)) hx hb dX7_done_13 (by decide) ?_
    refine z_iret (o := o) (o1 := (-1)) (v := (-1)) (wf := (fun o => ((wTo cy x (ta 0) (na 0) (da 0) (pa 0) (ca 0) (sa 0)) ++ ((wTx cy ta tl td tn tq) ++ ((wPo cy pa la pn pz) ++ ((wLs cy la pl) ++ ((wCo cy ca (ra 0) sn sb c0 c1 c2 c3) ++ ((wLn cy ra tv) ++ ((wSe cy sa sp sq sk) ++ ((wLn cy na v) ++ (wLn cy da u))))))))))) (rf := fun o => o) hx hb hr hlocks hK ?_ ?_ hS ?_ rfl dX7_done_14
    · exact hP
    · exact hD
    · exact hF
  · refine lv_iload_n hx hb dX7_done_4 rfl (lv_at hl 2 rfl) ?_
    refine zf_lt (tgt := 13) hx hb hF dX7_done_5 (by decide) (fun hF => ?_) (fun hF => ?_)
    · refine lv_iconst (v := (-1)) hx hb dX7_done_13 (by decide) ?_
      refine z_iret (o := o) (o1 := (-1)) (v := (-1)) (wf := (fun o => ((wTo cy x (ta 0) (na 0) (da 0) (pa 0) (ca 0) (sa 0)) ++ ((wTx cy ta tl td tn tq) ++ ((wPo cy pa la pn pz) ++ ((wLs cy la pl) ++ ((wCo cy ca (ra 0) sn sb c0 c1 c2 c3) ++ ((wLn cy ra tv) ++ ((wSe cy sa sp sq sk) ++ ((wLn cy na v) ++ (wLn cy da u))))))))))) (rf := fun o => o) hx hb hr hlocks hK ?_ ?_ hS ?_ rfl dX7_done_14
      · exact hP
      · exact hD
      · exact hF
    · refine lv_iload_n hx hb dX7_done_8 rfl (lv_at hl 2 rfl) ?_
      refine lv_iconst (v := 2) hx hb dX7_done_9 (by decide) ?_
      refine zi_le (tgt := 15) hx hb hF dX7_done_10 (by decide) (fun hF => ?_) (fun hF => ?_)
      · refine lv_aload_n hx hb dX7_done_15 rfl (lv_at hl 0 rfl) ?_
        refine va_get (ci := 7) (C := RX7) (T := TX7) (N := 6) (fs := (zTo x (ta 0) (na 0) (da 0) (pa 0) (ca 0) (sa 0))) (v := .ref (na 0)) hx hb hts iX7 hown hK hP _ (zat_l (wTo_at0 cy x (ta 0) (na 0) (da 0) (pa 0) (ca 0) (sa 0))) rfl 1 (by decide) k19 (fun _ h9 => h9) rfl dX7_done_16 ?_
        refine va_get (ci := 1) (C := RX1) (T := TX1) (N := 6) (fs := (zLn na v)) (v := .ref (na 7)) hx hb hts iX1 hown hK hP _ (zat_r (wTo_len cy x (ta 0) (na 0) (da 0) (pa 0) (ca 0) (sa 0)) (zat_r (wTx_len cy ta tl td tn tq) (zat_r (wPo_len cy pa la pn pz) (zat_r (wLs_len cy la pl) (zat_r (wCo_len cy ca (ra 0) sn sb c0 c1 c2 c3) (zat_r (wLn_len cy ra tv) (zat_r (wSe_len cy sa sp sq sk) (zat_l (wLn_at0 cy na v))))))))) rfl 2 (by decide) k120 (fun _ h9 => h9) rfl dX7_done_19 ?_
        refine lv_iload_n hx hb dX7_done_22 rfl (lv_at hl 1 rfl) ?_
        refine lv_iload_n hx hb dX7_done_23 rfl (lv_at hl 2 rfl) ?_
        refine z_cVi (b := na 7) (As := [.int x01, .int x02]) (rest := []) (wc := (wLg cy (fun k => na (7 + k)) (v 5) (v 6) (v 7) (v 8 0) (v 8 1))) (wcf := fun o' => (wLg cy (fun k => na (7 + k)) (v 5) (v 6) (v 7) (v 8 0) (v 8 1))) (wf := fun o' => ((wTo cy x (ta 0) (na 0) (da 0) (pa 0) (ca 0) (sa 0)) ++ ((wTx cy ta tl td tn tq) ++ ((wPo cy pa la pn pz) ++ ((wLs cy la pl) ++ ((wCo cy ca (ra 0) sn sb c0 c1 c2 c3) ++ ((wLn cy ra tv) ++ ((wSe cy sa sp sq sk) ++ ((wLn cy na v) ++ (wLn cy da u)))))))))) (rf := fun o' => o') hF (fun o' hz => c_X5_valueOf l G cy st (fun k => na (7 + k)) (v 5) (v 6) (v 7) (v 8 0) (v 8 1) x01 x02 o' hz) (fun o' => (zCut_r (zCut_r (zCut_r (zCut_r (zCut_r (zCut_r (zCut_r (zCut_l (wLn_cutL0 cy na v)))))))))) ⟨hx, hb, hml, hown, hts⟩ (cwV 2 hts gX7_done_X5_valueOf rfl rfl rfl (by decide +kernel) ⟨by decide, by decide⟩) (ci := 5) (q0 := 0) rfl (wLg_at0 cy (fun k => na (7 + k)) (v 5) (v 6) (v 7) (v 8 0) (v 8 1)) hK hSE hA hP hD hS rfl hl.1 rfl (Nat.le_of_ble_eq_true rfl) dX7_done_24 ⟨Nat.le_refl _, Nat.le_refl _⟩ (fun o1 hF H locs hP hD hS => ?_)
        refine z_iret (o := o) (o1 := o1) (v := o1) (wf := (fun o => ((wTo cy x (ta 0) (na 0) (da 0) (pa 0) (ca 0) (sa 0)) ++ ((wTx cy ta tl td tn tq) ++ ((wPo cy pa la pn pz) ++ ((wLs cy la pl) ++ ((wCo cy ca (ra 0) sn sb c0 c1 c2 c3) ++ ((wLn cy ra tv) ++ ((wSe cy sa sp sq sk) ++ ((wLn cy na v) ++ (wLn cy da u))))))))))) (rf := fun o => o) hx hb hr hlocks hK ?_ ?_ hS ?_ rfl dX7_done_27
        · exact hP
        · exact hD
        · exact hF
      · refine lv_iconst (v := (-1)) hx hb dX7_done_13 (by decide) ?_
        refine z_iret (o := o) (o1 := (-1)) (v := (-1)) (wf := (fun o => ((wTo cy x (ta 0) (na 0) (da 0) (pa 0) (ca 0) (sa 0)) ++ ((wTx cy ta tl td tn tq) ++ ((wPo cy pa la pn pz) ++ ((wLs cy la pl) ++ ((wCo cy ca (ra 0) sn sb c0 c1 c2 c3) ++ ((wLn cy ra tv) ++ ((wSe cy sa sp sq sk) ++ ((wLn cy na v) ++ (wLn cy da u))))))))))) (rf := fun o => o) hx hb hr hlocks hK ?_ ?_ hS ?_ rfl dX7_done_14
        · exact hP
        · exact hD
        · exact hF
def f_X7_settle (sn : Nat → Int64) (sb : Nat → Int32) (c0 : Int32) (c1 : Int32) (c2 : Int32) (c3 : Int32) (tv : R2) (v : R2) (x01 : Int32) : Option (Int32 × (Nat → Int64) × (Nat → Int32) × Int32 × Int32 × Int32 × Int32 × R2) :=
if x01 < 0 then (
some ((-1), sn, sb, c0, c1, c2, c3, tv)) else (
if x01 ≤ (3 : Int32) then (
zbd (f_X0_follow sn sb tv v) fun o1 =>
zlet (o1.1) fun sn_2 =>
zlet (o1.2.1) fun sb_3 =>
zlet (o1.2.2.1) fun c_4 =>
zlet (o1.2.2.2.1) fun c_5 =>
zlet (o1.2.2.2.2.1) fun c_6 =>
zlet (o1.2.2.2.2.2.1) fun c_7 =>
zlet (o1.2.2.2.2.2.2) fun tv_8 =>
if x01 = 0 then (
some (c_4, sn_2, sb_3, c_4, c_5, c_6, c_7, tv_8)) else (
if x01 = 1 then (
some (c_5, sn_2, sb_3, c_4, c_5, c_6, c_7, tv_8)) else (
if x01 = 2 then (
some (c_6, sn_2, sb_3, c_4, c_5, c_6, c_7, tv_8)) else (
some (c_7, sn_2, sb_3, c_4, c_5, c_6, c_7, tv_8))))) else (
some ((-1), sn, sb, c0, c1, c2, c3, tv)))
set_option maxHeartbeats 4000000 in
set_option maxRecDepth 100000 in
theorem c_X7_settle (l : Launch) (G : va_G) (cy : Nat → ClassId) (st : Nat → Nat) (x : Nat) (ta : Nat → Nat) (pa : Nat → Nat) (la : Nat → Nat → Nat) (ca : Nat → Nat) (ra : Nat → Nat) (sa : Nat → Nat) (na : Nat → Nat) (da : Nat → Nat) (tl : Nat → Int32) (td : Nat → Int32) (tn : Int32) (tq : Int32) (pn : Int32) (pz : Int32) (pl : Nat → R2) (sn : Nat → Int64) (sb : Nat → Int32) (c0 : Int32) (c1 : Int32) (c2 : Int32) (c3 : Int32) (tv : R2) (sp : Nat → Int32) (sq : Nat → Int32) (sk : Int32) (v : R2) (u : R2) (x01 : Int32) (o : Int32 × (Nat → Int64) × (Nat → Int32) × Int32 × Int32 × Int32 × Int32 × R2) (hF : f_X7_settle sn sb c0 c1 c2 c3 tv v x01 = some o) : zMi l yX7_settle wsX7_settle (zR 7) G cy st [.ref x, .int x01] ((wTo cy x (ta 0) (na 0) (da 0) (pa 0) (ca 0) (sa 0)) ++ ((wTx cy ta tl td tn tq) ++ ((wPo cy pa la pn pz) ++ ((wLs cy la pl) ++ ((wCo cy ca (ra 0) sn sb c0 c1 c2 c3) ++ ((wLn cy ra tv) ++ ((wSe cy sa sp sq sk) ++ ((wLn cy na v) ++ (wLn cy da u))))))))) ((wTo cy x (ta 0) (na 0) (da 0) (pa 0) (ca 0) (sa 0)) ++ ((wTx cy ta tl td tn tq) ++ ((wPo cy pa la pn pz) ++ ((wLs cy la pl) ++ ((wCo cy ca (ra 0) o.2.1 o.2.2.1 o.2.2.2.1 o.2.2.2.2.1 o.2.2.2.2.2.1 o.2.2.2.2.2.2.1) ++ ((wLn cy ra o.2.2.2.2.2.2.2) ++ ((wSe cy sa sp sq sk) ++ ((wLn cy na v) ++ (wLn cy da u))))))))) o.1 := by
  refine zM_of (cc := cX7_settle) (maxL := 2) (ret := (some .int)) (Qc := fun A => zQi G cy A ((wTo cy x (ta 0) (na 0) (da 0) (pa 0) (ca 0) (sa 0)) ++ ((wTx cy ta tl td tn tq) ++ ((wPo cy pa la pn pz) ++ ((wLs cy la pl) ++ ((wCo cy ca (ra 0) o.2.1 o.2.2.1 o.2.2.2.1 o.2.2.2.2.1 o.2.2.2.2.2.1 o.2.2.2.2.2.2.1) ++ ((wLn cy ra o.2.2.2.2.2.2.2) ++ ((wSe cy sa sp sq sk) ++ ((wLn cy na v) ++ (wLn cy da u))))))))) o.1) (by decide) rfl (Nat.le_of_ble_eq_true rfl) ?_
  intro p e s m below meth c A ls hx hb hml hr hlocks hown hts hK hSE hA hP hD hS hl
  have hown : s.vm.findClass RX7 = some m.cls := hown
  have hl : lv_has ls 2 [(0, .ref x), (1, .int x01)] := hl
  have k36 := hts (.fieldLink RX7 36 "TapCascade" "course" "LTapCascade$Course;") (by decide +kernel)
  have iX7 : ∀ w ∈ wsX70, w ∈ wsX7_settle := fun w h => List.mem_cons_of_mem _ (List.mem_append_left _ (List.mem_append_left _ (List.mem_append_left _ (List.mem_append_left _ (List.mem_append_right _ h)))))
  have k19 := hts (.fieldLink RX7 19 "TapCascade" "line" "LTapCascade$Line;") (by decide +kernel)
  have k145 := hts (.fieldLink RX7 145 "TapCascade$Course" "quietBehind" "I") (by decide +kernel)
  have iX0 : ∀ w ∈ wsX00, w ∈ wsX7_settle := fun w h => List.mem_cons_of_mem _ (List.mem_append_left _ (List.mem_append_left _ (List.mem_append_left _ (List.mem_append_right _ h))))
  have k148 := hts (.fieldLink RX7 148 "TapCascade$Course" "roundFrom" "I") (by decide +kernel)
  have k151 := hts (.fieldLink RX7 151 "TapCascade$Course" "roundTicks" "I") (by decide +kernel)
  have k154 := hts (.fieldLink RX7 154 "TapCascade$Course" "roundSteps" "I") (by decide +kernel)
  unfold f_X7_settle at hF
  refine lv_iload_n hx hb dX7_settle_0 rfl (lv_at hl 1 rfl) ?_
  refine zf_lt (tgt := 9) hx hb hF dX7_settle_1 (by decide) (fun hF => ?_) (fun hF => ?_)
  · refine lv_iconst (v := (-1)) hx hb dX7_settle_9 (by decide) ?_
    refine z_iret (o := o) (o1 := ((-1), sn, sb, c0, c1, c2, c3, tv)) (v := (-1)) (wf := (fun o => ((wTo cy x (ta 0) (na 0) (da 0) (pa 0) (ca 0) (sa 0)) ++ ((wTx cy ta tl td tn tq) ++ ((wPo cy pa la pn pz) ++ ((wLs cy la pl) ++ ((wCo cy ca (ra 0) o.2.1 o.2.2.1 o.2.2.2.1 o.2.2.2.2.1 o.2.2.2.2.2.1 o.2.2.2.2.2.2.1) ++ ((wLn cy ra o.2.2.2.2.2.2.2) ++ ((wSe cy sa sp sq sk) ++ ((wLn cy na v) ++ (wLn cy da u))))))))))) (rf := fun o => o.1) hx hb hr hlocks hK ?_ ?_ hS ?_ rfl dX7_settle_10
    · exact hP
    · exact hD
    · exact hF
  · refine lv_iload_n hx hb dX7_settle_4 rfl (lv_at hl 1 rfl) ?_
    refine lv_iconst (v := 3) hx hb dX7_settle_5 (by decide) ?_
    refine zi_le (tgt := 11) hx hb hF dX7_settle_6 (by decide) (fun hF => ?_) (fun hF => ?_)
    · refine lv_aload_n hx hb dX7_settle_11 rfl (lv_at hl 0 rfl) ?_
      refine va_get (ci := 7) (C := RX7) (T := TX7) (N := 6) (fs := (zTo x (ta 0) (na 0) (da 0) (pa 0) (ca 0) (sa 0))) (v := .ref (ca 0)) hx hb hts iX7 hown hK hP _ (zat_l (wTo_at0 cy x (ta 0) (na 0) (da 0) (pa 0) (ca 0) (sa 0))) rfl 4 (by decide) k36 (fun _ h9 => h9) rfl dX7_settle_12 ?_
      refine lv_aload_n hx hb dX7_settle_15 rfl (lv_at hl 0 rfl) ?_
      refine va_get (ci := 7) (C := RX7) (T := TX7) (N := 6) (fs := (zTo x (ta 0) (na 0) (da 0) (pa 0) (ca 0) (sa 0))) (v := .ref (na 0)) hx hb hts iX7 hown hK hP _ (zat_l (wTo_at0 cy x (ta 0) (na 0) (da 0) (pa 0) (ca 0) (sa 0))) rfl 1 (by decide) k19 (fun _ h9 => h9) rfl dX7_settle_16 ?_
      refine z_cVv (b := ca 0) (As := [.ref (na 0)]) (rest := []) (wc := ((wCo cy ca (ra 0) sn sb c0 c1 c2 c3) ++ ((wLn cy ra tv) ++ (wLn cy na v)))) (wcf := fun o' => ((wCo cy ca (ra 0) o'.1 o'.2.1 o'.2.2.1 o'.2.2.2.1 o'.2.2.2.2.1 o'.2.2.2.2.2.1) ++ ((wLn cy ra o'.2.2.2.2.2.2) ++ (wLn cy na v)))) (wf := fun o' => ((wTo cy x (ta 0) (na 0) (da 0) (pa 0) (ca 0) (sa 0)) ++ ((wTx cy ta tl td tn tq) ++ ((wPo cy pa la pn pz) ++ ((wLs cy la pl) ++ ((wCo cy ca (ra 0) o'.1 o'.2.1 o'.2.2.1 o'.2.2.2.1 o'.2.2.2.2.1 o'.2.2.2.2.2.1) ++ ((wLn cy ra o'.2.2.2.2.2.2) ++ ((wSe cy sa sp sq sk) ++ ((wLn cy na v) ++ (wLn cy da u)))))))))) hF (fun o' hz => c_X0_follow l G cy st ca ra na sn sb c0 c1 c2 c3 tv v o' hz) (fun o' => (zCut_r (zCut_r (zCut_r (zCut_r (zCut_b zCut_all (zCut_b zCut_all (zCut_r (zCut_l zCut_all))))))))) ⟨hx, hb, hml, hown, hts⟩ (cwV 1 hts gX7_settle_X0_follow rfl rfl rfl (by decide +kernel) ⟨by decide, by decide⟩) (ci := 0) (q0 := 0) rfl (zat_l (wCo_at0 cy ca (ra 0) sn sb c0 c1 c2 c3)) hK hSE hA hP hD hS rfl hl.1 rfl (Nat.le_of_ble_eq_true rfl) dX7_settle_19 ⟨Nat.le_refl _, Nat.le_refl _⟩ (fun o1 hF H locs hP hD hS => ?_)
      refine z_nameW (wf := (fun y => ((wTo cy x (ta 0) (na 0) (da 0) (pa 0) (ca 0) (sa 0)) ++ ((wTx cy ta tl td tn tq) ++ ((wPo cy pa la pn pz) ++ ((wLs cy la pl) ++ ((wCo cy ca (ra 0) y o1.2.1 o1.2.2.1 o1.2.2.2.1 o1.2.2.2.2.1 o1.2.2.2.2.2.1) ++ ((wLn cy ra o1.2.2.2.2.2.2) ++ ((wSe cy sa sp sq sk) ++ ((wLn cy na v) ++ (wLn cy da u))))))))))) hF hP hD (fun sn_2 hF hP hD => ?_)
      refine z_nameW (wf := (fun y => ((wTo cy x (ta 0) (na 0) (da 0) (pa 0) (ca 0) (sa 0)) ++ ((wTx cy ta tl td tn tq) ++ ((wPo cy pa la pn pz) ++ ((wLs cy la pl) ++ ((wCo cy ca (ra 0) sn_2 y o1.2.2.1 o1.2.2.2.1 o1.2.2.2.2.1 o1.2.2.2.2.2.1) ++ ((wLn cy ra o1.2.2.2.2.2.2) ++ ((wSe cy sa sp sq sk) ++ ((wLn cy na v) ++ (wLn cy da u))))))))))) hF hP hD (fun sb_3 hF hP hD => ?_)
      refine z_nameW (wf := (fun y => ((wTo cy x (ta 0) (na 0) (da 0) (pa 0) (ca 0) (sa 0)) ++ ((wTx cy ta tl td tn tq) ++ ((wPo cy pa la pn pz) ++ ((wLs cy la pl) ++ ((wCo cy ca (ra 0) sn_2 sb_3 y o1.2.2.2.1 o1.2.2.2.2.1 o1.2.2.2.2.2.1) ++ ((wLn cy ra o1.2.2.2.2.2.2) ++ ((wSe cy sa sp sq sk) ++ ((wLn cy na v) ++ (wLn cy da u))))))))))) hF hP hD (fun c_4 hF hP hD => ?_)
      refine z_nameW (wf := (fun y => ((wTo cy x (ta 0) (na 0) (da 0) (pa 0) (ca 0) (sa 0)) ++ ((wTx cy ta tl td tn tq) ++ ((wPo cy pa la pn pz) ++ ((wLs cy la pl) ++ ((wCo cy ca (ra 0) sn_2 sb_3 c_4 y o1.2.2.2.2.1 o1.2.2.2.2.2.1) ++ ((wLn cy ra o1.2.2.2.2.2.2) ++ ((wSe cy sa sp sq sk) ++ ((wLn cy na v) ++ (wLn cy da u))))))))))) hF hP hD (fun c_5 hF hP hD => ?_)
      refine z_nameW (wf := (fun y => ((wTo cy x (ta 0) (na 0) (da 0) (pa 0) (ca 0) (sa 0)) ++ ((wTx cy ta tl td tn tq) ++ ((wPo cy pa la pn pz) ++ ((wLs cy la pl) ++ ((wCo cy ca (ra 0) sn_2 sb_3 c_4 c_5 y o1.2.2.2.2.2.1) ++ ((wLn cy ra o1.2.2.2.2.2.2) ++ ((wSe cy sa sp sq sk) ++ ((wLn cy na v) ++ (wLn cy da u))))))))))) hF hP hD (fun c_6 hF hP hD => ?_)
      refine z_nameW (wf := (fun y => ((wTo cy x (ta 0) (na 0) (da 0) (pa 0) (ca 0) (sa 0)) ++ ((wTx cy ta tl td tn tq) ++ ((wPo cy pa la pn pz) ++ ((wLs cy la pl) ++ ((wCo cy ca (ra 0) sn_2 sb_3 c_4 c_5 c_6 y) ++ ((wLn cy ra o1.2.2.2.2.2.2) ++ ((wSe cy sa sp sq sk) ++ ((wLn cy na v) ++ (wLn cy da u))))))))))) hF hP hD (fun c_7 hF hP hD => ?_)
      refine z_nameW (wf := (fun y => ((wTo cy x (ta 0) (na 0) (da 0) (pa 0) (ca 0) (sa 0)) ++ ((wTx cy ta tl td tn tq) ++ ((wPo cy pa la pn pz) ++ ((wLs cy la pl) ++ ((wCo cy ca (ra 0) sn_2 sb_3 c_4 c_5 c_6 c_7) ++ ((wLn cy ra y) ++ ((wSe cy sa sp sq sk) ++ ((wLn cy na v) ++ (wLn cy da u))))))))))) hF hP hD (fun tv_8 hF hP hD => ?_)
      refine lv_iload_n hx hb dX7_settle_22 rfl (lv_at hl 1 rfl) ?_
      by_cases h9 : x01 = 0
      · have hF := (if_pos h9).symm.trans hF
        refine lv_tableIn (off := 25) (tgt := 48) hx hb dX7_settle_23 (by rw [h9]; decide) (by rw [h9]; decide) (by rw [h9]; decide) (by decide) ?_
        refine lv_aload_n hx hb dX7_settle_48 rfl (lv_at hl 0 rfl) ?_
        refine va_get (ci := 7) (C := RX7) (T := TX7) (N := 6) (fs := (zTo x (ta 0) (na 0) (da 0) (pa 0) (ca 0) (sa 0))) (v := .ref (ca 0)) hx hb hts iX7 hown hK hP _ (zat_l (wTo_at0 cy x (ta 0) (na 0) (da 0) (pa 0) (ca 0) (sa 0))) rfl 4 (by decide) k36 (fun _ h9 => h9) rfl dX7_settle_49 ?_
        refine va_get (ci := 0) (C := RX0) (T := TX0) (N := 7) (fs := (zCo ca (ra 0) c_4 c_5 c_6 c_7)) (v := .int c_4) hx hb hts iX0 hown hK hP _ (zat_r (wTo_len cy x (ta 0) (na 0) (da 0) (pa 0) (ca 0) (sa 0)) (zat_r (wTx_len cy ta tl td tn tq) (zat_r (wPo_len cy pa la pn pz) (zat_r (wLs_len cy la pl) (zat_l (wCo_at0 cy ca (ra 0) sn_2 sb_3 c_4 c_5 c_6 c_7)))))) rfl 3 (by decide) k145 (fun _ h9 => h9) rfl dX7_settle_52 ?_
        refine z_iret (o := o) (o1 := (c_4, sn_2, sb_3, c_4, c_5, c_6, c_7, tv_8)) (v := c_4) (wf := (fun o => ((wTo cy x (ta 0) (na 0) (da 0) (pa 0) (ca 0) (sa 0)) ++ ((wTx cy ta tl td tn tq) ++ ((wPo cy pa la pn pz) ++ ((wLs cy la pl) ++ ((wCo cy ca (ra 0) o.2.1 o.2.2.1 o.2.2.2.1 o.2.2.2.2.1 o.2.2.2.2.2.1 o.2.2.2.2.2.2.1) ++ ((wLn cy ra o.2.2.2.2.2.2.2) ++ ((wSe cy sa sp sq sk) ++ ((wLn cy na v) ++ (wLn cy da u))))))))))) (rf := fun o => o.1) hx hb hr hlocks hK ?_ ?_ hS ?_ rfl dX7_settle_55
        · exact hP
        · exact hD
        · exact hF
      have hF := (if_neg h9).symm.trans hF
      by_cases h10 : x01 = 1
      · have hF := (if_pos h10).symm.trans hF
        refine lv_tableIn (off := 33) (tgt := 56) hx hb dX7_settle_23 (by rw [h10]; decide) (by rw [h10]; decide) (by rw [h10]; decide) (by decide) ?_
        refine lv_aload_n hx hb dX7_settle_56 rfl (lv_at hl 0 rfl) ?_
        refine va_get (ci := 7) (C := RX7) (T := TX7) (N := 6) (fs := (zTo x (ta 0) (na 0) (da 0) (pa 0) (ca 0) (sa 0))) (v := .ref (ca 0)) hx hb hts iX7 hown hK hP _ (zat_l (wTo_at0 cy x (ta 0) (na 0) (da 0) (pa 0) (ca 0) (sa 0))) rfl 4 (by decide) k36 (fun _ h9 => h9) rfl dX7_settle_57 ?_
        refine va_get (ci := 0) (C := RX0) (T := TX0) (N := 7) (fs := (zCo ca (ra 0) c_4 c_5 c_6 c_7)) (v := .int c_5) hx hb hts iX0 hown hK hP _ (zat_r (wTo_len cy x (ta 0) (na 0) (da 0) (pa 0) (ca 0) (sa 0)) (zat_r (wTx_len cy ta tl td tn tq) (zat_r (wPo_len cy pa la pn pz) (zat_r (wLs_len cy la pl) (zat_l (wCo_at0 cy ca (ra 0) sn_2 sb_3 c_4 c_5 c_6 c_7)))))) rfl 4 (by decide) k148 (fun _ h9 => h9) rfl dX7_settle_60 ?_
        refine z_iret (o := o) (o1 := (c_5, sn_2, sb_3, c_4, c_5, c_6, c_7, tv_8)) (v := c_5) (wf := (fun o => ((wTo cy x (ta 0) (na 0) (da 0) (pa 0) (ca 0) (sa 0)) ++ ((wTx cy ta tl td tn tq) ++ ((wPo cy pa la pn pz) ++ ((wLs cy la pl) ++ ((wCo cy ca (ra 0) o.2.1 o.2.2.1 o.2.2.2.1 o.2.2.2.2.1 o.2.2.2.2.2.1 o.2.2.2.2.2.2.1) ++ ((wLn cy ra o.2.2.2.2.2.2.2) ++ ((wSe cy sa sp sq sk) ++ ((wLn cy na v) ++ (wLn cy da u))))))))))) (rf := fun o => o.1) hx hb hr hlocks hK ?_ ?_ hS ?_ rfl dX7_settle_63
        · exact hP
        · exact hD
        · exact hF
      have hF := (if_neg h10).symm.trans hF
      by_cases h11 : x01 = 2
      · have hF := (if_pos h11).symm.trans hF
        refine lv_tableIn (off := 41) (tgt := 64) hx hb dX7_settle_23 (by rw [h11]; decide) (by rw [h11]; decide) (by rw [h11]; decide) (by decide) ?_
        refine lv_aload_n hx hb dX7_settle_64 rfl (lv_at hl 0 rfl) ?_
        refine va_get (ci := 7) (C := RX7) (T := TX7) (N := 6) (fs := (zTo x (ta 0) (na 0) (da 0) (pa 0) (ca 0) (sa 0))) (v := .ref (ca 0)) hx hb hts iX7 hown hK hP _ (zat_l (wTo_at0 cy x (ta 0) (na 0) (da 0) (pa 0) (ca 0) (sa 0))) rfl 4 (by decide) k36 (fun _ h9 => h9) rfl dX7_settle_65 ?_
        refine va_get (ci := 0) (C := RX0) (T := TX0) (N := 7) (fs := (zCo ca (ra 0) c_4 c_5 c_6 c_7)) (v := .int c_6) hx hb hts iX0 hown hK hP _ (zat_r (wTo_len cy x (ta 0) (na 0) (da 0) (pa 0) (ca 0) (sa 0)) (zat_r (wTx_len cy ta tl td tn tq) (zat_r (wPo_len cy pa la pn pz) (zat_r (wLs_len cy la pl) (zat_l (wCo_at0 cy ca (ra 0) sn_2 sb_3 c_4 c_5 c_6 c_7)))))) rfl 5 (by decide) k151 (fun _ h9 => h9) rfl dX7_settle_68 ?_
        refine z_iret (o := o) (o1 := (c_6, sn_2, sb_3, c_4, c_5, c_6, c_7, tv_8)) (v := c_6) (wf := (fun o => ((wTo cy x (ta 0) (na 0) (da 0) (pa 0) (ca 0) (sa 0)) ++ ((wTx cy ta tl td tn tq) ++ ((wPo cy pa la pn pz) ++ ((wLs cy la pl) ++ ((wCo cy ca (ra 0) o.2.1 o.2.2.1 o.2.2.2.1 o.2.2.2.2.1 o.2.2.2.2.2.1 o.2.2.2.2.2.2.1) ++ ((wLn cy ra o.2.2.2.2.2.2.2) ++ ((wSe cy sa sp sq sk) ++ ((wLn cy na v) ++ (wLn cy da u))))))))))) (rf := fun o => o.1) hx hb hr hlocks hK ?_ ?_ hS ?_ rfl dX7_settle_71
        · exact hP
        · exact hD
        · exact hF
      have hF := (if_neg h11).symm.trans hF
      refine lv_tableOut (x := x01) (tgt := 72) hx hb dX7_settle_23 (by have q0 := lv_neT (a := 0) h9 (by decide); have q1 := lv_neT (a := 1) h10 (by decide); have q2 := lv_neT (a := 2) h11 (by decide); omega) (by decide) ?_
      refine lv_aload_n hx hb dX7_settle_72 rfl (lv_at hl 0 rfl) ?_
      refine va_get (ci := 7) (C := RX7) (T := TX7) (N := 6) (fs := (zTo x (ta 0) (na 0) (da 0) (pa 0) (ca 0) (sa 0))) (v := .ref (ca 0)) hx hb hts iX7 hown hK hP _ (zat_l (wTo_at0 cy x (ta 0) (na 0) (da 0) (pa 0) (ca 0) (sa 0))) rfl 4 (by decide) k36 (fun _ h9 => h9) rfl dX7_settle_73 ?_
      refine va_get (ci := 0) (C := RX0) (T := TX0) (N := 7) (fs := (zCo ca (ra 0) c_4 c_5 c_6 c_7)) (v := .int c_7) hx hb hts iX0 hown hK hP _ (zat_r (wTo_len cy x (ta 0) (na 0) (da 0) (pa 0) (ca 0) (sa 0)) (zat_r (wTx_len cy ta tl td tn tq) (zat_r (wPo_len cy pa la pn pz) (zat_r (wLs_len cy la pl) (zat_l (wCo_at0 cy ca (ra 0) sn_2 sb_3 c_4 c_5 c_6 c_7)))))) rfl 6 (by decide) k154 (fun _ h9 => h9) rfl dX7_settle_76 ?_
      refine z_iret (o := o) (o1 := (c_7, sn_2, sb_3, c_4, c_5, c_6, c_7, tv_8)) (v := c_7) (wf := (fun o => ((wTo cy x (ta 0) (na 0) (da 0) (pa 0) (ca 0) (sa 0)) ++ ((wTx cy ta tl td tn tq) ++ ((wPo cy pa la pn pz) ++ ((wLs cy la pl) ++ ((wCo cy ca (ra 0) o.2.1 o.2.2.1 o.2.2.2.1 o.2.2.2.2.1 o.2.2.2.2.2.1 o.2.2.2.2.2.2.1) ++ ((wLn cy ra o.2.2.2.2.2.2.2) ++ ((wSe cy sa sp sq sk) ++ ((wLn cy na v) ++ (wLn cy da u))))))))))) (rf := fun o => o.1) hx hb hr hlocks hK ?_ ?_ hS ?_ rfl dX7_settle_79
      · exact hP
      · exact hD
      · exact hF
    · refine lv_iconst (v := (-1)) hx hb dX7_settle_9 (by decide) ?_
      refine z_iret (o := o) (o1 := ((-1), sn, sb, c0, c1, c2, c3, tv)) (v := (-1)) (wf := (fun o => ((wTo cy x (ta 0) (na 0) (da 0) (pa 0) (ca 0) (sa 0)) ++ ((wTx cy ta tl td tn tq) ++ ((wPo cy pa la pn pz) ++ ((wLs cy la pl) ++ ((wCo cy ca (ra 0) o.2.1 o.2.2.1 o.2.2.2.1 o.2.2.2.2.1 o.2.2.2.2.2.1 o.2.2.2.2.2.2.1) ++ ((wLn cy ra o.2.2.2.2.2.2.2) ++ ((wSe cy sa sp sq sk) ++ ((wLn cy na v) ++ (wLn cy da u))))))))))) (rf := fun o => o.1) hx hb hr hlocks hK ?_ ?_ hS ?_ rfl dX7_settle_10
      · exact hP
      · exact hD
      · exact hF
def j_X7_ratio_69 (x02 : Int32) (y2 : Int64) (y3 : Int64) : Option (Int64) :=
zbd (f_X7_greatestCommon y2 y3) fun o4 =>
if 0 ≤ (lg_cmp o4 1) then (
if x02 = 0 then (
zg (decide (¬ o4 = 0)) (
some (y2 / o4))) else (
zg (decide (¬ o4 = 0)) (
some (y3 / o4)))) else (
some (-1))
def b_X7_ratio_32 (v : R2) (x01 : Int32) (x02 : Int32) (rc32 : (Int64 × Int64 × Int32) → Option (Int64)) (s32 : Int64 × Int64 × Int32) : Option (Int64) :=
if x01 < s32.2.2 then (
j_X7_ratio_69 x02 s32.1 s32.2.1) else (
zg (zin s32.2.2 4) (
zbd (f_X4_turned (v (zn s32.2.2))) fun o8 =>
zlet (s32.1 * (Int32.toInt64 o8)) fun x9 =>
zlet (s32.2.1 * 1000) fun x10 =>
zlet (s32.2.2 + 1) fun x11 =>
rc32 (x9, x10, x11)))
def f_X7_ratio (v : R2) (x01 : Int32) (x02 : Int32) : Option (Int64) :=
zbd (f_X1_has v x01) fun o1 =>
if o1 = 0 then (
some (-1)) else (
if x02 < 0 then (
some (-1)) else (
if x02 ≤ (1 : Int32) then (
zloop (b_X7_ratio_32 v x01 x02) 1000 (1, 1, 0)) else (
some (-1))))
set_option maxHeartbeats 4000000 in
set_option maxRecDepth 100000 in
theorem c_X7_ratio (l : Launch) (G : va_G) (cy : Nat → ClassId) (st : Nat → Nat) (x : Nat) (ta : Nat → Nat) (pa : Nat → Nat) (la : Nat → Nat → Nat) (ca : Nat → Nat) (ra : Nat → Nat) (sa : Nat → Nat) (na : Nat → Nat) (da : Nat → Nat) (tl : Nat → Int32) (td : Nat → Int32) (tn : Int32) (tq : Int32) (pn : Int32) (pz : Int32) (pl : Nat → R2) (sn : Nat → Int64) (sb : Nat → Int32) (c0 : Int32) (c1 : Int32) (c2 : Int32) (c3 : Int32) (tv : R2) (sp : Nat → Int32) (sq : Nat → Int32) (sk : Int32) (v : R2) (u : R2) (x01 : Int32) (x02 : Int32) (o : Int64) (hF : f_X7_ratio v x01 x02 = some o) : zMl l yX7_ratio wsX7_ratio (zR 2) G cy st [.ref x, .int x01, .int x02] ((wTo cy x (ta 0) (na 0) (da 0) (pa 0) (ca 0) (sa 0)) ++ ((wTx cy ta tl td tn tq) ++ ((wPo cy pa la pn pz) ++ ((wLs cy la pl) ++ ((wCo cy ca (ra 0) sn sb c0 c1 c2 c3) ++ ((wLn cy ra tv) ++ ((wSe cy sa sp sq sk) ++ ((wLn cy na v) ++ (wLn cy da u))))))))) ((wTo cy x (ta 0) (na 0) (da 0) (pa 0) (ca 0) (sa 0)) ++ ((wTx cy ta tl td tn tq) ++ ((wPo cy pa la pn pz) ++ ((wLs cy la pl) ++ ((wCo cy ca (ra 0) sn sb c0 c1 c2 c3) ++ ((wLn cy ra tv) ++ ((wSe cy sa sp sq sk) ++ ((wLn cy na v) ++ (wLn cy da u))))))))) o := by
  refine zM_of (cc := cX7_ratio) (maxL := 9) (ret := (some .long)) (Qc := fun A => zQl G cy A ((wTo cy x (ta 0) (na 0) (da 0) (pa 0) (ca 0) (sa 0)) ++ ((wTx cy ta tl td tn tq) ++ ((wPo cy pa la pn pz) ++ ((wLs cy la pl) ++ ((wCo cy ca (ra 0) sn sb c0 c1 c2 c3) ++ ((wLn cy ra tv) ++ ((wSe cy sa sp sq sk) ++ ((wLn cy na v) ++ (wLn cy da u))))))))) o) (by decide) rfl (Nat.le_of_ble_eq_true rfl) ?_
  intro p e s m below meth c A ls hx hb hml hr hlocks hown hts hK hSE hA hP hD hS hl
  have hown : s.vm.findClass RX7 = some m.cls := hown
  have hl : lv_has ls 9 [(0, .ref x), (1, .int x01), (2, .int x02)] := hl
  have k19 := hts (.fieldLink RX7 19 "TapCascade" "line" "LTapCascade$Line;") (by decide +kernel)
  have iX7 : ∀ w ∈ wsX70, w ∈ wsX7_ratio := fun w h => List.mem_cons_of_mem _ (List.mem_append_left _ (List.mem_append_left _ (List.mem_append_right _ h)))
  have k167 := hts (.constantLong RX7 167 (-1)) (by decide +kernel)
  have k96 := hts (.fieldLink RX7 96 "TapCascade$Line" "stages" "[LTapCascade$Stage;") (by decide +kernel)
  have iX1 : ∀ w ∈ wsX10, w ∈ wsX7_ratio := fun w h => List.mem_cons_of_mem _ (List.mem_append_left _ (List.mem_append_right _ h))
  have k172 := hts (.constantLong RX7 172 (1000)) (by decide +kernel)
  unfold f_X7_ratio at hF
  refine lv_aload_n hx hb dX7_ratio_0 rfl (lv_at hl 0 rfl) ?_
  refine va_get (ci := 7) (C := RX7) (T := TX7) (N := 6) (fs := (zTo x (ta 0) (na 0) (da 0) (pa 0) (ca 0) (sa 0))) (v := .ref (na 0)) hx hb hts iX7 hown hK hP _ (zat_l (wTo_at0 cy x (ta 0) (na 0) (da 0) (pa 0) (ca 0) (sa 0))) rfl 1 (by decide) k19 (fun _ h9 => h9) rfl dX7_ratio_1 ?_
  refine lv_iload_n hx hb dX7_ratio_4 rfl (lv_at hl 1 rfl) ?_
  refine z_cVi (b := na 0) (As := [.int x01]) (rest := []) (wc := (wLn cy na v)) (wcf := fun o' => (wLn cy na v)) (wf := fun o' => ((wTo cy x (ta 0) (na 0) (da 0) (pa 0) (ca 0) (sa 0)) ++ ((wTx cy ta tl td tn tq) ++ ((wPo cy pa la pn pz) ++ ((wLs cy la pl) ++ ((wCo cy ca (ra 0) sn sb c0 c1 c2 c3) ++ ((wLn cy ra tv) ++ ((wSe cy sa sp sq sk) ++ ((wLn cy na v) ++ (wLn cy da u)))))))))) (rf := fun o' => o') hF (fun o' hz => c_X1_has l G cy st na v x01 o' hz) (fun o' => (zCut_r (zCut_r (zCut_r (zCut_r (zCut_r (zCut_r (zCut_r (zCut_l zCut_all))))))))) ⟨hx, hb, hml, hown, hts⟩ (cwV 1 hts gX7_ratio_X1_has rfl rfl rfl (by decide +kernel) ⟨by decide, by decide⟩) (ci := 1) (q0 := 0) rfl (wLn_at0 cy na v) hK hSE hA hP hD hS rfl hl.1 rfl (Nat.le_of_ble_eq_true rfl) dX7_ratio_5 ⟨Nat.le_refl _, Nat.le_refl _⟩ (fun o1 hF H locs hP hD hS => ?_)
  refine zf_eq (tgt := 20) hx hb hF dX7_ratio_8 (by decide) (fun hF => ?_) (fun hF => ?_)
  · refine lv_ldc2 (v := (-1)) hx hb hown k167 dX7_ratio_20 ?_
    refine z_lret (o := o) (o1 := (-1)) (v := (-1)) (wf := (fun o => ((wTo cy x (ta 0) (na 0) (da 0) (pa 0) (ca 0) (sa 0)) ++ ((wTx cy ta tl td tn tq) ++ ((wPo cy pa la pn pz) ++ ((wLs cy la pl) ++ ((wCo cy ca (ra 0) sn sb c0 c1 c2 c3) ++ ((wLn cy ra tv) ++ ((wSe cy sa sp sq sk) ++ ((wLn cy na v) ++ (wLn cy da u))))))))))) (rf := fun o => o) hx hb hr hlocks hK ?_ ?_ hS ?_ rfl dX7_ratio_23
    · exact hP
    · exact hD
    · exact hF
  · refine lv_iload_n hx hb dX7_ratio_11 rfl (lv_at hl 2 rfl) ?_
    refine zf_lt (tgt := 20) hx hb hF dX7_ratio_12 (by decide) (fun hF => ?_) (fun hF => ?_)
    · refine lv_ldc2 (v := (-1)) hx hb hown k167 dX7_ratio_20 ?_
      refine z_lret (o := o) (o1 := (-1)) (v := (-1)) (wf := (fun o => ((wTo cy x (ta 0) (na 0) (da 0) (pa 0) (ca 0) (sa 0)) ++ ((wTx cy ta tl td tn tq) ++ ((wPo cy pa la pn pz) ++ ((wLs cy la pl) ++ ((wCo cy ca (ra 0) sn sb c0 c1 c2 c3) ++ ((wLn cy ra tv) ++ ((wSe cy sa sp sq sk) ++ ((wLn cy na v) ++ (wLn cy da u))))))))))) (rf := fun o => o) hx hb hr hlocks hK ?_ ?_ hS ?_ rfl dX7_ratio_23
      · exact hP
      · exact hD
      · exact hF
    · refine lv_iload_n hx hb dX7_ratio_15 rfl (lv_at hl 2 rfl) ?_
      refine lv_iconst (v := 1) hx hb dX7_ratio_16 (by decide) ?_
      refine zi_le (tgt := 24) hx hb hF dX7_ratio_17 (by decide) (fun hF => ?_) (fun hF => ?_)
      · refine lv_lconst (v := 1) hx hb dX7_ratio_24 (by decide) ?_
        refine lv_lstore_n (lv' := [(3, .long 1), (0, .ref x), (1, .int x01), (2, .int x02)]) hx hb dX7_ratio_25 rfl hl (by decide) rfl (fun ls hl => ?_)
        refine lv_lconst (v := 1) hx hb dX7_ratio_26 (by decide) ?_
        refine lv_lstore (lv' := [(5, .long 1), (3, .long 1), (0, .ref x), (1, .int x01), (2, .int x02)]) hx hb dX7_ratio_27 hl (by decide) rfl (fun ls hl => ?_)
        refine lv_iconst (v := 0) hx hb dX7_ratio_29 (by decide) ?_
        refine lv_istore (lv' := [(7, .int 0), (5, .long 1), (3, .long 1), (0, .ref x), (1, .int x01), (2, .int x02)]) hx hb dX7_ratio_30 hl (by decide) rfl (fun ls hl => ?_)
        have J69 : ∀ (y2 : Int64) (y3 : Int64) (H : Heap) (locs : List Loc) (ls : Array Slot), va_P G vwCl ((wTo cy x (ta 0) (na 0) (da 0) (pa 0) (ca 0) (sa 0)) ++ ((wTx cy ta tl td tn tq) ++ ((wPo cy pa la pn pz) ++ ((wLs cy la pl) ++ ((wCo cy ca (ra 0) sn sb c0 c1 c2 c3) ++ ((wLn cy ra tv) ++ ((wSe cy sa sp sq sk) ++ ((wLn cy na v) ++ (wLn cy da u))))))))) H → va_D A ((wTo cy x (ta 0) (na 0) (da 0) (pa 0) (ca 0) (sa 0)) ++ ((wTx cy ta tl td tn tq) ++ ((wPo cy pa la pn pz) ++ ((wLs cy la pl) ++ ((wCo cy ca (ra 0) sn sb c0 c1 c2 c3) ++ ((wLn cy ra tv) ++ ((wSe cy sa sp sq sk) ++ ((wLn cy na v) ++ (wLn cy da u))))))))) → va_S A s.heap H locs → lv_has ls 9 [(2, .int x02), (3, .long y2), (5, .long y3)] → j_X7_ratio_69 x02 y2 y3 = some o → W p l e (zR 2) s m ([.ref x, .int x01, .int x02] : List Value).toArray below meth c H locs 0 0 (MQ below (zQl G cy A ((wTo cy x (ta 0) (na 0) (da 0) (pa 0) (ca 0) (sa 0)) ++ ((wTx cy ta tl td tn tq) ++ ((wPo cy pa la pn pz) ++ ((wLs cy la pl) ++ ((wCo cy ca (ra 0) sn sb c0 c1 c2 c3) ++ ((wLn cy ra tv) ++ ((wSe cy sa sp sq sk) ++ ((wLn cy na v) ++ (wLn cy da u))))))))) o) ([.ref x, .int x01, .int x02] : List Value).toArray s 0 0 A) (F0 m 69 ls []) := by
          intro y2 y3 H locs ls hP hD hS hl hF
          unfold j_X7_ratio_69 at hF
          refine lv_lload_n hx hb dX7_ratio_69 rfl (lv_at hl 1 rfl) ?_
          refine lv_lload hx hb dX7_ratio_70 (lv_at hl 2 rfl) ?_
          refine z_cSl (As := [.long y2, .long y3]) (rest := []) (wc := ([] : va_W)) (wcf := fun o' => ([] : va_W)) (wf := fun o' => ((wTo cy x (ta 0) (na 0) (da 0) (pa 0) (ca 0) (sa 0)) ++ ((wTx cy ta tl td tn tq) ++ ((wPo cy pa la pn pz) ++ ((wLs cy la pl) ++ ((wCo cy ca (ra 0) sn sb c0 c1 c2 c3) ++ ((wLn cy ra tv) ++ ((wSe cy sa sp sq sk) ++ ((wLn cy na v) ++ (wLn cy da u)))))))))) (rf := fun o' => o') hF (fun o' hz => c_X7_greatestCommon l G cy st y2 y3 o' hz) (fun o' => zCut_nil) ⟨hx, hb, hml, hown, hts⟩ (va_cwS 2 hts gX7_ratio_X7_greatestCommon rfl rfl rfl (by decide +kernel) ⟨by decide, by decide⟩) hK hSE hA hP hD hS rfl hl.1 rfl (Nat.le_of_ble_eq_true rfl) dX7_ratio_72 ⟨Nat.le_refl _, Nat.le_refl _⟩ (fun o4 hF H locs hP hD hS => ?_)
          refine lv_lstore (lv' := [(7, .long o4), (2, .int x02), (3, .long y2), (5, .long y3)]) hx hb dX7_ratio_75 hl (by decide) rfl (fun ls hl => ?_)
          refine lv_lload hx hb dX7_ratio_77 (lv_at hl 0 rfl) ?_
          refine lv_lconst (v := 1) hx hb dX7_ratio_79 (by decide) ?_
          refine W.lcmp hx hb dX7_ratio_80 ?_
          refine zf_ge (tgt := 88) hx hb hF dX7_ratio_81 (by decide) (fun hF => ?_) (fun hF => ?_)
          · refine lv_iload_n hx hb dX7_ratio_88 rfl (lv_at hl 1 rfl) ?_
            refine zf_ne (tgt := 96) hx hb hF dX7_ratio_89 (by decide) (fun hF => ?_) (fun hF => ?_)
            · refine lv_lload hx hb dX7_ratio_96 (lv_at hl 3 rfl) ?_
              refine lv_lload hx hb dX7_ratio_98 (lv_at hl 0 rfl) ?_
              obtain ⟨g5, hF⟩ := zg_some hF
              refine lv_ldiv hx hb dX7_ratio_100 (of_decide_eq_true g5) ?_
              refine z_lret (o := o) (o1 := (y3 / o4)) (v := (y3 / o4)) (wf := (fun o => ((wTo cy x (ta 0) (na 0) (da 0) (pa 0) (ca 0) (sa 0)) ++ ((wTx cy ta tl td tn tq) ++ ((wPo cy pa la pn pz) ++ ((wLs cy la pl) ++ ((wCo cy ca (ra 0) sn sb c0 c1 c2 c3) ++ ((wLn cy ra tv) ++ ((wSe cy sa sp sq sk) ++ ((wLn cy na v) ++ (wLn cy da u))))))))))) (rf := fun o => o) hx hb hr hlocks hK ?_ ?_ hS ?_ rfl dX7_ratio_101
              · exact hP
              · exact hD
              · exact hF
            · refine lv_lload_n hx hb dX7_ratio_92 rfl (lv_at hl 2 rfl) ?_
              refine lv_goto (tgt := 98) hx hb dX7_ratio_93 (by decide) ?_
              refine lv_lload hx hb dX7_ratio_98 (lv_at hl 0 rfl) ?_
              obtain ⟨g6, hF⟩ := zg_some hF
              refine lv_ldiv hx hb dX7_ratio_100 (of_decide_eq_true g6) ?_
              refine z_lret (o := o) (o1 := (y2 / o4)) (v := (y2 / o4)) (wf := (fun o => ((wTo cy x (ta 0) (na 0) (da 0) (pa 0) (ca 0) (sa 0)) ++ ((wTx cy ta tl td tn tq) ++ ((wPo cy pa la pn pz) ++ ((wLs cy la pl) ++ ((wCo cy ca (ra 0) sn sb c0 c1 c2 c3) ++ ((wLn cy ra tv) ++ ((wSe cy sa sp sq sk) ++ ((wLn cy na v) ++ (wLn cy da u))))))))))) (rf := fun o => o) hx hb hr hlocks hK ?_ ?_ hS ?_ rfl dX7_ratio_101
              · exact hP
              · exact hD
              · exact hF
          · refine lv_ldc2 (v := (-1)) hx hb hown k167 dX7_ratio_84 ?_
            refine z_lret (o := o) (o1 := (-1)) (v := (-1)) (wf := (fun o => ((wTo cy x (ta 0) (na 0) (da 0) (pa 0) (ca 0) (sa 0)) ++ ((wTx cy ta tl td tn tq) ++ ((wPo cy pa la pn pz) ++ ((wLs cy la pl) ++ ((wCo cy ca (ra 0) sn sb c0 c1 c2 c3) ++ ((wLn cy ra tv) ++ ((wSe cy sa sp sq sk) ++ ((wLn cy na v) ++ (wLn cy da u))))))))))) (rf := fun o => o) hx hb hr hlocks hK ?_ ?_ hS ?_ rfl dX7_ratio_87
            · exact hP
            · exact hD
            · exact hF
        have L32 : ∀ (n : Nat) (s32 : Int64 × Int64 × Int32) (H : Heap) (locs : List Loc) (ls : Array Slot), va_P G vwCl ((wTo cy x (ta 0) (na 0) (da 0) (pa 0) (ca 0) (sa 0)) ++ ((wTx cy ta tl td tn tq) ++ ((wPo cy pa la pn pz) ++ ((wLs cy la pl) ++ ((wCo cy ca (ra 0) sn sb c0 c1 c2 c3) ++ ((wLn cy ra tv) ++ ((wSe cy sa sp sq sk) ++ ((wLn cy na v) ++ (wLn cy da u))))))))) H → va_D A ((wTo cy x (ta 0) (na 0) (da 0) (pa 0) (ca 0) (sa 0)) ++ ((wTx cy ta tl td tn tq) ++ ((wPo cy pa la pn pz) ++ ((wLs cy la pl) ++ ((wCo cy ca (ra 0) sn sb c0 c1 c2 c3) ++ ((wLn cy ra tv) ++ ((wSe cy sa sp sq sk) ++ ((wLn cy na v) ++ (wLn cy da u))))))))) → va_S A s.heap H locs → lv_has ls 9 [(0, .ref x), (1, .int x01), (2, .int x02), (3, .long s32.1), (5, .long s32.2.1), (7, .int s32.2.2)] → zloop (b_X7_ratio_32 v x01 x02) n s32 = some o → W p l e (zR 2) s m ([.ref x, .int x01, .int x02] : List Value).toArray below meth c H locs 0 0 (MQ below (zQl G cy A ((wTo cy x (ta 0) (na 0) (da 0) (pa 0) (ca 0) (sa 0)) ++ ((wTx cy ta tl td tn tq) ++ ((wPo cy pa la pn pz) ++ ((wLs cy la pl) ++ ((wCo cy ca (ra 0) sn sb c0 c1 c2 c3) ++ ((wLn cy ra tv) ++ ((wSe cy sa sp sq sk) ++ ((wLn cy na v) ++ (wLn cy da u))))))))) o) ([.ref x, .int x01, .int x02] : List Value).toArray s 0 0 A) (F0 m 32 ls []) := by
          intro n
          induction n with
          | zero => exact fun s32 H locs ls _ _ _ _ hF => (zloop_0 hF).elim
          | succ n ih32 =>
            intro s32 H locs ls hP hD hS hl hF
            have hF : b_X7_ratio_32 v x01 x02 (zloop (b_X7_ratio_32 v x01 x02) n) s32 = some o := hF
            generalize zloop (b_X7_ratio_32 v x01 x02) n = rc32 at ih32 hF
            unfold b_X7_ratio_32 at hF
            refine lv_iload hx hb dX7_ratio_32 (lv_at hl 5 rfl) ?_
            refine lv_iload_n hx hb dX7_ratio_34 rfl (lv_at hl 1 rfl) ?_
            refine zi_gt (tgt := 69) hx hb hF dX7_ratio_35 (by decide) (fun hF => ?_) (fun hF => ?_)
            · exact J69 s32.1 s32.2.1 _ _ ls hP hD hS (lv_sub hl [2, 3, 4] rfl) hF
            · refine lv_lload_n hx hb dX7_ratio_38 rfl (lv_at hl 3 rfl) ?_
              refine lv_aload_n hx hb dX7_ratio_39 rfl (lv_at hl 0 rfl) ?_
              refine va_get (ci := 7) (C := RX7) (T := TX7) (N := 6) (fs := (zTo x (ta 0) (na 0) (da 0) (pa 0) (ca 0) (sa 0))) (v := .ref (na 0)) hx hb hts iX7 hown hK hP _ (zat_l (wTo_at0 cy x (ta 0) (na 0) (da 0) (pa 0) (ca 0) (sa 0))) rfl 1 (by decide) k19 (fun _ h9 => h9) rfl dX7_ratio_40 ?_
              refine va_get (ci := 1) (C := RX1) (T := TX1) (N := 6) (fs := (zLn na v)) (v := .ref (na 1)) hx hb hts iX1 hown hK hP _ (zat_r (wTo_len cy x (ta 0) (na 0) (da 0) (pa 0) (ca 0) (sa 0)) (zat_r (wTx_len cy ta tl td tn tq) (zat_r (wPo_len cy pa la pn pz) (zat_r (wLs_len cy la pl) (zat_r (wCo_len cy ca (ra 0) sn sb c0 c1 c2 c3) (zat_r (wLn_len cy ra tv) (zat_r (wSe_len cy sa sp sq sk) (zat_l (wLn_at0 cy na v))))))))) rfl 0 (by decide) k96 (fun _ h9 => h9) rfl dX7_ratio_43 ?_
              refine lv_iload hx hb dX7_ratio_46 (lv_at hl 5 rfl) ?_
              refine z_aald (ad := (fun j => na (2 + j))) (n := 4) hx hb hK hP _ 5 (zat_r (wTo_len cy x (ta 0) (na 0) (da 0) (pa 0) (ca 0) (sa 0)) (zat_r (wTx_len cy ta tl td tn tq) (zat_r (wPo_len cy pa la pn pz) (zat_r (wLs_len cy la pl) (zat_r (wCo_len cy ca (ra 0) sn sb c0 c1 c2 c3) (zat_r (wLn_len cy ra tv) (zat_r (wSe_len cy sa sp sq sk) (zat_l (wLn_at1 cy na v))))))))) rfl hF dX7_ratio_48 (fun h7 hF => ?_)
              refine z_cVi (b := na (2 + zn s32.2.2)) (As := []) (rest := [.long s32.1]) (wc := (wSt cy (na (2 + zn s32.2.2)) (v (zn s32.2.2)))) (wcf := fun o' => (wSt cy (na (2 + zn s32.2.2)) (v (zn s32.2.2)))) (wf := fun o' => ((wTo cy x (ta 0) (na 0) (da 0) (pa 0) (ca 0) (sa 0)) ++ ((wTx cy ta tl td tn tq) ++ ((wPo cy pa la pn pz) ++ ((wLs cy la pl) ++ ((wCo cy ca (ra 0) sn sb c0 c1 c2 c3) ++ ((wLn cy ra tv) ++ ((wSe cy sa sp sq sk) ++ ((wLn cy na v) ++ (wLn cy da u)))))))))) (rf := fun o' => o') hF (fun o' hz => c_X4_turned l G cy st (na (2 + zn s32.2.2)) (v (zn s32.2.2)) o' hz) (fun o' => (zCut_r (zCut_r (zCut_r (zCut_r (zCut_r (zCut_r (zCut_r (zCut_l (wLn_cutS0 cy na v h7)))))))))) ⟨hx, hb, hml, hown, hts⟩ (cwV 0 hts gX7_ratio_X4_turned rfl rfl rfl (by decide +kernel) ⟨by decide, by decide⟩) (ci := 4) (q0 := 0) rfl (wSt_at0 cy (na (2 + zn s32.2.2)) (v (zn s32.2.2))) hK hSE hA hP hD hS rfl hl.1 rfl (Nat.le_of_ble_eq_true rfl) dX7_ratio_49 ⟨Nat.le_refl _, Nat.le_refl _⟩ (fun o8 hF H locs hP hD hS => ?_)
              refine lv_i2l (v := (Int32.toInt64 o8)) hx hb dX7_ratio_52 rfl ?_
              refine lv_lmul hx hb dX7_ratio_53 ?_
              refine z_letl hF (fun x9 hF => ?_)
              refine lv_lstore_n (lv' := [(3, .long x9), (0, .ref x), (1, .int x01), (2, .int x02), (5, .long s32.2.1), (7, .int s32.2.2)]) hx hb dX7_ratio_54 rfl hl (by decide) rfl (fun ls hl => ?_)
              refine lv_lload hx hb dX7_ratio_55 (lv_at hl 4 rfl) ?_
              refine lv_ldc2 (v := 1000) hx hb hown k172 dX7_ratio_57 ?_
              refine lv_lmul hx hb dX7_ratio_60 ?_
              refine z_letl hF (fun x10 hF => ?_)
              refine lv_lstore (lv' := [(5, .long x10), (3, .long x9), (0, .ref x), (1, .int x01), (2, .int x02), (7, .int s32.2.2)]) hx hb dX7_ratio_61 hl (by decide) rfl (fun ls hl => ?_)
              refine z_name hF (fun x11 ex11 hF => ?_)
              refine lv_iinc (v := x11) (lv' := [(7, .int x11), (5, .long x10), (3, .long x9), (0, .ref x), (1, .int x01), (2, .int x02)]) hx hb dX7_ratio_63 hl (k := 5) rfl (by rw [ex11]; rfl) (by decide) rfl (fun ls hl => ?_)
              refine lv_goto (tgt := 32) hx hb dX7_ratio_66 (by decide) ?_
              exact ih32 (x9, x10, x11) _ _ ls hP hD hS (lv_sub hl [3, 4, 5, 2, 1, 0] rfl) hF
        exact L32 1000 (1, 1, 0) _ _ ls hP hD hS (lv_sub hl [3, 4, 5, 2, 1, 0] rfl) hF
      · refine lv_ldc2 (v := (-1)) hx hb hown k167 dX7_ratio_20 ?_
        refine z_lret (o := o) (o1 := (-1)) (v := (-1)) (wf := (fun o => ((wTo cy x (ta 0) (na 0) (da 0) (pa 0) (ca 0) (sa 0)) ++ ((wTx cy ta tl td tn tq) ++ ((wPo cy pa la pn pz) ++ ((wLs cy la pl) ++ ((wCo cy ca (ra 0) sn sb c0 c1 c2 c3) ++ ((wLn cy ra tv) ++ ((wSe cy sa sp sq sk) ++ ((wLn cy na v) ++ (wLn cy da u))))))))))) (rf := fun o => o) hx hb hr hlocks hK ?_ ?_ hS ?_ rfl dX7_ratio_23
        · exact hP
        · exact hD
        · exact hF
def b_X7_graded_11 (v : R2) (x01 : Int32) (rc11 : (Int32) → Option (Int32)) (s11 : Int32) : Option (Int32) :=
if (v 9 0) ≤ s11 then (
some 1) else (
zg (zin s11 4) (
zg (zin (s11 - 1) 4) (
if ((v (zn (s11 - 1)) 3) + x01) ≤ (v (zn s11) 3) then (
zlet (s11 + 1) fun x4 =>
rc11 (x4)) else (
some 0))))
def f_X7_graded (v : R2) (x01 : Int32) : Option (Int32) :=
zbd (f_X7_isGrade x01) fun o1 =>
if o1 = 0 then (
some (-1)) else (
zloop (b_X7_graded_11 v x01) 1000 (1))
set_option maxHeartbeats 4000000 in
set_option maxRecDepth 100000 in
theorem c_X7_graded (l : Launch) (G : va_G) (cy : Nat → ClassId) (st : Nat → Nat) (x : Nat) (ta : Nat → Nat) (pa : Nat → Nat) (la : Nat → Nat → Nat) (ca : Nat → Nat) (ra : Nat → Nat) (sa : Nat → Nat) (na : Nat → Nat) (da : Nat → Nat) (tl : Nat → Int32) (td : Nat → Int32) (tn : Int32) (tq : Int32) (pn : Int32) (pz : Int32) (pl : Nat → R2) (sn : Nat → Int64) (sb : Nat → Int32) (c0 : Int32) (c1 : Int32) (c2 : Int32) (c3 : Int32) (tv : R2) (sp : Nat → Int32) (sq : Nat → Int32) (sk : Int32) (v : R2) (u : R2) (x01 : Int32) (o : Int32) (hF : f_X7_graded v x01 = some o) : zMi l yX7_graded wsX7_graded (zR 2) G cy st [.ref x, .int x01] ((wTo cy x (ta 0) (na 0) (da 0) (pa 0) (ca 0) (sa 0)) ++ ((wTx cy ta tl td tn tq) ++ ((wPo cy pa la pn pz) ++ ((wLs cy la pl) ++ ((wCo cy ca (ra 0) sn sb c0 c1 c2 c3) ++ ((wLn cy ra tv) ++ ((wSe cy sa sp sq sk) ++ ((wLn cy na v) ++ (wLn cy da u))))))))) ((wTo cy x (ta 0) (na 0) (da 0) (pa 0) (ca 0) (sa 0)) ++ ((wTx cy ta tl td tn tq) ++ ((wPo cy pa la pn pz) ++ ((wLs cy la pl) ++ ((wCo cy ca (ra 0) sn sb c0 c1 c2 c3) ++ ((wLn cy ra tv) ++ ((wSe cy sa sp sq sk) ++ ((wLn cy na v) ++ (wLn cy da u))))))))) o := by
  refine zM_of (cc := cX7_graded) (maxL := 3) (ret := (some .int)) (Qc := fun A => zQi G cy A ((wTo cy x (ta 0) (na 0) (da 0) (pa 0) (ca 0) (sa 0)) ++ ((wTx cy ta tl td tn tq) ++ ((wPo cy pa la pn pz) ++ ((wLs cy la pl) ++ ((wCo cy ca (ra 0) sn sb c0 c1 c2 c3) ++ ((wLn cy ra tv) ++ ((wSe cy sa sp sq sk) ++ ((wLn cy na v) ++ (wLn cy da u))))))))) o) (by decide) rfl (Nat.le_of_ble_eq_true rfl) ?_
  intro p e s m below meth c A ls hx hb hml hr hlocks hown hts hK hSE hA hP hD hS hl
  have hown : s.vm.findClass RX7 = some m.cls := hown
  have hl : lv_has ls 3 [(0, .ref x), (1, .int x01)] := hl
  have k19 := hts (.fieldLink RX7 19 "TapCascade" "line" "LTapCascade$Line;") (by decide +kernel)
  have iX7 : ∀ w ∈ wsX70, w ∈ wsX7_graded := fun w h => List.mem_cons_of_mem _ (List.mem_append_left _ (List.mem_append_left _ (List.mem_append_right _ h)))
  have k74 := hts (.fieldLink RX7 74 "TapCascade$Line" "size" "I") (by decide +kernel)
  have iX1 : ∀ w ∈ wsX10, w ∈ wsX7_graded := fun w h => List.mem_cons_of_mem _ (List.mem_append_left _ (List.mem_append_right _ h))
  have k96 := hts (.fieldLink RX7 96 "TapCascade$Line" "stages" "[LTapCascade$Stage;") (by decide +kernel)
  have k181 := hts (.fieldLink RX7 181 "TapCascade$Stage" "wait" "I") (by decide +kernel)
  have iX4 : ∀ w ∈ wsX40, w ∈ wsX7_graded := fun w h => List.mem_cons_of_mem _ (List.mem_append_right _ h)
  unfold f_X7_graded at hF
  refine lv_iload_n hx hb dX7_graded_0 rfl (lv_at hl 1 rfl) ?_
  refine z_cSi (As := [.int x01]) (rest := []) (wc := ([] : va_W)) (wcf := fun o' => ([] : va_W)) (wf := fun o' => ((wTo cy x (ta 0) (na 0) (da 0) (pa 0) (ca 0) (sa 0)) ++ ((wTx cy ta tl td tn tq) ++ ((wPo cy pa la pn pz) ++ ((wLs cy la pl) ++ ((wCo cy ca (ra 0) sn sb c0 c1 c2 c3) ++ ((wLn cy ra tv) ++ ((wSe cy sa sp sq sk) ++ ((wLn cy na v) ++ (wLn cy da u)))))))))) (rf := fun o' => o') hF (fun o' hz => c_X7_isGrade l G cy st x01 o' hz) (fun o' => zCut_nil) ⟨hx, hb, hml, hown, hts⟩ (va_cwS 1 hts gX7_graded_X7_isGrade rfl rfl rfl (by decide +kernel) ⟨by decide, by decide⟩) hK hSE hA hP hD hS rfl hl.1 rfl (Nat.le_of_ble_eq_true rfl) dX7_graded_1 ⟨Nat.le_refl _, Nat.le_refl _⟩ (fun o1 hF H locs hP hD hS => ?_)
  refine zf_ne (tgt := 9) hx hb hF dX7_graded_4 (by decide) (fun hF => ?_) (fun hF => ?_)
  · refine lv_iconst (v := 1) hx hb dX7_graded_9 (by decide) ?_
    refine lv_istore_n (lv' := [(2, .int 1), (0, .ref x), (1, .int x01)]) hx hb dX7_graded_10 rfl hl (by decide) rfl (fun ls hl => ?_)
    have L11 : ∀ (n : Nat) (s11 : Int32) (H : Heap) (locs : List Loc) (ls : Array Slot), va_P G vwCl ((wTo cy x (ta 0) (na 0) (da 0) (pa 0) (ca 0) (sa 0)) ++ ((wTx cy ta tl td tn tq) ++ ((wPo cy pa la pn pz) ++ ((wLs cy la pl) ++ ((wCo cy ca (ra 0) sn sb c0 c1 c2 c3) ++ ((wLn cy ra tv) ++ ((wSe cy sa sp sq sk) ++ ((wLn cy na v) ++ (wLn cy da u))))))))) H → va_D A ((wTo cy x (ta 0) (na 0) (da 0) (pa 0) (ca 0) (sa 0)) ++ ((wTx cy ta tl td tn tq) ++ ((wPo cy pa la pn pz) ++ ((wLs cy la pl) ++ ((wCo cy ca (ra 0) sn sb c0 c1 c2 c3) ++ ((wLn cy ra tv) ++ ((wSe cy sa sp sq sk) ++ ((wLn cy na v) ++ (wLn cy da u))))))))) → va_S A s.heap H locs → lv_has ls 3 [(0, .ref x), (1, .int x01), (2, .int s11)] → zloop (b_X7_graded_11 v x01) n s11 = some o → W p l e (zR 2) s m ([.ref x, .int x01] : List Value).toArray below meth c H locs 0 0 (MQ below (zQi G cy A ((wTo cy x (ta 0) (na 0) (da 0) (pa 0) (ca 0) (sa 0)) ++ ((wTx cy ta tl td tn tq) ++ ((wPo cy pa la pn pz) ++ ((wLs cy la pl) ++ ((wCo cy ca (ra 0) sn sb c0 c1 c2 c3) ++ ((wLn cy ra tv) ++ ((wSe cy sa sp sq sk) ++ ((wLn cy na v) ++ (wLn cy da u))))))))) o) ([.ref x, .int x01] : List Value).toArray s 0 0 A) (F0 m 11 ls []) := by
      intro n
      induction n with
      | zero => exact fun s11 H locs ls _ _ _ _ hF => (zloop_0 hF).elim
      | succ n ih11 =>
        intro s11 H locs ls hP hD hS hl hF
        have hF : b_X7_graded_11 v x01 (zloop (b_X7_graded_11 v x01) n) s11 = some o := hF
        generalize zloop (b_X7_graded_11 v x01) n = rc11 at ih11 hF
        unfold b_X7_graded_11 at hF
        refine lv_iload_n hx hb dX7_graded_11 rfl (lv_at hl 2 rfl) ?_
        refine lv_aload_n hx hb dX7_graded_12 rfl (lv_at hl 0 rfl) ?_
        refine va_get (ci := 7) (C := RX7) (T := TX7) (N := 6) (fs := (zTo x (ta 0) (na 0) (da 0) (pa 0) (ca 0) (sa 0))) (v := .ref (na 0)) hx hb hts iX7 hown hK hP _ (zat_l (wTo_at0 cy x (ta 0) (na 0) (da 0) (pa 0) (ca 0) (sa 0))) rfl 1 (by decide) k19 (fun _ h9 => h9) rfl dX7_graded_13 ?_
        refine va_get (ci := 1) (C := RX1) (T := TX1) (N := 6) (fs := (zLn na v)) (v := .int (v 9 0)) hx hb hts iX1 hown hK hP _ (zat_r (wTo_len cy x (ta 0) (na 0) (da 0) (pa 0) (ca 0) (sa 0)) (zat_r (wTx_len cy ta tl td tn tq) (zat_r (wPo_len cy pa la pn pz) (zat_r (wLs_len cy la pl) (zat_r (wCo_len cy ca (ra 0) sn sb c0 c1 c2 c3) (zat_r (wLn_len cy ra tv) (zat_r (wSe_len cy sa sp sq sk) (zat_l (wLn_at0 cy na v))))))))) rfl 3 (by decide) k74 (fun _ h9 => h9) rfl dX7_graded_16 ?_
        refine zi_ge (tgt := 61) hx hb hF dX7_graded_19 (by decide) (fun hF => ?_) (fun hF => ?_)
        · refine lv_iconst (v := 1) hx hb dX7_graded_61 (by decide) ?_
          refine z_iret (o := o) (o1 := 1) (v := 1) (wf := (fun o => ((wTo cy x (ta 0) (na 0) (da 0) (pa 0) (ca 0) (sa 0)) ++ ((wTx cy ta tl td tn tq) ++ ((wPo cy pa la pn pz) ++ ((wLs cy la pl) ++ ((wCo cy ca (ra 0) sn sb c0 c1 c2 c3) ++ ((wLn cy ra tv) ++ ((wSe cy sa sp sq sk) ++ ((wLn cy na v) ++ (wLn cy da u))))))))))) (rf := fun o => o) hx hb hr hlocks hK ?_ ?_ hS ?_ rfl dX7_graded_62
          · exact hP
          · exact hD
          · exact hF
        · refine lv_aload_n hx hb dX7_graded_22 rfl (lv_at hl 0 rfl) ?_
          refine va_get (ci := 7) (C := RX7) (T := TX7) (N := 6) (fs := (zTo x (ta 0) (na 0) (da 0) (pa 0) (ca 0) (sa 0))) (v := .ref (na 0)) hx hb hts iX7 hown hK hP _ (zat_l (wTo_at0 cy x (ta 0) (na 0) (da 0) (pa 0) (ca 0) (sa 0))) rfl 1 (by decide) k19 (fun _ h9 => h9) rfl dX7_graded_23 ?_
          refine va_get (ci := 1) (C := RX1) (T := TX1) (N := 6) (fs := (zLn na v)) (v := .ref (na 1)) hx hb hts iX1 hown hK hP _ (zat_r (wTo_len cy x (ta 0) (na 0) (da 0) (pa 0) (ca 0) (sa 0)) (zat_r (wTx_len cy ta tl td tn tq) (zat_r (wPo_len cy pa la pn pz) (zat_r (wLs_len cy la pl) (zat_r (wCo_len cy ca (ra 0) sn sb c0 c1 c2 c3) (zat_r (wLn_len cy ra tv) (zat_r (wSe_len cy sa sp sq sk) (zat_l (wLn_at0 cy na v))))))))) rfl 0 (by decide) k96 (fun _ h9 => h9) rfl dX7_graded_26 ?_
          refine lv_iload_n hx hb dX7_graded_29 rfl (lv_at hl 2 rfl) ?_
          refine z_aald (ad := (fun j => na (2 + j))) (n := 4) hx hb hK hP _ 5 (zat_r (wTo_len cy x (ta 0) (na 0) (da 0) (pa 0) (ca 0) (sa 0)) (zat_r (wTx_len cy ta tl td tn tq) (zat_r (wPo_len cy pa la pn pz) (zat_r (wLs_len cy la pl) (zat_r (wCo_len cy ca (ra 0) sn sb c0 c1 c2 c3) (zat_r (wLn_len cy ra tv) (zat_r (wSe_len cy sa sp sq sk) (zat_l (wLn_at1 cy na v))))))))) rfl hF dX7_graded_30 (fun h2 hF => ?_)
          refine va_get (ci := 4) (C := RX4) (T := TX4) (N := 15) (fs := (zSt (v (zn s11)))) (v := .int (v (zn s11) 3)) hx hb hts iX4 hown hK hP _ (zat_r (wTo_len cy x (ta 0) (na 0) (da 0) (pa 0) (ca 0) (sa 0)) (zat_r (wTx_len cy ta tl td tn tq) (zat_r (wPo_len cy pa la pn pz) (zat_r (wLs_len cy la pl) (zat_r (wCo_len cy ca (ra 0) sn sb c0 c1 c2 c3) (zat_r (wLn_len cy ra tv) (zat_r (wSe_len cy sa sp sq sk) (zat_l (wLn_atS cy na v h2))))))))) rfl 3 (by decide) k181 (fun _ h9 => h9) rfl dX7_graded_31 ?_
          refine lv_aload_n hx hb dX7_graded_34 rfl (lv_at hl 0 rfl) ?_
          refine va_get (ci := 7) (C := RX7) (T := TX7) (N := 6) (fs := (zTo x (ta 0) (na 0) (da 0) (pa 0) (ca 0) (sa 0))) (v := .ref (na 0)) hx hb hts iX7 hown hK hP _ (zat_l (wTo_at0 cy x (ta 0) (na 0) (da 0) (pa 0) (ca 0) (sa 0))) rfl 1 (by decide) k19 (fun _ h9 => h9) rfl dX7_graded_35 ?_
          refine va_get (ci := 1) (C := RX1) (T := TX1) (N := 6) (fs := (zLn na v)) (v := .ref (na 1)) hx hb hts iX1 hown hK hP _ (zat_r (wTo_len cy x (ta 0) (na 0) (da 0) (pa 0) (ca 0) (sa 0)) (zat_r (wTx_len cy ta tl td tn tq) (zat_r (wPo_len cy pa la pn pz) (zat_r (wLs_len cy la pl) (zat_r (wCo_len cy ca (ra 0) sn sb c0 c1 c2 c3) (zat_r (wLn_len cy ra tv) (zat_r (wSe_len cy sa sp sq sk) (zat_l (wLn_at0 cy na v))))))))) rfl 0 (by decide) k96 (fun _ h9 => h9) rfl dX7_graded_38 ?_
          refine lv_iload_n hx hb dX7_graded_41 rfl (lv_at hl 2 rfl) ?_
          refine lv_iconst (v := 1) hx hb dX7_graded_42 (by decide) ?_
          refine lv_isub hx hb dX7_graded_43 ?_
          refine z_aald (ad := (fun j => na (2 + j))) (n := 4) hx hb hK hP _ 5 (zat_r (wTo_len cy x (ta 0) (na 0) (da 0) (pa 0) (ca 0) (sa 0)) (zat_r (wTx_len cy ta tl td tn tq) (zat_r (wPo_len cy pa la pn pz) (zat_r (wLs_len cy la pl) (zat_r (wCo_len cy ca (ra 0) sn sb c0 c1 c2 c3) (zat_r (wLn_len cy ra tv) (zat_r (wSe_len cy sa sp sq sk) (zat_l (wLn_at1 cy na v))))))))) rfl hF dX7_graded_44 (fun h3 hF => ?_)
          refine va_get (ci := 4) (C := RX4) (T := TX4) (N := 15) (fs := (zSt (v (zn (s11 - 1))))) (v := .int (v (zn (s11 - 1)) 3)) hx hb hts iX4 hown hK hP _ (zat_r (wTo_len cy x (ta 0) (na 0) (da 0) (pa 0) (ca 0) (sa 0)) (zat_r (wTx_len cy ta tl td tn tq) (zat_r (wPo_len cy pa la pn pz) (zat_r (wLs_len cy la pl) (zat_r (wCo_len cy ca (ra 0) sn sb c0 c1 c2 c3) (zat_r (wLn_len cy ra tv) (zat_r (wSe_len cy sa sp sq sk) (zat_l (wLn_atS cy na v h3))))))))) rfl 3 (by decide) k181 (fun _ h9 => h9) rfl dX7_graded_45 ?_
          refine lv_iload_n hx hb dX7_graded_48 rfl (lv_at hl 1 rfl) ?_
          refine lv_iadd hx hb dX7_graded_49 ?_
          refine zi_ge (tgt := 55) hx hb hF dX7_graded_50 (by decide) (fun hF => ?_) (fun hF => ?_)
          · refine z_name hF (fun x4 ex4 hF => ?_)
            refine lv_iinc (v := x4) (lv' := [(2, .int x4), (0, .ref x), (1, .int x01)]) hx hb dX7_graded_55 hl (k := 2) rfl (by rw [ex4]; rfl) (by decide) rfl (fun ls hl => ?_)
            refine lv_goto (tgt := 11) hx hb dX7_graded_58 (by decide) ?_
            exact ih11 (x4) _ _ ls hP hD hS (lv_sub hl [1, 2, 0] rfl) hF
          · refine lv_iconst (v := 0) hx hb dX7_graded_53 (by decide) ?_
            refine z_iret (o := o) (o1 := 0) (v := 0) (wf := (fun o => ((wTo cy x (ta 0) (na 0) (da 0) (pa 0) (ca 0) (sa 0)) ++ ((wTx cy ta tl td tn tq) ++ ((wPo cy pa la pn pz) ++ ((wLs cy la pl) ++ ((wCo cy ca (ra 0) sn sb c0 c1 c2 c3) ++ ((wLn cy ra tv) ++ ((wSe cy sa sp sq sk) ++ ((wLn cy na v) ++ (wLn cy da u))))))))))) (rf := fun o => o) hx hb hr hlocks hK ?_ ?_ hS ?_ rfl dX7_graded_54
            · exact hP
            · exact hD
            · exact hF
    exact L11 1000 (1) _ _ ls hP hD hS (lv_sub hl [1, 2, 0] rfl) hF
  · refine lv_iconst (v := (-1)) hx hb dX7_graded_7 (by decide) ?_
    refine z_iret (o := o) (o1 := (-1)) (v := (-1)) (wf := (fun o => ((wTo cy x (ta 0) (na 0) (da 0) (pa 0) (ca 0) (sa 0)) ++ ((wTx cy ta tl td tn tq) ++ ((wPo cy pa la pn pz) ++ ((wLs cy la pl) ++ ((wCo cy ca (ra 0) sn sb c0 c1 c2 c3) ++ ((wLn cy ra tv) ++ ((wSe cy sa sp sq sk) ++ ((wLn cy na v) ++ (wLn cy da u))))))))))) (rf := fun o => o) hx hb hr hlocks hK ?_ ?_ hS ?_ rfl dX7_graded_8
    · exact hP
    · exact hD
    · exact hF
def b_X7_waits_36 (v : R2) (x01 : Int32) (x02 : Int32) (rc36 : (Int32 × Int32) → Option (Int32)) (s36 : Int32 × Int32) : Option (Int32) :=
if x01 < s36.2 then (
some s36.1) else (
zg (zin s36.2 4) (
zlet (zmax (v (zn s36.2) 3) (s36.1 + x02)) fun x6 =>
zlet (s36.2 + 1) fun x7 =>
rc36 (x6, x7)))
def f_X7_waits (v : R2) (x01 : Int32) (x02 : Int32) : Option (Int32) :=
zbd (f_X1_has v x01) fun o1 =>
if o1 = 0 then (
some (-1)) else (
zbd (f_X7_isGrade x02) fun o2 =>
if o2 = 0 then (
some (-1)) else (
zg (zin 0 4) (
zlet (v (zn 0) 3) fun x4 =>
zloop (b_X7_waits_36 v x01 x02) 1000 (x4, 1))))
set_option maxHeartbeats 4000000 in
set_option maxRecDepth 100000 in
theorem c_X7_waits (l : Launch) (G : va_G) (cy : Nat → ClassId) (st : Nat → Nat) (x : Nat) (ta : Nat → Nat) (pa : Nat → Nat) (la : Nat → Nat → Nat) (ca : Nat → Nat) (ra : Nat → Nat) (sa : Nat → Nat) (na : Nat → Nat) (da : Nat → Nat) (tl : Nat → Int32) (td : Nat → Int32) (tn : Int32) (tq : Int32) (pn : Int32) (pz : Int32) (pl : Nat → R2) (sn : Nat → Int64) (sb : Nat → Int32) (c0 : Int32) (c1 : Int32) (c2 : Int32) (c3 : Int32) (tv : R2) (sp : Nat → Int32) (sq : Nat → Int32) (sk : Int32) (v : R2) (u : R2) (x01 : Int32) (x02 : Int32) (o : Int32) (hF : f_X7_waits v x01 x02 = some o) : zMi l yX7_waits wsX7_waits (zR 2) G cy st [.ref x, .int x01, .int x02] ((wTo cy x (ta 0) (na 0) (da 0) (pa 0) (ca 0) (sa 0)) ++ ((wTx cy ta tl td tn tq) ++ ((wPo cy pa la pn pz) ++ ((wLs cy la pl) ++ ((wCo cy ca (ra 0) sn sb c0 c1 c2 c3) ++ ((wLn cy ra tv) ++ ((wSe cy sa sp sq sk) ++ ((wLn cy na v) ++ (wLn cy da u))))))))) ((wTo cy x (ta 0) (na 0) (da 0) (pa 0) (ca 0) (sa 0)) ++ ((wTx cy ta tl td tn tq) ++ ((wPo cy pa la pn pz) ++ ((wLs cy la pl) ++ ((wCo cy ca (ra 0) sn sb c0 c1 c2 c3) ++ ((wLn cy ra tv) ++ ((wSe cy sa sp sq sk) ++ ((wLn cy na v) ++ (wLn cy da u))))))))) o := by
  refine zM_of (cc := cX7_waits) (maxL := 5) (ret := (some .int)) (Qc := fun A => zQi G cy A ((wTo cy x (ta 0) (na 0) (da 0) (pa 0) (ca 0) (sa 0)) ++ ((wTx cy ta tl td tn tq) ++ ((wPo cy pa la pn pz) ++ ((wLs cy la pl) ++ ((wCo cy ca (ra 0) sn sb c0 c1 c2 c3) ++ ((wLn cy ra tv) ++ ((wSe cy sa sp sq sk) ++ ((wLn cy na v) ++ (wLn cy da u))))))))) o) (by decide) rfl (Nat.le_of_ble_eq_true rfl) ?_
  intro p e s m below meth c A ls hx hb hml hr hlocks hown hts hK hSE hA hP hD hS hl
  have hown : s.vm.findClass RX7 = some m.cls := hown
  have hl : lv_has ls 5 [(0, .ref x), (1, .int x01), (2, .int x02)] := hl
  have k19 := hts (.fieldLink RX7 19 "TapCascade" "line" "LTapCascade$Line;") (by decide +kernel)
  have iX7 : ∀ w ∈ wsX70, w ∈ wsX7_waits := fun w h => List.mem_cons_of_mem _ (List.mem_append_left _ (List.mem_append_left _ (List.mem_append_right _ h)))
  have k96 := hts (.fieldLink RX7 96 "TapCascade$Line" "stages" "[LTapCascade$Stage;") (by decide +kernel)
  have iX1 : ∀ w ∈ wsX10, w ∈ wsX7_waits := fun w h => List.mem_cons_of_mem _ (List.mem_append_left _ (List.mem_append_right _ h))
  have k181 := hts (.fieldLink RX7 181 "TapCascade$Stage" "wait" "I") (by decide +kernel)
  have iX4 : ∀ w ∈ wsX40, w ∈ wsX7_waits := fun w h => List.mem_cons_of_mem _ (List.mem_append_right _ h)
  have k184 := hts (.methodLink RX7 184 Lib.Math.max.name) (by decide +kernel)
  have k184s := hts (.static Lib.Math.max.name) (by decide +kernel)
  have kMi := hts (.initialized "java/lang/Math") (by decide +kernel)
  have k184c := hts (.code Lib.Math.max.name Lib.Math.max.code 2 (some .int)) (by decide +kernel)
  unfold f_X7_waits at hF
  refine lv_aload_n hx hb dX7_waits_0 rfl (lv_at hl 0 rfl) ?_
  refine va_get (ci := 7) (C := RX7) (T := TX7) (N := 6) (fs := (zTo x (ta 0) (na 0) (da 0) (pa 0) (ca 0) (sa 0))) (v := .ref (na 0)) hx hb hts iX7 hown hK hP _ (zat_l (wTo_at0 cy x (ta 0) (na 0) (da 0) (pa 0) (ca 0) (sa 0))) rfl 1 (by decide) k19 (fun _ h9 => h9) rfl dX7_waits_1 ?_
  refine lv_iload_n hx hb dX7_waits_4 rfl (lv_at hl 1 rfl) ?_
  refine z_cVi (b := na 0) (As := [.int x01]) (rest := []) (wc := (wLn cy na v)) (wcf := fun o' => (wLn cy na v)) (wf := fun o' => ((wTo cy x (ta 0) (na 0) (da 0) (pa 0) (ca 0) (sa 0)) ++ ((wTx cy ta tl td tn tq) ++ ((wPo cy pa la pn pz) ++ ((wLs cy la pl) ++ ((wCo cy ca (ra 0) sn sb c0 c1 c2 c3) ++ ((wLn cy ra tv) ++ ((wSe cy sa sp sq sk) ++ ((wLn cy na v) ++ (wLn cy da u)))))))))) (rf := fun o' => o') hF (fun o' hz => c_X1_has l G cy st na v x01 o' hz) (fun o' => (zCut_r (zCut_r (zCut_r (zCut_r (zCut_r (zCut_r (zCut_r (zCut_l zCut_all))))))))) ⟨hx, hb, hml, hown, hts⟩ (cwV 1 hts gX7_waits_X1_has rfl rfl rfl (by decide +kernel) ⟨by decide, by decide⟩) (ci := 1) (q0 := 0) rfl (wLn_at0 cy na v) hK hSE hA hP hD hS rfl hl.1 rfl (Nat.le_of_ble_eq_true rfl) dX7_waits_5 ⟨Nat.le_refl _, Nat.le_refl _⟩ (fun o1 hF H locs hP hD hS => ?_)
  refine zf_eq (tgt := 18) hx hb hF dX7_waits_8 (by decide) (fun hF => ?_) (fun hF => ?_)
  · refine lv_iconst (v := (-1)) hx hb dX7_waits_18 (by decide) ?_
    refine z_iret (o := o) (o1 := (-1)) (v := (-1)) (wf := (fun o => ((wTo cy x (ta 0) (na 0) (da 0) (pa 0) (ca 0) (sa 0)) ++ ((wTx cy ta tl td tn tq) ++ ((wPo cy pa la pn pz) ++ ((wLs cy la pl) ++ ((wCo cy ca (ra 0) sn sb c0 c1 c2 c3) ++ ((wLn cy ra tv) ++ ((wSe cy sa sp sq sk) ++ ((wLn cy na v) ++ (wLn cy da u))))))))))) (rf := fun o => o) hx hb hr hlocks hK ?_ ?_ hS ?_ rfl dX7_waits_19
    · exact hP
    · exact hD
    · exact hF
  · refine lv_iload_n hx hb dX7_waits_11 rfl (lv_at hl 2 rfl) ?_
    refine z_cSi (As := [.int x02]) (rest := []) (wc := ([] : va_W)) (wcf := fun o' => ([] : va_W)) (wf := fun o' => ((wTo cy x (ta 0) (na 0) (da 0) (pa 0) (ca 0) (sa 0)) ++ ((wTx cy ta tl td tn tq) ++ ((wPo cy pa la pn pz) ++ ((wLs cy la pl) ++ ((wCo cy ca (ra 0) sn sb c0 c1 c2 c3) ++ ((wLn cy ra tv) ++ ((wSe cy sa sp sq sk) ++ ((wLn cy na v) ++ (wLn cy da u)))))))))) (rf := fun o' => o') hF (fun o' hz => c_X7_isGrade l G cy st x02 o' hz) (fun o' => zCut_nil) ⟨hx, hb, hml, hown, hts⟩ (va_cwS 1 hts gX7_waits_X7_isGrade rfl rfl rfl (by decide +kernel) ⟨by decide, by decide⟩) hK hSE hA hP hD hS rfl hl.1 rfl (Nat.le_of_ble_eq_true rfl) dX7_waits_12 ⟨Nat.le_refl _, Nat.le_refl _⟩ (fun o2 hF H locs hP hD hS => ?_)
    refine zf_ne (tgt := 20) hx hb hF dX7_waits_15 (by decide) (fun hF => ?_) (fun hF => ?_)
    · refine lv_aload_n hx hb dX7_waits_20 rfl (lv_at hl 0 rfl) ?_
      refine va_get (ci := 7) (C := RX7) (T := TX7) (N := 6) (fs := (zTo x (ta 0) (na 0) (da 0) (pa 0) (ca 0) (sa 0))) (v := .ref (na 0)) hx hb hts iX7 hown hK hP _ (zat_l (wTo_at0 cy x (ta 0) (na 0) (da 0) (pa 0) (ca 0) (sa 0))) rfl 1 (by decide) k19 (fun _ h9 => h9) rfl dX7_waits_21 ?_
      refine va_get (ci := 1) (C := RX1) (T := TX1) (N := 6) (fs := (zLn na v)) (v := .ref (na 1)) hx hb hts iX1 hown hK hP _ (zat_r (wTo_len cy x (ta 0) (na 0) (da 0) (pa 0) (ca 0) (sa 0)) (zat_r (wTx_len cy ta tl td tn tq) (zat_r (wPo_len cy pa la pn pz) (zat_r (wLs_len cy la pl) (zat_r (wCo_len cy ca (ra 0) sn sb c0 c1 c2 c3) (zat_r (wLn_len cy ra tv) (zat_r (wSe_len cy sa sp sq sk) (zat_l (wLn_at0 cy na v))))))))) rfl 0 (by decide) k96 (fun _ h9 => h9) rfl dX7_waits_24 ?_
      refine lv_iconst (v := 0) hx hb dX7_waits_27 (by decide) ?_
      refine z_aald (ad := (fun j => na (2 + j))) (n := 4) hx hb hK hP _ 5 (zat_r (wTo_len cy x (ta 0) (na 0) (da 0) (pa 0) (ca 0) (sa 0)) (zat_r (wTx_len cy ta tl td tn tq) (zat_r (wPo_len cy pa la pn pz) (zat_r (wLs_len cy la pl) (zat_r (wCo_len cy ca (ra 0) sn sb c0 c1 c2 c3) (zat_r (wLn_len cy ra tv) (zat_r (wSe_len cy sa sp sq sk) (zat_l (wLn_at1 cy na v))))))))) rfl hF dX7_waits_28 (fun h3 hF => ?_)
      refine va_get (ci := 4) (C := RX4) (T := TX4) (N := 15) (fs := (zSt (v (zn 0)))) (v := .int (v (zn 0) 3)) hx hb hts iX4 hown hK hP _ (zat_r (wTo_len cy x (ta 0) (na 0) (da 0) (pa 0) (ca 0) (sa 0)) (zat_r (wTx_len cy ta tl td tn tq) (zat_r (wPo_len cy pa la pn pz) (zat_r (wLs_len cy la pl) (zat_r (wCo_len cy ca (ra 0) sn sb c0 c1 c2 c3) (zat_r (wLn_len cy ra tv) (zat_r (wSe_len cy sa sp sq sk) (zat_l (wLn_atS cy na v h3))))))))) rfl 3 (by decide) k181 (fun _ h9 => h9) rfl dX7_waits_29 ?_
      refine z_leti hF (fun x4 hF => ?_)
      refine lv_istore_n (lv' := [(3, .int x4), (0, .ref x), (1, .int x01), (2, .int x02)]) hx hb dX7_waits_32 rfl hl (by decide) rfl (fun ls hl => ?_)
      refine lv_iconst (v := 1) hx hb dX7_waits_33 (by decide) ?_
      refine lv_istore (lv' := [(4, .int 1), (3, .int x4), (0, .ref x), (1, .int x01), (2, .int x02)]) hx hb dX7_waits_34 hl (by decide) rfl (fun ls hl => ?_)
      have L36 : ∀ (n : Nat) (s36 : Int32 × Int32) (H : Heap) (locs : List Loc) (ls : Array Slot), va_P G vwCl ((wTo cy x (ta 0) (na 0) (da 0) (pa 0) (ca 0) (sa 0)) ++ ((wTx cy ta tl td tn tq) ++ ((wPo cy pa la pn pz) ++ ((wLs cy la pl) ++ ((wCo cy ca (ra 0) sn sb c0 c1 c2 c3) ++ ((wLn cy ra tv) ++ ((wSe cy sa sp sq sk) ++ ((wLn cy na v) ++ (wLn cy da u))))))))) H → va_D A ((wTo cy x (ta 0) (na 0) (da 0) (pa 0) (ca 0) (sa 0)) ++ ((wTx cy ta tl td tn tq) ++ ((wPo cy pa la pn pz) ++ ((wLs cy la pl) ++ ((wCo cy ca (ra 0) sn sb c0 c1 c2 c3) ++ ((wLn cy ra tv) ++ ((wSe cy sa sp sq sk) ++ ((wLn cy na v) ++ (wLn cy da u))))))))) → va_S A s.heap H locs → lv_has ls 5 [(0, .ref x), (1, .int x01), (2, .int x02), (3, .int s36.1), (4, .int s36.2)] → zloop (b_X7_waits_36 v x01 x02) n s36 = some o → W p l e (zR 2) s m ([.ref x, .int x01, .int x02] : List Value).toArray below meth c H locs 0 0 (MQ below (zQi G cy A ((wTo cy x (ta 0) (na 0) (da 0) (pa 0) (ca 0) (sa 0)) ++ ((wTx cy ta tl td tn tq) ++ ((wPo cy pa la pn pz) ++ ((wLs cy la pl) ++ ((wCo cy ca (ra 0) sn sb c0 c1 c2 c3) ++ ((wLn cy ra tv) ++ ((wSe cy sa sp sq sk) ++ ((wLn cy na v) ++ (wLn cy da u))))))))) o) ([.ref x, .int x01, .int x02] : List Value).toArray s 0 0 A) (F0 m 36 ls []) := by
        intro n
        induction n with
        | zero => exact fun s36 H locs ls _ _ _ _ hF => (zloop_0 hF).elim
        | succ n ih36 =>
          intro s36 H locs ls hP hD hS hl hF
          have hF : b_X7_waits_36 v x01 x02 (zloop (b_X7_waits_36 v x01 x02) n) s36 = some o := hF
          generalize zloop (b_X7_waits_36 v x01 x02) n = rc36 at ih36 hF
          unfold b_X7_waits_36 at hF
          refine lv_iload hx hb dX7_waits_36 (lv_at hl 4 rfl) ?_
          refine lv_iload_n hx hb dX7_waits_38 rfl (lv_at hl 1 rfl) ?_
          refine zi_gt (tgt := 68) hx hb hF dX7_waits_39 (by decide) (fun hF => ?_) (fun hF => ?_)
          · refine lv_iload_n hx hb dX7_waits_68 rfl (lv_at hl 3 rfl) ?_
            refine z_iret (o := o) (o1 := s36.1) (v := s36.1) (wf := (fun o => ((wTo cy x (ta 0) (na 0) (da 0) (pa 0) (ca 0) (sa 0)) ++ ((wTx cy ta tl td tn tq) ++ ((wPo cy pa la pn pz) ++ ((wLs cy la pl) ++ ((wCo cy ca (ra 0) sn sb c0 c1 c2 c3) ++ ((wLn cy ra tv) ++ ((wSe cy sa sp sq sk) ++ ((wLn cy na v) ++ (wLn cy da u))))))))))) (rf := fun o => o) hx hb hr hlocks hK ?_ ?_ hS ?_ rfl dX7_waits_69
            · exact hP
            · exact hD
            · exact hF
          · refine lv_aload_n hx hb dX7_waits_42 rfl (lv_at hl 0 rfl) ?_
            refine va_get (ci := 7) (C := RX7) (T := TX7) (N := 6) (fs := (zTo x (ta 0) (na 0) (da 0) (pa 0) (ca 0) (sa 0))) (v := .ref (na 0)) hx hb hts iX7 hown hK hP _ (zat_l (wTo_at0 cy x (ta 0) (na 0) (da 0) (pa 0) (ca 0) (sa 0))) rfl 1 (by decide) k19 (fun _ h9 => h9) rfl dX7_waits_43 ?_
            refine va_get (ci := 1) (C := RX1) (T := TX1) (N := 6) (fs := (zLn na v)) (v := .ref (na 1)) hx hb hts iX1 hown hK hP _ (zat_r (wTo_len cy x (ta 0) (na 0) (da 0) (pa 0) (ca 0) (sa 0)) (zat_r (wTx_len cy ta tl td tn tq) (zat_r (wPo_len cy pa la pn pz) (zat_r (wLs_len cy la pl) (zat_r (wCo_len cy ca (ra 0) sn sb c0 c1 c2 c3) (zat_r (wLn_len cy ra tv) (zat_r (wSe_len cy sa sp sq sk) (zat_l (wLn_at0 cy na v))))))))) rfl 0 (by decide) k96 (fun _ h9 => h9) rfl dX7_waits_46 ?_
            refine lv_iload hx hb dX7_waits_49 (lv_at hl 4 rfl) ?_
            refine z_aald (ad := (fun j => na (2 + j))) (n := 4) hx hb hK hP _ 5 (zat_r (wTo_len cy x (ta 0) (na 0) (da 0) (pa 0) (ca 0) (sa 0)) (zat_r (wTx_len cy ta tl td tn tq) (zat_r (wPo_len cy pa la pn pz) (zat_r (wLs_len cy la pl) (zat_r (wCo_len cy ca (ra 0) sn sb c0 c1 c2 c3) (zat_r (wLn_len cy ra tv) (zat_r (wSe_len cy sa sp sq sk) (zat_l (wLn_at1 cy na v))))))))) rfl hF dX7_waits_51 (fun h5 hF => ?_)
            refine va_get (ci := 4) (C := RX4) (T := TX4) (N := 15) (fs := (zSt (v (zn s36.2)))) (v := .int (v (zn s36.2) 3)) hx hb hts iX4 hown hK hP _ (zat_r (wTo_len cy x (ta 0) (na 0) (da 0) (pa 0) (ca 0) (sa 0)) (zat_r (wTx_len cy ta tl td tn tq) (zat_r (wPo_len cy pa la pn pz) (zat_r (wLs_len cy la pl) (zat_r (wCo_len cy ca (ra 0) sn sb c0 c1 c2 c3) (zat_r (wLn_len cy ra tv) (zat_r (wSe_len cy sa sp sq sk) (zat_l (wLn_atS cy na v h5))))))))) rfl 3 (by decide) k181 (fun _ h9 => h9) rfl dX7_waits_52 ?_
            refine lv_iload_n hx hb dX7_waits_55 rfl (lv_at hl 3 rfl) ?_
            refine lv_iload_n hx hb dX7_waits_56 rfl (lv_at hl 2 rfl) ?_
            refine lv_iadd hx hb dX7_waits_57 ?_
            refine va_mmax hx hb (hml.trans hl.1.symm) hown k184 k184s kMi k184c (by decide) (Nat.le_of_ble_eq_true rfl) (Nat.zero_le _) (Nat.zero_le _) dX7_waits_58 ?_
            refine z_leti hF (fun x6 hF => ?_)
            refine lv_istore_n (lv' := [(3, .int x6), (0, .ref x), (1, .int x01), (2, .int x02), (4, .int s36.2)]) hx hb dX7_waits_61 rfl hl (by decide) rfl (fun ls hl => ?_)
            refine z_name hF (fun x7 ex7 hF => ?_)
            refine lv_iinc (v := x7) (lv' := [(4, .int x7), (3, .int x6), (0, .ref x), (1, .int x01), (2, .int x02)]) hx hb dX7_waits_62 hl (k := 4) rfl (by rw [ex7]; rfl) (by decide) rfl (fun ls hl => ?_)
            refine lv_goto (tgt := 36) hx hb dX7_waits_65 (by decide) ?_
            exact ih36 (x6, x7) _ _ ls hP hD hS (lv_sub hl [2, 3, 4, 1, 0] rfl) hF
      exact L36 1000 (x4, 1) _ _ ls hP hD hS (lv_sub hl [2, 3, 4, 1, 0] rfl) hF
    · refine lv_iconst (v := (-1)) hx hb dX7_waits_18 (by decide) ?_
      refine z_iret (o := o) (o1 := (-1)) (v := (-1)) (wf := (fun o => ((wTo cy x (ta 0) (na 0) (da 0) (pa 0) (ca 0) (sa 0)) ++ ((wTx cy ta tl td tn tq) ++ ((wPo cy pa la pn pz) ++ ((wLs cy la pl) ++ ((wCo cy ca (ra 0) sn sb c0 c1 c2 c3) ++ ((wLn cy ra tv) ++ ((wSe cy sa sp sq sk) ++ ((wLn cy na v) ++ (wLn cy da u))))))))))) (rf := fun o => o) hx hb hr hlocks hK ?_ ?_ hS ?_ rfl dX7_waits_19
      · exact hP
      · exact hD
      · exact hF
def f_X7_count (tn : Int32) (pz : Int32) (v : R2) (x01 : Int32) : Option (Int32) :=
if x01 = 0 then (
some (v 9 0)) else (
if x01 = 1 then (
some (v 9 1)) else (
if x01 = 2 then (
some (v 9 2)) else (
if x01 = 3 then (
some (v 8 0)) else (
if x01 = 4 then (
some (v 8 1)) else (
if x01 = 5 then (
zbd (f_X1_goodStages v) fun o7 =>
some o7) else (
if x01 = 6 then (
zbd (f_X1_stuckStages v) fun o9 =>
some o9) else (
if x01 = 7 then (
zbd (f_X1_off v) fun o11 =>
some o11) else (
if x01 = 8 then (
some pz) else (
if x01 = 9 then (
some tn) else (
if x01 = 10 then (
zbd (f_X1_isQuiet v) fun o15 =>
if o15 = 0 then (
some 0) else (
some 1)) else (
if x01 = 11 then (
zbd (f_X5_unlikeTold (v 6) (v 7) (v 8 0)) fun o17 =>
some o17) else (
some (-1)))))))))))))
set_option maxHeartbeats 4000000 in
set_option maxRecDepth 100000 in
theorem c_X7_count (l : Launch) (G : va_G) (cy : Nat → ClassId) (st : Nat → Nat) (x : Nat) (ta : Nat → Nat) (pa : Nat → Nat) (la : Nat → Nat → Nat) (ca : Nat → Nat) (ra : Nat → Nat) (sa : Nat → Nat) (na : Nat → Nat) (da : Nat → Nat) (tl : Nat → Int32) (td : Nat → Int32) (tn : Int32) (tq : Int32) (pn : Int32) (pz : Int32) (pl : Nat → R2) (sn : Nat → Int64) (sb : Nat → Int32) (c0 : Int32) (c1 : Int32) (c2 : Int32) (c3 : Int32) (tv : R2) (sp : Nat → Int32) (sq : Nat → Int32) (sk : Int32) (v : R2) (u : R2) (x01 : Int32) (o : Int32) (hF : f_X7_count tn pz v x01 = some o) : zMi l yX7_count wsX7_count (zR 5) G cy st [.ref x, .int x01] ((wTo cy x (ta 0) (na 0) (da 0) (pa 0) (ca 0) (sa 0)) ++ ((wTx cy ta tl td tn tq) ++ ((wPo cy pa la pn pz) ++ ((wLs cy la pl) ++ ((wCo cy ca (ra 0) sn sb c0 c1 c2 c3) ++ ((wLn cy ra tv) ++ ((wSe cy sa sp sq sk) ++ ((wLn cy na v) ++ (wLn cy da u))))))))) ((wTo cy x (ta 0) (na 0) (da 0) (pa 0) (ca 0) (sa 0)) ++ ((wTx cy ta tl td tn tq) ++ ((wPo cy pa la pn pz) ++ ((wLs cy la pl) ++ ((wCo cy ca (ra 0) sn sb c0 c1 c2 c3) ++ ((wLn cy ra tv) ++ ((wSe cy sa sp sq sk) ++ ((wLn cy na v) ++ (wLn cy da u))))))))) o := by
  refine zM_of (cc := cX7_count) (maxL := 2) (ret := (some .int)) (Qc := fun A => zQi G cy A ((wTo cy x (ta 0) (na 0) (da 0) (pa 0) (ca 0) (sa 0)) ++ ((wTx cy ta tl td tn tq) ++ ((wPo cy pa la pn pz) ++ ((wLs cy la pl) ++ ((wCo cy ca (ra 0) sn sb c0 c1 c2 c3) ++ ((wLn cy ra tv) ++ ((wSe cy sa sp sq sk) ++ ((wLn cy na v) ++ (wLn cy da u))))))))) o) (by decide) rfl (Nat.le_of_ble_eq_true rfl) ?_
  intro p e s m below meth c A ls hx hb hml hr hlocks hown hts hK hSE hA hP hD hS hl
  have hown : s.vm.findClass RX7 = some m.cls := hown
  have hl : lv_has ls 2 [(0, .ref x), (1, .int x01)] := hl
  have k19 := hts (.fieldLink RX7 19 "TapCascade" "line" "LTapCascade$Line;") (by decide +kernel)
  have iX7 : ∀ w ∈ wsX70, w ∈ wsX7_count := fun w h => List.mem_cons_of_mem _ (List.mem_append_left _ (List.mem_append_left _ (List.mem_append_left _ (List.mem_append_left _ (List.mem_append_left _ (List.mem_append_right _ h))))))
  have k74 := hts (.fieldLink RX7 74 "TapCascade$Line" "size" "I") (by decide +kernel)
  have iX1 : ∀ w ∈ wsX10, w ∈ wsX7_count := fun w h => List.mem_cons_of_mem _ (List.mem_append_left _ (List.mem_append_left _ (List.mem_append_left _ (List.mem_append_left _ (List.mem_append_right _ h)))))
  have k80 := hts (.fieldLink RX7 80 "TapCascade$Line" "source" "I") (by decide +kernel)
  have k117 := hts (.fieldLink RX7 117 "TapCascade$Line" "ticks" "I") (by decide +kernel)
  have k120 := hts (.fieldLink RX7 120 "TapCascade$Line" "log" "LTapCascade$StepLog;") (by decide +kernel)
  have k124 := hts (.fieldLink RX7 124 "TapCascade$StepLog" "total" "I") (by decide +kernel)
  have iX5 : ∀ w ∈ wsX50, w ∈ wsX7_count := fun w h => List.mem_cons_of_mem _ (List.mem_append_left _ (List.mem_append_left _ (List.mem_append_left _ (List.mem_append_right _ h))))
  have k189 := hts (.fieldLink RX7 189 "TapCascade$StepLog" "back" "I") (by decide +kernel)
  have k29 := hts (.fieldLink RX7 29 "TapCascade" "past" "LTapCascade$Past;") (by decide +kernel)
  have k132 := hts (.fieldLink RX7 132 "TapCascade$Past" "size" "I") (by decide +kernel)
  have iX2 : ∀ w ∈ wsX20, w ∈ wsX7_count := fun w h => List.mem_cons_of_mem _ (List.mem_append_left _ (List.mem_append_left _ (List.mem_append_right _ h)))
  have k10 := hts (.fieldLink RX7 10 "TapCascade" "text" "LTapCascade$Text;") (by decide +kernel)
  have k71 := hts (.fieldLink RX7 71 "TapCascade$Text" "length" "I") (by decide +kernel)
  have iX6 : ∀ w ∈ wsX60, w ∈ wsX7_count := fun w h => List.mem_cons_of_mem _ (List.mem_append_left _ (List.mem_append_right _ h))
  unfold f_X7_count at hF
  refine lv_iload_n hx hb dX7_count_0 rfl (lv_at hl 1 rfl) ?_
  by_cases h1 : x01 = 0
  · have hF := (if_pos h1).symm.trans hF
    refine lv_tableIn (off := 63) (tgt := 64) hx hb dX7_count_1 (by rw [h1]; decide) (by rw [h1]; decide) (by rw [h1]; decide) (by decide) ?_
    refine lv_aload_n hx hb dX7_count_64 rfl (lv_at hl 0 rfl) ?_
    refine va_get (ci := 7) (C := RX7) (T := TX7) (N := 6) (fs := (zTo x (ta 0) (na 0) (da 0) (pa 0) (ca 0) (sa 0))) (v := .ref (na 0)) hx hb hts iX7 hown hK hP _ (zat_l (wTo_at0 cy x (ta 0) (na 0) (da 0) (pa 0) (ca 0) (sa 0))) rfl 1 (by decide) k19 (fun _ h9 => h9) rfl dX7_count_65 ?_
    refine va_get (ci := 1) (C := RX1) (T := TX1) (N := 6) (fs := (zLn na v)) (v := .int (v 9 0)) hx hb hts iX1 hown hK hP _ (zat_r (wTo_len cy x (ta 0) (na 0) (da 0) (pa 0) (ca 0) (sa 0)) (zat_r (wTx_len cy ta tl td tn tq) (zat_r (wPo_len cy pa la pn pz) (zat_r (wLs_len cy la pl) (zat_r (wCo_len cy ca (ra 0) sn sb c0 c1 c2 c3) (zat_r (wLn_len cy ra tv) (zat_r (wSe_len cy sa sp sq sk) (zat_l (wLn_at0 cy na v))))))))) rfl 3 (by decide) k74 (fun _ h9 => h9) rfl dX7_count_68 ?_
    refine z_iret (o := o) (o1 := (v 9 0)) (v := v 9 0) (wf := (fun o => ((wTo cy x (ta 0) (na 0) (da 0) (pa 0) (ca 0) (sa 0)) ++ ((wTx cy ta tl td tn tq) ++ ((wPo cy pa la pn pz) ++ ((wLs cy la pl) ++ ((wCo cy ca (ra 0) sn sb c0 c1 c2 c3) ++ ((wLn cy ra tv) ++ ((wSe cy sa sp sq sk) ++ ((wLn cy na v) ++ (wLn cy da u))))))))))) (rf := fun o => o) hx hb hr hlocks hK ?_ ?_ hS ?_ rfl dX7_count_71
    · exact hP
    · exact hD
    · exact hF
  have hF := (if_neg h1).symm.trans hF
  by_cases h2 : x01 = 1
  · have hF := (if_pos h2).symm.trans hF
    refine lv_tableIn (off := 71) (tgt := 72) hx hb dX7_count_1 (by rw [h2]; decide) (by rw [h2]; decide) (by rw [h2]; decide) (by decide) ?_
    refine lv_aload_n hx hb dX7_count_72 rfl (lv_at hl 0 rfl) ?_
    refine va_get (ci := 7) (C := RX7) (T := TX7) (N := 6) (fs := (zTo x (ta 0) (na 0) (da 0) (pa 0) (ca 0) (sa 0))) (v := .ref (na 0)) hx hb hts iX7 hown hK hP _ (zat_l (wTo_at0 cy x (ta 0) (na 0) (da 0) (pa 0) (ca 0) (sa 0))) rfl 1 (by decide) k19 (fun _ h9 => h9) rfl dX7_count_73 ?_
    refine va_get (ci := 1) (C := RX1) (T := TX1) (N := 6) (fs := (zLn na v)) (v := .int (v 9 1)) hx hb hts iX1 hown hK hP _ (zat_r (wTo_len cy x (ta 0) (na 0) (da 0) (pa 0) (ca 0) (sa 0)) (zat_r (wTx_len cy ta tl td tn tq) (zat_r (wPo_len cy pa la pn pz) (zat_r (wLs_len cy la pl) (zat_r (wCo_len cy ca (ra 0) sn sb c0 c1 c2 c3) (zat_r (wLn_len cy ra tv) (zat_r (wSe_len cy sa sp sq sk) (zat_l (wLn_at0 cy na v))))))))) rfl 4 (by decide) k80 (fun _ h9 => h9) rfl dX7_count_76 ?_
    refine z_iret (o := o) (o1 := (v 9 1)) (v := v 9 1) (wf := (fun o => ((wTo cy x (ta 0) (na 0) (da 0) (pa 0) (ca 0) (sa 0)) ++ ((wTx cy ta tl td tn tq) ++ ((wPo cy pa la pn pz) ++ ((wLs cy la pl) ++ ((wCo cy ca (ra 0) sn sb c0 c1 c2 c3) ++ ((wLn cy ra tv) ++ ((wSe cy sa sp sq sk) ++ ((wLn cy na v) ++ (wLn cy da u))))))))))) (rf := fun o => o) hx hb hr hlocks hK ?_ ?_ hS ?_ rfl dX7_count_79
    · exact hP
    · exact hD
    · exact hF
  have hF := (if_neg h2).symm.trans hF
  by_cases h3 : x01 = 2
  · have hF := (if_pos h3).symm.trans hF
    refine lv_tableIn (off := 79) (tgt := 80) hx hb dX7_count_1 (by rw [h3]; decide) (by rw [h3]; decide) (by rw [h3]; decide) (by decide) ?_
    refine lv_aload_n hx hb dX7_count_80 rfl (lv_at hl 0 rfl) ?_
    refine va_get (ci := 7) (C := RX7) (T := TX7) (N := 6) (fs := (zTo x (ta 0) (na 0) (da 0) (pa 0) (ca 0) (sa 0))) (v := .ref (na 0)) hx hb hts iX7 hown hK hP _ (zat_l (wTo_at0 cy x (ta 0) (na 0) (da 0) (pa 0) (ca 0) (sa 0))) rfl 1 (by decide) k19 (fun _ h9 => h9) rfl dX7_count_81 ?_
    refine va_get (ci := 1) (C := RX1) (T := TX1) (N := 6) (fs := (zLn na v)) (v := .int (v 9 2)) hx hb hts iX1 hown hK hP _ (zat_r (wTo_len cy x (ta 0) (na 0) (da 0) (pa 0) (ca 0) (sa 0)) (zat_r (wTx_len cy ta tl td tn tq) (zat_r (wPo_len cy pa la pn pz) (zat_r (wLs_len cy la pl) (zat_r (wCo_len cy ca (ra 0) sn sb c0 c1 c2 c3) (zat_r (wLn_len cy ra tv) (zat_r (wSe_len cy sa sp sq sk) (zat_l (wLn_at0 cy na v))))))))) rfl 5 (by decide) k117 (fun _ h9 => h9) rfl dX7_count_84 ?_
    refine z_iret (o := o) (o1 := (v 9 2)) (v := v 9 2) (wf := (fun o => ((wTo cy x (ta 0) (na 0) (da 0) (pa 0) (ca 0) (sa 0)) ++ ((wTx cy ta tl td tn tq) ++ ((wPo cy pa la pn pz) ++ ((wLs cy la pl) ++ ((wCo cy ca (ra 0) sn sb c0 c1 c2 c3) ++ ((wLn cy ra tv) ++ ((wSe cy sa sp sq sk) ++ ((wLn cy na v) ++ (wLn cy da u))))))))))) (rf := fun o => o) hx hb hr hlocks hK ?_ ?_ hS ?_ rfl dX7_count_87
    · exact hP
    · exact hD
    · exact hF
  have hF := (if_neg h3).symm.trans hF
  by_cases h4 : x01 = 3
  · have hF := (if_pos h4).symm.trans hF
    refine lv_tableIn (off := 87) (tgt := 88) hx hb dX7_count_1 (by rw [h4]; decide) (by rw [h4]; decide) (by rw [h4]; decide) (by decide) ?_
    refine lv_aload_n hx hb dX7_count_88 rfl (lv_at hl 0 rfl) ?_
    refine va_get (ci := 7) (C := RX7) (T := TX7) (N := 6) (fs := (zTo x (ta 0) (na 0) (da 0) (pa 0) (ca 0) (sa 0))) (v := .ref (na 0)) hx hb hts iX7 hown hK hP _ (zat_l (wTo_at0 cy x (ta 0) (na 0) (da 0) (pa 0) (ca 0) (sa 0))) rfl 1 (by decide) k19 (fun _ h9 => h9) rfl dX7_count_89 ?_
    refine va_get (ci := 1) (C := RX1) (T := TX1) (N := 6) (fs := (zLn na v)) (v := .ref (na 7)) hx hb hts iX1 hown hK hP _ (zat_r (wTo_len cy x (ta 0) (na 0) (da 0) (pa 0) (ca 0) (sa 0)) (zat_r (wTx_len cy ta tl td tn tq) (zat_r (wPo_len cy pa la pn pz) (zat_r (wLs_len cy la pl) (zat_r (wCo_len cy ca (ra 0) sn sb c0 c1 c2 c3) (zat_r (wLn_len cy ra tv) (zat_r (wSe_len cy sa sp sq sk) (zat_l (wLn_at0 cy na v))))))))) rfl 2 (by decide) k120 (fun _ h9 => h9) rfl dX7_count_92 ?_
    refine va_get (ci := 5) (C := RX5) (T := TX5) (N := 5) (fs := (zLnL na v)) (v := .int (v 8 0)) hx hb hts iX5 hown hK hP _ (zat_r (wTo_len cy x (ta 0) (na 0) (da 0) (pa 0) (ca 0) (sa 0)) (zat_r (wTx_len cy ta tl td tn tq) (zat_r (wPo_len cy pa la pn pz) (zat_r (wLs_len cy la pl) (zat_r (wCo_len cy ca (ra 0) sn sb c0 c1 c2 c3) (zat_r (wLn_len cy ra tv) (zat_r (wSe_len cy sa sp sq sk) (zat_l (wLn_at7 cy na v))))))))) rfl 3 (by decide) k124 (fun _ h9 => h9) rfl dX7_count_95 ?_
    refine z_iret (o := o) (o1 := (v 8 0)) (v := v 8 0) (wf := (fun o => ((wTo cy x (ta 0) (na 0) (da 0) (pa 0) (ca 0) (sa 0)) ++ ((wTx cy ta tl td tn tq) ++ ((wPo cy pa la pn pz) ++ ((wLs cy la pl) ++ ((wCo cy ca (ra 0) sn sb c0 c1 c2 c3) ++ ((wLn cy ra tv) ++ ((wSe cy sa sp sq sk) ++ ((wLn cy na v) ++ (wLn cy da u))))))))))) (rf := fun o => o) hx hb hr hlocks hK ?_ ?_ hS ?_ rfl dX7_count_98
    · exact hP
    · exact hD
    · exact hF
  have hF := (if_neg h4).symm.trans hF
  by_cases h5 : x01 = 4
  · have hF := (if_pos h5).symm.trans hF
    refine lv_tableIn (off := 98) (tgt := 99) hx hb dX7_count_1 (by rw [h5]; decide) (by rw [h5]; decide) (by rw [h5]; decide) (by decide) ?_
    refine lv_aload_n hx hb dX7_count_99 rfl (lv_at hl 0 rfl) ?_
    refine va_get (ci := 7) (C := RX7) (T := TX7) (N := 6) (fs := (zTo x (ta 0) (na 0) (da 0) (pa 0) (ca 0) (sa 0))) (v := .ref (na 0)) hx hb hts iX7 hown hK hP _ (zat_l (wTo_at0 cy x (ta 0) (na 0) (da 0) (pa 0) (ca 0) (sa 0))) rfl 1 (by decide) k19 (fun _ h9 => h9) rfl dX7_count_100 ?_
    refine va_get (ci := 1) (C := RX1) (T := TX1) (N := 6) (fs := (zLn na v)) (v := .ref (na 7)) hx hb hts iX1 hown hK hP _ (zat_r (wTo_len cy x (ta 0) (na 0) (da 0) (pa 0) (ca 0) (sa 0)) (zat_r (wTx_len cy ta tl td tn tq) (zat_r (wPo_len cy pa la pn pz) (zat_r (wLs_len cy la pl) (zat_r (wCo_len cy ca (ra 0) sn sb c0 c1 c2 c3) (zat_r (wLn_len cy ra tv) (zat_r (wSe_len cy sa sp sq sk) (zat_l (wLn_at0 cy na v))))))))) rfl 2 (by decide) k120 (fun _ h9 => h9) rfl dX7_count_103 ?_
    refine va_get (ci := 5) (C := RX5) (T := TX5) (N := 5) (fs := (zLnL na v)) (v := .int (v 8 1)) hx hb hts iX5 hown hK hP _ (zat_r (wTo_len cy x (ta 0) (na 0) (da 0) (pa 0) (ca 0) (sa 0)) (zat_r (wTx_len cy ta tl td tn tq) (zat_r (wPo_len cy pa la pn pz) (zat_r (wLs_len cy la pl) (zat_r (wCo_len cy ca (ra 0) sn sb c0 c1 c2 c3) (zat_r (wLn_len cy ra tv) (zat_r (wSe_len cy sa sp sq sk) (zat_l (wLn_at7 cy na v))))))))) rfl 4 (by decide) k189 (fun _ h9 => h9) rfl dX7_count_106 ?_
    refine z_iret (o := o) (o1 := (v 8 1)) (v := v 8 1) (wf := (fun o => ((wTo cy x (ta 0) (na 0) (da 0) (pa 0) (ca 0) (sa 0)) ++ ((wTx cy ta tl td tn tq) ++ ((wPo cy pa la pn pz) ++ ((wLs cy la pl) ++ ((wCo cy ca (ra 0) sn sb c0 c1 c2 c3) ++ ((wLn cy ra tv) ++ ((wSe cy sa sp sq sk) ++ ((wLn cy na v) ++ (wLn cy da u))))))))))) (rf := fun o => o) hx hb hr hlocks hK ?_ ?_ hS ?_ rfl dX7_count_109
    · exact hP
    · exact hD
    · exact hF
  have hF := (if_neg h5).symm.trans hF
  by_cases h6 : x01 = 5
  · have hF := (if_pos h6).symm.trans hF
    refine lv_tableIn (off := 109) (tgt := 110) hx hb dX7_count_1 (by rw [h6]; decide) (by rw [h6]; decide) (by rw [h6]; decide) (by decide) ?_
    refine lv_aload_n hx hb dX7_count_110 rfl (lv_at hl 0 rfl) ?_
    refine va_get (ci := 7) (C := RX7) (T := TX7) (N := 6) (fs := (zTo x (ta 0) (na 0) (da 0) (pa 0) (ca 0) (sa 0))) (v := .ref (na 0)) hx hb hts iX7 hown hK hP _ (zat_l (wTo_at0 cy x (ta 0) (na 0) (da 0) (pa 0) (ca 0) (sa 0))) rfl 1 (by decide) k19 (fun _ h9 => h9) rfl dX7_count_111 ?_
    refine z_cVi (b := na 0) (As := []) (rest := []) (wc := (wLn cy na v)) (wcf := fun o' => (wLn cy na v)) (wf := fun o' => ((wTo cy x (ta 0) (na 0) (da 0) (pa 0) (ca 0) (sa 0)) ++ ((wTx cy ta tl td tn tq) ++ ((wPo cy pa la pn pz) ++ ((wLs cy la pl) ++ ((wCo cy ca (ra 0) sn sb c0 c1 c2 c3) ++ ((wLn cy ra tv) ++ ((wSe cy sa sp sq sk) ++ ((wLn cy na v) ++ (wLn cy da u)))))))))) (rf := fun o' => o') hF (fun o' hz => c_X1_goodStages l G cy st na v o' hz) (fun o' => (zCut_r (zCut_r (zCut_r (zCut_r (zCut_r (zCut_r (zCut_r (zCut_l zCut_all))))))))) ⟨hx, hb, hml, hown, hts⟩ (cwV 0 hts gX7_count_X1_goodStages rfl rfl rfl (by decide +kernel) ⟨by decide, by decide⟩) (ci := 1) (q0 := 0) rfl (wLn_at0 cy na v) hK hSE hA hP hD hS rfl hl.1 rfl (Nat.le_of_ble_eq_true rfl) dX7_count_114 ⟨Nat.le_refl _, Nat.le_refl _⟩ (fun o7 hF H locs hP hD hS => ?_)
    refine z_iret (o := o) (o1 := o7) (v := o7) (wf := (fun o => ((wTo cy x (ta 0) (na 0) (da 0) (pa 0) (ca 0) (sa 0)) ++ ((wTx cy ta tl td tn tq) ++ ((wPo cy pa la pn pz) ++ ((wLs cy la pl) ++ ((wCo cy ca (ra 0) sn sb c0 c1 c2 c3) ++ ((wLn cy ra tv) ++ ((wSe cy sa sp sq sk) ++ ((wLn cy na v) ++ (wLn cy da u))))))))))) (rf := fun o => o) hx hb hr hlocks hK ?_ ?_ hS ?_ rfl dX7_count_117
    · exact hP
    · exact hD
    · exact hF
  have hF := (if_neg h6).symm.trans hF
  by_cases h8 : x01 = 6
  · have hF := (if_pos h8).symm.trans hF
    refine lv_tableIn (off := 117) (tgt := 118) hx hb dX7_count_1 (by rw [h8]; decide) (by rw [h8]; decide) (by rw [h8]; decide) (by decide) ?_
    refine lv_aload_n hx hb dX7_count_118 rfl (lv_at hl 0 rfl) ?_
    refine va_get (ci := 7) (C := RX7) (T := TX7) (N := 6) (fs := (zTo x (ta 0) (na 0) (da 0) (pa 0) (ca 0) (sa 0))) (v := .ref (na 0)) hx hb hts iX7 hown hK hP _ (zat_l (wTo_at0 cy x (ta 0) (na 0) (da 0) (pa 0) (ca 0) (sa 0))) rfl 1 (by decide) k19 (fun _ h9 => h9) rfl dX7_count_119 ?_
    refine z_cVi (b := na 0) (As := []) (rest := []) (wc := (wLn cy na v)) (wcf := fun o' => (wLn cy na v)) (wf := fun o' => ((wTo cy x (ta 0) (na 0) (da 0) (pa 0) (ca 0) (sa 0)) ++ ((wTx cy ta tl td tn tq) ++ ((wPo cy pa la pn pz) ++ ((wLs cy la pl) ++ ((wCo cy ca (ra 0) sn sb c0 c1 c2 c3) ++ ((wLn cy ra tv) ++ ((wSe cy sa sp sq sk) ++ ((wLn cy na v) ++ (wLn cy da u)))))))))) (rf := fun o' => o') hF (fun o' hz => c_X1_stuckStages l G cy st na v o' hz) (fun o' => (zCut_r (zCut_r (zCut_r (zCut_r (zCut_r (zCut_r (zCut_r (zCut_l zCut_all))))))))) ⟨hx, hb, hml, hown, hts⟩ (cwV 0 hts gX7_count_X1_stuckStages rfl rfl rfl (by decide +kernel) ⟨by decide, by decide⟩) (ci := 1) (q0 := 0) rfl (wLn_at0 cy na v) hK hSE hA hP hD hS rfl hl.1 rfl (Nat.le_of_ble_eq_true rfl) dX7_count_122 ⟨Nat.le_refl _, Nat.le_refl _⟩ (fun o9 hF H locs hP hD hS => ?_)
    refine z_iret (o := o) (o1 := o9) (v := o9) (wf := (fun o => ((wTo cy x (ta 0) (na 0) (da 0) (pa 0) (ca 0) (sa 0)) ++ ((wTx cy ta tl td tn tq) ++ ((wPo cy pa la pn pz) ++ ((wLs cy la pl) ++ ((wCo cy ca (ra 0) sn sb c0 c1 c2 c3) ++ ((wLn cy ra tv) ++ ((wSe cy sa sp sq sk) ++ ((wLn cy na v) ++ (wLn cy da u))))))))))) (rf := fun o => o) hx hb hr hlocks hK ?_ ?_ hS ?_ rfl dX7_count_125
    · exact hP
    · exact hD
    · exact hF
  have hF := (if_neg h8).symm.trans hF
  by_cases h10 : x01 = 7
  · have hF := (if_pos h10).symm.trans hF
    refine lv_tableIn (off := 125) (tgt := 126) hx hb dX7_count_1 (by rw [h10]; decide) (by rw [h10]; decide) (by rw [h10]; decide) (by decide) ?_
    refine lv_aload_n hx hb dX7_count_126 rfl (lv_at hl 0 rfl) ?_
    refine va_get (ci := 7) (C := RX7) (T := TX7) (N := 6) (fs := (zTo x (ta 0) (na 0) (da 0) (pa 0) (ca 0) (sa 0))) (v := .ref (na 0)) hx hb hts iX7 hown hK hP _ (zat_l (wTo_at0 cy x (ta 0) (na 0) (da 0) (pa 0) (ca 0) (sa 0))) rfl 1 (by decide) k19 (fun _ h9 => h9) rfl dX7_count_127 ?_
    refine z_cVi (b := na 0) (As := []) (rest := []) (wc := (wLn cy na v)) (wcf := fun o' => (wLn cy na v)) (wf := fun o' => ((wTo cy x (ta 0) (na 0) (da 0) (pa 0) (ca 0) (sa 0)) ++ ((wTx cy ta tl td tn tq) ++ ((wPo cy pa la pn pz) ++ ((wLs cy la pl) ++ ((wCo cy ca (ra 0) sn sb c0 c1 c2 c3) ++ ((wLn cy ra tv) ++ ((wSe cy sa sp sq sk) ++ ((wLn cy na v) ++ (wLn cy da u)))))))))) (rf := fun o' => o') hF (fun o' hz => c_X1_off l G cy st na v o' hz) (fun o' => (zCut_r (zCut_r (zCut_r (zCut_r (zCut_r (zCut_r (zCut_r (zCut_l zCut_all))))))))) ⟨hx, hb, hml, hown, hts⟩ (cwV 0 hts gX7_count_X1_off rfl rfl rfl (by decide +kernel) ⟨by decide, by decide⟩) (ci := 1) (q0 := 0) rfl (wLn_at0 cy na v) hK hSE hA hP hD hS rfl hl.1 rfl (Nat.le_of_ble_eq_true rfl) dX7_count_130 ⟨Nat.le_refl _, Nat.le_refl _⟩ (fun o11 hF H locs hP hD hS => ?_)
    refine z_iret (o := o) (o1 := o11) (v := o11) (wf := (fun o => ((wTo cy x (ta 0) (na 0) (da 0) (pa 0) (ca 0) (sa 0)) ++ ((wTx cy ta tl td tn tq) ++ ((wPo cy pa la pn pz) ++ ((wLs cy la pl) ++ ((wCo cy ca (ra 0) sn sb c0 c1 c2 c3) ++ ((wLn cy ra tv) ++ ((wSe cy sa sp sq sk) ++ ((wLn cy na v) ++ (wLn cy da u))))))))))) (rf := fun o => o) hx hb hr hlocks hK ?_ ?_ hS ?_ rfl dX7_count_133
    · exact hP
    · exact hD
    · exact hF
  have hF := (if_neg h10).symm.trans hF
  by_cases h12 : x01 = 8
  · have hF := (if_pos h12).symm.trans hF
    refine lv_tableIn (off := 133) (tgt := 134) hx hb dX7_count_1 (by rw [h12]; decide) (by rw [h12]; decide) (by rw [h12]; decide) (by decide) ?_
    refine lv_aload_n hx hb dX7_count_134 rfl (lv_at hl 0 rfl) ?_
    refine va_get (ci := 7) (C := RX7) (T := TX7) (N := 6) (fs := (zTo x (ta 0) (na 0) (da 0) (pa 0) (ca 0) (sa 0))) (v := .ref (pa 0)) hx hb hts iX7 hown hK hP _ (zat_l (wTo_at0 cy x (ta 0) (na 0) (da 0) (pa 0) (ca 0) (sa 0))) rfl 3 (by decide) k29 (fun _ h9 => h9) rfl dX7_count_135 ?_
    refine va_get (ci := 2) (C := RX2) (T := TX2) (N := 3) (fs := (zPo pa la pn pz)) (v := .int pz) hx hb hts iX2 hown hK hP _ (zat_r (wTo_len cy x (ta 0) (na 0) (da 0) (pa 0) (ca 0) (sa 0)) (zat_r (wTx_len cy ta tl td tn tq) (zat_l (wPo_at0 cy pa la pn pz)))) rfl 2 (by decide) k132 (fun _ h9 => h9) rfl dX7_count_138 ?_
    refine z_iret (o := o) (o1 := pz) (v := pz) (wf := (fun o => ((wTo cy x (ta 0) (na 0) (da 0) (pa 0) (ca 0) (sa 0)) ++ ((wTx cy ta tl td tn tq) ++ ((wPo cy pa la pn pz) ++ ((wLs cy la pl) ++ ((wCo cy ca (ra 0) sn sb c0 c1 c2 c3) ++ ((wLn cy ra tv) ++ ((wSe cy sa sp sq sk) ++ ((wLn cy na v) ++ (wLn cy da u))))))))))) (rf := fun o => o) hx hb hr hlocks hK ?_ ?_ hS ?_ rfl dX7_count_141
    · exact hP
    · exact hD
    · exact hF
  have hF := (if_neg h12).symm.trans hF
  by_cases h13 : x01 = 9
  · have hF := (if_pos h13).symm.trans hF
    refine lv_tableIn (off := 141) (tgt := 142) hx hb dX7_count_1 (by rw [h13]; decide) (by rw [h13]; decide) (by rw [h13]; decide) (by decide) ?_
    refine lv_aload_n hx hb dX7_count_142 rfl (lv_at hl 0 rfl) ?_
    refine va_get (ci := 7) (C := RX7) (T := TX7) (N := 6) (fs := (zTo x (ta 0) (na 0) (da 0) (pa 0) (ca 0) (sa 0))) (v := .ref (ta 0)) hx hb hts iX7 hown hK hP _ (zat_l (wTo_at0 cy x (ta 0) (na 0) (da 0) (pa 0) (ca 0) (sa 0))) rfl 0 (by decide) k10 (fun _ h9 => h9) rfl dX7_count_143 ?_
    refine va_get (ci := 6) (C := RX6) (T := TX6) (N := 4) (fs := (zTx ta tn tq)) (v := .int tn) hx hb hts iX6 hown hK hP _ (zat_r (wTo_len cy x (ta 0) (na 0) (da 0) (pa 0) (ca 0) (sa 0)) (zat_l (wTx_at0 cy ta tl td tn tq))) rfl 2 (by decide) k71 (fun _ h9 => h9) rfl dX7_count_146 ?_
    refine z_iret (o := o) (o1 := tn) (v := tn) (wf := (fun o => ((wTo cy x (ta 0) (na 0) (da 0) (pa 0) (ca 0) (sa 0)) ++ ((wTx cy ta tl td tn tq) ++ ((wPo cy pa la pn pz) ++ ((wLs cy la pl) ++ ((wCo cy ca (ra 0) sn sb c0 c1 c2 c3) ++ ((wLn cy ra tv) ++ ((wSe cy sa sp sq sk) ++ ((wLn cy na v) ++ (wLn cy da u))))))))))) (rf := fun o => o) hx hb hr hlocks hK ?_ ?_ hS ?_ rfl dX7_count_149
    · exact hP
    · exact hD
    · exact hF
  have hF := (if_neg h13).symm.trans hF
  by_cases h14 : x01 = 10
  · have hF := (if_pos h14).symm.trans hF
    refine lv_tableIn (off := 149) (tgt := 150) hx hb dX7_count_1 (by rw [h14]; decide) (by rw [h14]; decide) (by rw [h14]; decide) (by decide) ?_
    refine lv_aload_n hx hb dX7_count_150 rfl (lv_at hl 0 rfl) ?_
    refine va_get (ci := 7) (C := RX7) (T := TX7) (N := 6) (fs := (zTo x (ta 0) (na 0) (da 0) (pa 0) (ca 0) (sa 0))) (v := .ref (na 0)) hx hb hts iX7 hown hK hP _ (zat_l (wTo_at0 cy x (ta 0) (na 0) (da 0) (pa 0) (ca 0) (sa 0))) rfl 1 (by decide) k19 (fun _ h9 => h9) rfl dX7_count_151 ?_
    refine z_cVi (b := na 0) (As := []) (rest := []) (wc := (wLn cy na v)) (wcf := fun o' => (wLn cy na v)) (wf := fun o' => ((wTo cy x (ta 0) (na 0) (da 0) (pa 0) (ca 0) (sa 0)) ++ ((wTx cy ta tl td tn tq) ++ ((wPo cy pa la pn pz) ++ ((wLs cy la pl) ++ ((wCo cy ca (ra 0) sn sb c0 c1 c2 c3) ++ ((wLn cy ra tv) ++ ((wSe cy sa sp sq sk) ++ ((wLn cy na v) ++ (wLn cy da u)))))))))) (rf := fun o' => o') hF (fun o' hz => c_X1_isQuiet l G cy st na v o' hz) (fun o' => (zCut_r (zCut_r (zCut_r (zCut_r (zCut_r (zCut_r (zCut_r (zCut_l zCut_all))))))))) ⟨hx, hb, hml, hown, hts⟩ (cwV 0 hts gX7_count_X1_isQuiet rfl rfl rfl (by decide +kernel) ⟨by decide, by decide⟩) (ci := 1) (q0 := 0) rfl (wLn_at0 cy na v) hK hSE hA hP hD hS rfl hl.1 rfl (Nat.le_of_ble_eq_true rfl) dX7_count_154 ⟨Nat.le_refl _, Nat.le_refl _⟩ (fun o15 hF H locs hP hD hS => ?_)
    refine zf_eq (tgt := 164) hx hb hF dX7_count_157 (by decide) (fun hF => ?_) (fun hF => ?_)
    · refine lv_iconst (v := 0) hx hb dX7_count_164 (by decide) ?_
      refine z_iret (o := o) (o1 := 0) (v := 0) (wf := (fun o => ((wTo cy x (ta 0) (na 0) (da 0) (pa 0) (ca 0) (sa 0)) ++ ((wTx cy ta tl td tn tq) ++ ((wPo cy pa la pn pz) ++ ((wLs cy la pl) ++ ((wCo cy ca (ra 0) sn sb c0 c1 c2 c3) ++ ((wLn cy ra tv) ++ ((wSe cy sa sp sq sk) ++ ((wLn cy na v) ++ (wLn cy da u))))))))))) (rf := fun o => o) hx hb hr hlocks hK ?_ ?_ hS ?_ rfl dX7_count_165
      · exact hP
      · exact hD
      · exact hF
    · refine lv_iconst (v := 1) hx hb dX7_count_160 (by decide) ?_
      refine lv_goto (tgt := 165) hx hb dX7_count_161 (by decide) ?_
      refine z_iret (o := o) (o1 := 1) (v := 1) (wf := (fun o => ((wTo cy x (ta 0) (na 0) (da 0) (pa 0) (ca 0) (sa 0)) ++ ((wTx cy ta tl td tn tq) ++ ((wPo cy pa la pn pz) ++ ((wLs cy la pl) ++ ((wCo cy ca (ra 0) sn sb c0 c1 c2 c3) ++ ((wLn cy ra tv) ++ ((wSe cy sa sp sq sk) ++ ((wLn cy na v) ++ (wLn cy da u))))))))))) (rf := fun o => o) hx hb hr hlocks hK ?_ ?_ hS ?_ rfl dX7_count_165
      · exact hP
      · exact hD
      · exact hF
  have hF := (if_neg h14).symm.trans hF
  by_cases h16 : x01 = 11
  · have hF := (if_pos h16).symm.trans hF
    refine lv_tableIn (off := 165) (tgt := 166) hx hb dX7_count_1 (by rw [h16]; decide) (by rw [h16]; decide) (by rw [h16]; decide) (by decide) ?_
    refine lv_aload_n hx hb dX7_count_166 rfl (lv_at hl 0 rfl) ?_
    refine va_get (ci := 7) (C := RX7) (T := TX7) (N := 6) (fs := (zTo x (ta 0) (na 0) (da 0) (pa 0) (ca 0) (sa 0))) (v := .ref (na 0)) hx hb hts iX7 hown hK hP _ (zat_l (wTo_at0 cy x (ta 0) (na 0) (da 0) (pa 0) (ca 0) (sa 0))) rfl 1 (by decide) k19 (fun _ h9 => h9) rfl dX7_count_167 ?_
    refine va_get (ci := 1) (C := RX1) (T := TX1) (N := 6) (fs := (zLn na v)) (v := .ref (na 7)) hx hb hts iX1 hown hK hP _ (zat_r (wTo_len cy x (ta 0) (na 0) (da 0) (pa 0) (ca 0) (sa 0)) (zat_r (wTx_len cy ta tl td tn tq) (zat_r (wPo_len cy pa la pn pz) (zat_r (wLs_len cy la pl) (zat_r (wCo_len cy ca (ra 0) sn sb c0 c1 c2 c3) (zat_r (wLn_len cy ra tv) (zat_r (wSe_len cy sa sp sq sk) (zat_l (wLn_at0 cy na v))))))))) rfl 2 (by decide) k120 (fun _ h9 => h9) rfl dX7_count_170 ?_
    refine z_cVi (b := na 7) (As := []) (rest := []) (wc := (wLg cy (fun k => na (7 + k)) (v 5) (v 6) (v 7) (v 8 0) (v 8 1))) (wcf := fun o' => (wLg cy (fun k => na (7 + k)) (v 5) (v 6) (v 7) (v 8 0) (v 8 1))) (wf := fun o' => ((wTo cy x (ta 0) (na 0) (da 0) (pa 0) (ca 0) (sa 0)) ++ ((wTx cy ta tl td tn tq) ++ ((wPo cy pa la pn pz) ++ ((wLs cy la pl) ++ ((wCo cy ca (ra 0) sn sb c0 c1 c2 c3) ++ ((wLn cy ra tv) ++ ((wSe cy sa sp sq sk) ++ ((wLn cy na v) ++ (wLn cy da u)))))))))) (rf := fun o' => o') hF (fun o' hz => c_X5_unlikeTold l G cy st (fun k => na (7 + k)) (v 5) (v 6) (v 7) (v 8 0) (v 8 1) o' hz) (fun o' => (zCut_r (zCut_r (zCut_r (zCut_r (zCut_r (zCut_r (zCut_r (zCut_l (wLn_cutL0 cy na v)))))))))) ⟨hx, hb, hml, hown, hts⟩ (cwV 0 hts gX7_count_X5_unlikeTold rfl rfl rfl (by decide +kernel) ⟨by decide, by decide⟩) (ci := 5) (q0 := 0) rfl (wLg_at0 cy (fun k => na (7 + k)) (v 5) (v 6) (v 7) (v 8 0) (v 8 1)) hK hSE hA hP hD hS rfl hl.1 rfl (Nat.le_of_ble_eq_true rfl) dX7_count_173 ⟨Nat.le_refl _, Nat.le_refl _⟩ (fun o17 hF H locs hP hD hS => ?_)
    refine z_iret (o := o) (o1 := o17) (v := o17) (wf := (fun o => ((wTo cy x (ta 0) (na 0) (da 0) (pa 0) (ca 0) (sa 0)) ++ ((wTx cy ta tl td tn tq) ++ ((wPo cy pa la pn pz) ++ ((wLs cy la pl) ++ ((wCo cy ca (ra 0) sn sb c0 c1 c2 c3) ++ ((wLn cy ra tv) ++ ((wSe cy sa sp sq sk) ++ ((wLn cy na v) ++ (wLn cy da u))))))))))) (rf := fun o => o) hx hb hr hlocks hK ?_ ?_ hS ?_ rfl dX7_count_176
    · exact hP
    · exact hD
    · exact hF
  have hF := (if_neg h16).symm.trans hF
  refine lv_tableOut (x := x01) (tgt := 177) hx hb dX7_count_1 (by have q0 := lv_neT (a := 0) h1 (by decide); have q1 := lv_neT (a := 1) h2 (by decide); have q2 := lv_neT (a := 2) h3 (by decide); have q3 := lv_neT (a := 3) h4 (by decide); have q4 := lv_neT (a := 4) h5 (by decide); have q5 := lv_neT (a := 5) h6 (by decide); have q6 := lv_neT (a := 6) h8 (by decide); have q7 := lv_neT (a := 7) h10 (by decide); have q8 := lv_neT (a := 8) h12 (by decide); have q9 := lv_neT (a := 9) h13 (by decide); have q10 := lv_neT (a := 10) h14 (by decide); have q11 := lv_neT (a := 11) h16 (by decide); omega) (by decide) ?_
  refine lv_iconst (v := (-1)) hx hb dX7_count_177 (by decide) ?_
  refine z_iret (o := o) (o1 := (-1)) (v := (-1)) (wf := (fun o => ((wTo cy x (ta 0) (na 0) (da 0) (pa 0) (ca 0) (sa 0)) ++ ((wTx cy ta tl td tn tq) ++ ((wPo cy pa la pn pz) ++ ((wLs cy la pl) ++ ((wCo cy ca (ra 0) sn sb c0 c1 c2 c3) ++ ((wLn cy ra tv) ++ ((wSe cy sa sp sq sk) ++ ((wLn cy na v) ++ (wLn cy da u))))))))))) (rf := fun o => o) hx hb hr hlocks hK ?_ ?_ hS ?_ rfl dX7_count_178
  · exact hP
  · exact hD
  · exact hF
