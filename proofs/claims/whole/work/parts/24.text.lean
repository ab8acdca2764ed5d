/-! ===== 24.text: laid by a program out of the decode rows ===== -/
def f_X6_append (tl : Nat → Int32) (tn : Int32) (x01 : Int32) : Option (Int32 × (Nat → Int32) × Int32) :=
if tn < (200 : Int32) then (
zg (zin tn 200) (
zlet (upd tl (zn tn) x01) fun tl_1 =>
zlet (tn + 1) fun tn_2 =>
some (1, tl_1, tn_2))) else (
some (0, tl, tn))
set_option maxHeartbeats 4000000 in
set_option maxRecDepth 100000 in
theorem c_X6_append (l : Launch) (G : va_G) (cy : Nat → ClassId) (st : Nat → Nat) (a : Nat → Nat) (tl : Nat → Int32) (td : Nat → Int32) (tn : Int32) (tq : Int32) (x01 : Int32) (o : Int32 × (Nat → Int32) × Int32) (hF : f_X6_append tl tn x01 = some o) : zMi l yX6_append wsX6_append (zR 1) G cy st [.ref (a 0), .int x01] (wTx cy a tl td tn tq) (wTx cy a o.2.1 td o.2.2 tq) o.1 := by
  refine zM_of (cc := cX6_append) (maxL := 2) (ret := (some .boolean)) (Qc := fun A => zQi G cy A (wTx cy a o.2.1 td o.2.2 tq) o.1) (by decide) rfl (Nat.le_of_ble_eq_true rfl) ?_
  intro p e s m below meth c A ls hx hb hml hr hlocks hown hts hK hSE hA hP hD hS hl
  have hown : s.vm.findClass RX6 = some m.cls := hown
  have hl : lv_has ls 2 [(0, .ref (a 0)), (1, .int x01)] := hl
  have k21 := hts (.fieldLink RX6 21 "TapCascade$Text" "length" "I") (by decide +kernel)
  have iX6 : ∀ w ∈ wsX60, w ∈ wsX6_append := fun w h => List.mem_cons_of_mem _ (List.mem_append_right _ h)
  have k9 := hts (.fieldLink RX6 9 "TapCascade$Text" "letters" "[I") (by decide +kernel)
  unfold f_X6_append at hF
  refine lv_aload_n hx hb dX6_append_0 rfl (lv_at hl 0 rfl) ?_
  refine va_get (ci := 6) (C := RX6) (T := TX6) (N := 4) (fs := (zTx a tn tq)) (v := .int tn) hx hb hts iX6 hown hK hP _ (wTx_at0 cy a tl td tn tq) rfl 2 (by decide) k21 (fun _ h9 => h9) rfl dX6_append_1 ?_
  refine lv_sipush (v := 200) hx hb dX6_append_4 (by decide) ?_
  refine zi_lt (tgt := 12) hx hb hF dX6_append_7 (by decide) (fun hF => ?_) (fun hF => ?_)
  · refine lv_aload_n hx hb dX6_append_12 rfl (lv_at hl 0 rfl) ?_
    refine va_get (ci := 6) (C := RX6) (T := TX6) (N := 4) (fs := (zTx a tn tq)) (v := .ref (a 1)) hx hb hts iX6 hown hK hP _ (wTx_at0 cy a tl td tn tq) rfl 0 (by decide) k9 (fun _ h9 => h9) rfl dX6_append_13 ?_
    refine lv_aload_n hx hb dX6_append_16 rfl (lv_at hl 0 rfl) ?_
    refine va_get (ci := 6) (C := RX6) (T := TX6) (N := 4) (fs := (zTx a tn tq)) (v := .int tn) hx hb hts iX6 hown hK hP _ (wTx_at0 cy a tl td tn tq) rfl 2 (by decide) k21 (fun _ h9 => h9) rfl dX6_append_17 ?_
    refine lv_iload_n hx hb dX6_append_20 rfl (lv_at hl 1 rfl) ?_
    refine z_iast (n := 200) (f := tl) (i := tn) (x := x01) (wf := (fun y => (wTx cy a y td tn tq))) hx hb hK hP hD hS _ 1 (wTx_foc1 cy a tl td tn tq _) rfl hF dX6_append_21 (fun tl_1 hF H locs hP hD hS => ?_)
    refine lv_aload_n hx hb dX6_append_22 rfl (lv_at hl 0 rfl) ?_
    refine lv_dup hx hb dX6_append_23 rfl ?_
    refine va_get (ci := 6) (C := RX6) (T := TX6) (N := 4) (fs := (zTx a tn tq)) (v := .int tn) hx hb hts iX6 hown hK hP _ (wTx_at0 cy a tl_1 td tn tq) rfl 2 (by decide) k21 (fun _ h9 => h9) rfl dX6_append_24 ?_
    refine lv_iconst (v := 1) hx hb dX6_append_27 (by decide) ?_
    refine lv_iadd hx hb dX6_append_28 ?_
    refine z_puti (ci := 6) (C := RX6) (T := TX6) (N := 4) (fs := (zTx a tn tq)) (x := (tn + 1)) (wf := (fun y => (wTx cy a tl_1 td y tq))) hx hb hts iX6 tyX6 tyX6_ok nmX6 hown hK hP hD hS _ 2 (wTx_foc0_2 cy a tl_1 td tn tq (tn + 1)) rfl (by decide) k21 (fun _ h9 => h9) rfl (by decide +kernel) (Nat.le_of_ble_eq_true rfl) hF dX6_append_29 (fun tn_2 hF H locs hP hD hS => ?_)
    refine lv_iconst (v := 1) hx hb dX6_append_32 (by decide) ?_
    refine z_zret (o := o) (o1 := (1, tl_1, tn_2)) (v := 1) (wf := (fun o => (wTx cy a o.2.1 td o.2.2 tq))) (rf := fun o => o.1) hx hb hr hlocks hK ?_ ?_ hS ?_ rfl rfl dX6_append_33
    · exact hP
    · exact hD
    · exact hF
  · refine lv_iconst (v := 0) hx hb dX6_append_10 (by decide) ?_
    refine z_zret (o := o) (o1 := (0, tl, tn)) (v := 0) (wf := (fun o => (wTx cy a o.2.1 td o.2.2 tq))) (rf := fun o => o.1) hx hb hr hlocks hK ?_ ?_ hS ?_ rfl rfl dX6_append_11
    · exact hP
    · exact hD
    · exact hF
def f_X6_isFigure (tl : Nat → Int32) (tn : Int32) (tq : Int32) : Option (Int32) :=
if tn ≤ tq then (
some 0) else (
zg (zin tq 200) (
if (tl (zn tq)) < (48 : Int32) then (
some 0) else (
zg (zin tq 200) (
if (57 : Int32) < (tl (zn tq)) then (
some 0) else (
some 1)))))
set_option maxHeartbeats 4000000 in
set_option maxRecDepth 100000 in
theorem c_X6_isFigure (l : Launch) (G : va_G) (cy : Nat → ClassId) (st : Nat → Nat) (a : Nat → Nat) (tl : Nat → Int32) (td : Nat → Int32) (tn : Int32) (tq : Int32) (o : Int32) (hF : f_X6_isFigure tl tn tq = some o) : zMi l yX6_isFigure wsX6_isFigure (zR 1) G cy st [.ref (a 0)] (wTx cy a tl td tn tq) (wTx cy a tl td tn tq) o := by
  refine zM_of (cc := cX6_isFigure) (maxL := 1) (ret := (some .boolean)) (Qc := fun A => zQi G cy A (wTx cy a tl td tn tq) o) (by decide) rfl (Nat.le_of_ble_eq_true rfl) ?_
  intro p e s m below meth c A ls hx hb hml hr hlocks hown hts hK hSE hA hP hD hS hl
  have hown : s.vm.findClass RX6 = some m.cls := hown
  have hl : lv_has ls 1 [(0, .ref (a 0))] := hl
  have k30 := hts (.fieldLink RX6 30 "TapCascade$Text" "place" "I") (by decide +kernel)
  have iX6 : ∀ w ∈ wsX60, w ∈ wsX6_isFigure := fun w h => List.mem_cons_of_mem _ (List.mem_append_right _ h)
  have k21 := hts (.fieldLink RX6 21 "TapCascade$Text" "length" "I") (by decide +kernel)
  have k9 := hts (.fieldLink RX6 9 "TapCascade$Text" "letters" "[I") (by decide +kernel)
  unfold f_X6_isFigure at hF
  refine lv_aload_n hx hb dX6_isFigure_0 rfl (lv_at hl 0 rfl) ?_
  refine va_get (ci := 6) (C := RX6) (T := TX6) (N := 4) (fs := (zTx a tn tq)) (v := .int tq) hx hb hts iX6 hown hK hP _ (wTx_at0 cy a tl td tn tq) rfl 3 (by decide) k30 (fun _ h9 => h9) rfl dX6_isFigure_1 ?_
  refine lv_aload_n hx hb dX6_isFigure_4 rfl (lv_at hl 0 rfl) ?_
  refine va_get (ci := 6) (C := RX6) (T := TX6) (N := 4) (fs := (zTx a tn tq)) (v := .int tn) hx hb hts iX6 hown hK hP _ (wTx_at0 cy a tl td tn tq) rfl 2 (by decide) k21 (fun _ h9 => h9) rfl dX6_isFigure_5 ?_
  refine zi_ge (tgt := 43) hx hb hF dX6_isFigure_8 (by decide) (fun hF => ?_) (fun hF => ?_)
  · refine lv_iconst (v := 0) hx hb dX6_isFigure_43 (by decide) ?_
    refine z_zret (o := o) (o1 := 0) (v := 0) (wf := (fun o => (wTx cy a tl td tn tq))) (rf := fun o => o) hx hb hr hlocks hK ?_ ?_ hS ?_ rfl rfl dX6_isFigure_44
    · exact hP
    · exact hD
    · exact hF
  · refine lv_aload_n hx hb dX6_isFigure_11 rfl (lv_at hl 0 rfl) ?_
    refine va_get (ci := 6) (C := RX6) (T := TX6) (N := 4) (fs := (zTx a tn tq)) (v := .ref (a 1)) hx hb hts iX6 hown hK hP _ (wTx_at0 cy a tl td tn tq) rfl 0 (by decide) k9 (fun _ h9 => h9) rfl dX6_isFigure_12 ?_
    refine lv_aload_n hx hb dX6_isFigure_15 rfl (lv_at hl 0 rfl) ?_
    refine va_get (ci := 6) (C := RX6) (T := TX6) (N := 4) (fs := (zTx a tn tq)) (v := .int tq) hx hb hts iX6 hown hK hP _ (wTx_at0 cy a tl td tn tq) rfl 3 (by decide) k30 (fun _ h9 => h9) rfl dX6_isFigure_16 ?_
    refine z_iald (n := 200) (f := tl) hx hb hK hP _ 1 (wTx_at1 cy a tl td tn tq) rfl hF dX6_isFigure_19 (fun hF => ?_)
    refine lv_bipush (v := 48) hx hb dX6_isFigure_20 (by decide) ?_
    refine zi_lt (tgt := 43) hx hb hF dX6_isFigure_22 (by decide) (fun hF => ?_) (fun hF => ?_)
    · refine lv_iconst (v := 0) hx hb dX6_isFigure_43 (by decide) ?_
      refine z_zret (o := o) (o1 := 0) (v := 0) (wf := (fun o => (wTx cy a tl td tn tq))) (rf := fun o => o) hx hb hr hlocks hK ?_ ?_ hS ?_ rfl rfl dX6_isFigure_44
      · exact hP
      · exact hD
      · exact hF
    · refine lv_aload_n hx hb dX6_isFigure_25 rfl (lv_at hl 0 rfl) ?_
      refine va_get (ci := 6) (C := RX6) (T := TX6) (N := 4) (fs := (zTx a tn tq)) (v := .ref (a 1)) hx hb hts iX6 hown hK hP _ (wTx_at0 cy a tl td tn tq) rfl 0 (by decide) k9 (fun _ h9 => h9) rfl dX6_isFigure_26 ?_
      refine lv_aload_n hx hb dX6_isFigure_29 rfl (lv_at hl 0 rfl) ?_
      refine va_get (ci := 6) (C := RX6) (T := TX6) (N := 4) (fs := (zTx a tn tq)) (v := .int tq) hx hb hts iX6 hown hK hP _ (wTx_at0 cy a tl td tn tq) rfl 3 (by decide) k30 (fun _ h9 => h9) rfl dX6_isFigure_30 ?_
      refine z_iald (n := 200) (f := tl) hx hb hK hP _ 1 (wTx_at1 cy a tl td tn tq) rfl hF dX6_isFigure_33 (fun hF => ?_)
      refine lv_bipush (v := 57) hx hb dX6_isFigure_34 (by decide) ?_
      refine zi_gt (tgt := 43) hx hb hF dX6_isFigure_36 (by decide) (fun hF => ?_) (fun hF => ?_)
      · refine lv_iconst (v := 0) hx hb dX6_isFigure_43 (by decide) ?_
        refine z_zret (o := o) (o1 := 0) (v := 0) (wf := (fun o => (wTx cy a tl td tn tq))) (rf := fun o => o) hx hb hr hlocks hK ?_ ?_ hS ?_ rfl rfl dX6_isFigure_44
        · exact hP
        · exact hD
        · exact hF
      · refine lv_iconst (v := 1) hx hb dX6_isFigure_39 (by decide) ?_
        refine lv_goto (tgt := 44) hx hb dX6_isFigure_40 (by decide) ?_
        refine z_zret (o := o) (o1 := 1) (v := 1) (wf := (fun o => (wTx cy a tl td tn tq))) (rf := fun o => o) hx hb hr hlocks hK ?_ ?_ hS ?_ rfl rfl dX6_isFigure_44
        · exact hP
        · exact hD
        · exact hF
def f_X6_take (tl : Nat → Int32) (tn : Int32) (tq : Int32) (x01 : Int32) : Option (Int32 × Int32) :=
if tn ≤ tq then (
some (0, tq)) else (
zg (zin tq 200) (
if (tl (zn tq)) = x01 then (
zlet (tq + 1) fun tq_1 =>
some (1, tq_1)) else (
some (0, tq))))
set_option maxHeartbeats 4000000 in
set_option maxRecDepth 100000 in
theorem c_X6_take (l : Launch) (G : va_G) (cy : Nat → ClassId) (st : Nat → Nat) (a : Nat → Nat) (tl : Nat → Int32) (td : Nat → Int32) (tn : Int32) (tq : Int32) (x01 : Int32) (o : Int32 × Int32) (hF : f_X6_take tl tn tq x01 = some o) : zMi l yX6_take wsX6_take (zR 1) G cy st [.ref (a 0), .int x01] (wTx cy a tl td tn tq) (wTx cy a tl td tn o.2) o.1 := by
  refine zM_of (cc := cX6_take) (maxL := 2) (ret := (some .boolean)) (Qc := fun A => zQi G cy A (wTx cy a tl td tn o.2) o.1) (by decide) rfl (Nat.le_of_ble_eq_true rfl) ?_
  intro p e s m below meth c A ls hx hb hml hr hlocks hown hts hK hSE hA hP hD hS hl
  have hown : s.vm.findClass RX6 = some m.cls := hown
  have hl : lv_has ls 2 [(0, .ref (a 0)), (1, .int x01)] := hl
  have k30 := hts (.fieldLink RX6 30 "TapCascade$Text" "place" "I") (by decide +kernel)
  have iX6 : ∀ w ∈ wsX60, w ∈ wsX6_take := fun w h => List.mem_cons_of_mem _ (List.mem_append_right _ h)
  have k21 := hts (.fieldLink RX6 21 "TapCascade$Text" "length" "I") (by decide +kernel)
  have k9 := hts (.fieldLink RX6 9 "TapCascade$Text" "letters" "[I") (by decide +kernel)
  unfold f_X6_take at hF
  refine lv_aload_n hx hb dX6_take_0 rfl (lv_at hl 0 rfl) ?_
  refine va_get (ci := 6) (C := RX6) (T := TX6) (N := 4) (fs := (zTx a tn tq)) (v := .int tq) hx hb hts iX6 hown hK hP _ (wTx_at0 cy a tl td tn tq) rfl 3 (by decide) k30 (fun _ h9 => h9) rfl dX6_take_1 ?_
  refine lv_aload_n hx hb dX6_take_4 rfl (lv_at hl 0 rfl) ?_
  refine va_get (ci := 6) (C := RX6) (T := TX6) (N := 4) (fs := (zTx a tn tq)) (v := .int tn) hx hb hts iX6 hown hK hP _ (wTx_at0 cy a tl td tn tq) rfl 2 (by decide) k21 (fun _ h9 => h9) rfl dX6_take_5 ?_
  refine zi_ge (tgt := 24) hx hb hF dX6_take_8 (by decide) (fun hF => ?_) (fun hF => ?_)
  · refine lv_iconst (v := 0) hx hb dX6_take_24 (by decide) ?_
    refine z_zret (o := o) (o1 := (0, tq)) (v := 0) (wf := (fun o => (wTx cy a tl td tn o.2))) (rf := fun o => o.1) hx hb hr hlocks hK ?_ ?_ hS ?_ rfl rfl dX6_take_25
    · exact hP
    · exact hD
    · exact hF
  · refine lv_aload_n hx hb dX6_take_11 rfl (lv_at hl 0 rfl) ?_
    refine va_get (ci := 6) (C := RX6) (T := TX6) (N := 4) (fs := (zTx a tn tq)) (v := .ref (a 1)) hx hb hts iX6 hown hK hP _ (wTx_at0 cy a tl td tn tq) rfl 0 (by decide) k9 (fun _ h9 => h9) rfl dX6_take_12 ?_
    refine lv_aload_n hx hb dX6_take_15 rfl (lv_at hl 0 rfl) ?_
    refine va_get (ci := 6) (C := RX6) (T := TX6) (N := 4) (fs := (zTx a tn tq)) (v := .int tq) hx hb hts iX6 hown hK hP _ (wTx_at0 cy a tl td tn tq) rfl 3 (by decide) k30 (fun _ h9 => h9) rfl dX6_take_16 ?_
    refine z_iald (n := 200) (f := tl) hx hb hK hP _ 1 (wTx_at1 cy a tl td tn tq) rfl hF dX6_take_19 (fun hF => ?_)
    refine lv_iload_n hx hb dX6_take_20 rfl (lv_at hl 1 rfl) ?_
    refine zi_eq (tgt := 26) hx hb hF dX6_take_21 (by decide) (fun hF => ?_) (fun hF => ?_)
    · refine lv_aload_n hx hb dX6_take_26 rfl (lv_at hl 0 rfl) ?_
      refine lv_dup hx hb dX6_take_27 rfl ?_
      refine va_get (ci := 6) (C := RX6) (T := TX6) (N := 4) (fs := (zTx a tn tq)) (v := .int tq) hx hb hts iX6 hown hK hP _ (wTx_at0 cy a tl td tn tq) rfl 3 (by decide) k30 (fun _ h9 => h9) rfl dX6_take_28 ?_
      refine lv_iconst (v := 1) hx hb dX6_take_31 (by decide) ?_
      refine lv_iadd hx hb dX6_take_32 ?_
      refine z_puti (ci := 6) (C := RX6) (T := TX6) (N := 4) (fs := (zTx a tn tq)) (x := (tq + 1)) (wf := (fun y => (wTx cy a tl td tn y))) hx hb hts iX6 tyX6 tyX6_ok nmX6 hown hK hP hD hS _ 3 (wTx_foc0_3 cy a tl td tn tq (tq + 1)) rfl (by decide) k30 (fun _ h9 => h9) rfl (by decide +kernel) (Nat.le_of_ble_eq_true rfl) hF dX6_take_33 (fun tq_1 hF H locs hP hD hS => ?_)
      refine lv_iconst (v := 1) hx hb dX6_take_36 (by decide) ?_
      refine z_zret (o := o) (o1 := (1, tq_1)) (v := 1) (wf := (fun o => (wTx cy a tl td tn o.2))) (rf := fun o => o.1) hx hb hr hlocks hK ?_ ?_ hS ?_ rfl rfl dX6_take_37
      · exact hP
      · exact hD
      · exact hF
    · refine lv_iconst (v := 0) hx hb dX6_take_24 (by decide) ?_
      refine z_zret (o := o) (o1 := (0, tq)) (v := 0) (wf := (fun o => (wTx cy a tl td tn o.2))) (rf := fun o => o.1) hx hb hr hlocks hK ?_ ?_ hS ?_ rfl rfl dX6_take_25
      · exact hP
      · exact hD
      · exact hF
def j_X6_readNumber_118 (tq_5 : Int32) : Option (Int32 × Int32) :=
some (10000, tq_5)
def j_X6_readNumber_104 (x01 : Int32) (x02 : Int32) (tq_5 : Int32) (t6 : Int32) : Option (Int32 × Int32) :=
if t6 < x01 then (
j_X6_readNumber_118 tq_5) else (
if t6 ≤ x02 then (
some (t6, tq_5)) else (
j_X6_readNumber_118 tq_5))
def j_X6_readNumber_92 (x01 : Int32) (x02 : Int32) (t2 : Int32) (y4 : Int32) (tq_5 : Int32) : Option (Int32 × Int32) :=
if t2 = 0 then (
j_X6_readNumber_104 x01 x02 tq_5 y4) else (
j_X6_readNumber_104 x01 x02 tq_5 (-y4))
def j_X6_readNumber_74 (x01 : Int32) (x02 : Int32) (t2 : Int32) (y3 : Int32) (y4 : Int32) (tq_5 : Int32) : Option (Int32 × Int32) :=
if y3 = 0 then (
some (10000, tq_5)) else (
if t2 = 0 then (
j_X6_readNumber_92 x01 x02 t2 y4 tq_5) else (
if y4 = 0 then (
some (10000, tq_5)) else (
j_X6_readNumber_92 x01 x02 t2 y4 tq_5)))
def b_X6_readNumber_25 (tl : Nat → Int32) (tn : Int32) (x01 : Int32) (x02 : Int32) (t2 : Int32) (rc25 : (Int32 × Int32 × Int32) → Option (Int32 × Int32)) (s25 : Int32 × Int32 × Int32) : Option (Int32 × Int32) :=
if (4 : Int32) ≤ s25.1 then (
j_X6_readNumber_74 x01 x02 t2 s25.1 s25.2.1 s25.2.2) else (
zbd (f_X6_isFigure tl tn s25.2.2) fun o7 =>
if o7 = 0 then (
j_X6_readNumber_74 x01 x02 t2 s25.1 s25.2.1 s25.2.2) else (
zg (zin s25.2.2 200) (
zlet (((s25.2.1 * 10) + (tl (zn s25.2.2))) - 48) fun x8 =>
zlet (s25.2.2 + 1) fun tq_9 =>
zlet (s25.1 + 1) fun x10 =>
rc25 (x10, x8, tq_9))))
def j_X6_readNumber_18 (tl : Nat → Int32) (tn : Int32) (x01 : Int32) (x02 : Int32) (tq_1 : Int32) (t2 : Int32) : Option (Int32 × Int32) :=
zloop (b_X6_readNumber_25 tl tn x01 x02 t2) 1000 (0, 0, tq_1)
def j_X6_readNumber_17 (tl : Nat → Int32) (tn : Int32) (x01 : Int32) (x02 : Int32) (tq_11 : Int32) : Option (Int32 × Int32) :=
j_X6_readNumber_18 tl tn x01 x02 tq_11 0
def f_X6_readNumber (tl : Nat → Int32) (tn : Int32) (tq : Int32) (x01 : Int32) (x02 : Int32) : Option (Int32 × Int32) :=
if 0 ≤ x01 then (
j_X6_readNumber_17 tl tn x01 x02 tq) else (
zbd (f_X6_take tl tn tq 45) fun o12 =>
if o12.1 = 0 then (
j_X6_readNumber_17 tl tn x01 x02 o12.2) else (
j_X6_readNumber_18 tl tn x01 x02 o12.2 1))
set_option maxHeartbeats 4000000 in
set_option maxRecDepth 100000 in
theorem c_X6_readNumber (l : Launch) (G : va_G) (cy : Nat → ClassId) (st : Nat → Nat) (a : Nat → Nat) (tl : Nat → Int32) (td : Nat → Int32) (tn : Int32) (tq : Int32) (x01 : Int32) (x02 : Int32) (o : Int32 × Int32) (hF : f_X6_readNumber tl tn tq x01 x02 = some o) : zMi l yX6_readNumber wsX6_readNumber (zR 2) G cy st [.ref (a 0), .int x01, .int x02] (wTx cy a tl td tn tq) (wTx cy a tl td tn o.2) o.1 := by
  refine zM_of (cc := cX6_readNumber) (maxL := 7) (ret := (some .int)) (Qc := fun A => zQi G cy A (wTx cy a tl td tn o.2) o.1) (by decide) rfl (Nat.le_of_ble_eq_true rfl) ?_
  intro p e s m below meth c A ls hx hb hml hr hlocks hown hts hK hSE hA hP hD hS hl
  have hown : s.vm.findClass RX6 = some m.cls := hown
  have hl : lv_has ls 7 [(0, .ref (a 0)), (1, .int x01), (2, .int x02)] := hl
  have k9 := hts (.fieldLink RX6 9 "TapCascade$Text" "letters" "[I") (by decide +kernel)
  have iX6 : ∀ w ∈ wsX60, w ∈ wsX6_readNumber := fun w h => List.mem_cons_of_mem _ (List.mem_append_right _ h)
  have k30 := hts (.fieldLink RX6 30 "TapCascade$Text" "place" "I") (by decide +kernel)
  unfold f_X6_readNumber at hF
  refine lv_iload_n hx hb dX6_readNumber_0 rfl (lv_at hl 1 rfl) ?_
  have J18 : ∀ (tq_1 : Int32) (t2 : Int32) (H : Heap) (locs : List Loc) (ls : Array Slot), va_P G vwCl (wTx cy a tl td tn tq_1) H → va_D A (wTx cy a tl td tn tq_1) → va_S A s.heap H locs → lv_has ls 7 [(0, .ref (a 0)), (1, .int x01), (2, .int x02)] → j_X6_readNumber_18 tl tn x01 x02 tq_1 t2 = some o → W p l e (zR 2) s m ([.ref (a 0), .int x01, .int x02] : List Value).toArray below meth c H locs 0 0 (MQ below (zQi G cy A (wTx cy a tl td tn o.2) o.1) ([.ref (a 0), .int x01, .int x02] : List Value).toArray s 0 0 A) (F0 m 18 ls [.int t2]) := by
    intro tq_1 t2 H locs ls hP hD hS hl hF
    unfold j_X6_readNumber_18 at hF
    refine lv_istore_n (lv' := [(3, .int t2), (0, .ref (a 0)), (1, .int x01), (2, .int x02)]) hx hb dX6_readNumber_18 rfl hl (by decide) rfl (fun ls hl => ?_)
    refine lv_iconst (v := 0) hx hb dX6_readNumber_19 (by decide) ?_
    refine lv_istore (lv' := [(4, .int 0), (3, .int t2), (0, .ref (a 0)), (1, .int x01), (2, .int x02)]) hx hb dX6_readNumber_20 hl (by decide) rfl (fun ls hl => ?_)
    refine lv_iconst (v := 0) hx hb dX6_readNumber_22 (by decide) ?_
    refine lv_istore (lv' := [(5, .int 0), (4, .int 0), (3, .int t2), (0, .ref (a 0)), (1, .int x01), (2, .int x02)]) hx hb dX6_readNumber_23 hl (by decide) rfl (fun ls hl => ?_)
    have J74 : ∀ (y3 : Int32) (y4 : Int32) (tq_5 : Int32) (H : Heap) (locs : List Loc) (ls : Array Slot), va_P G vwCl (wTx cy a tl td tn tq_5) H → va_D A (wTx cy a tl td tn tq_5) → va_S A s.heap H locs → lv_has ls 7 [(1, .int x01), (2, .int x02), (3, .int t2), (4, .int y3), (5, .int y4)] → j_X6_readNumber_74 x01 x02 t2 y3 y4 tq_5 = some o → W p l e (zR 2) s m ([.ref (a 0), .int x01, .int x02] : List Value).toArray below meth c H locs 0 0 (MQ below (zQi G cy A (wTx cy a tl td tn o.2) o.1) ([.ref (a 0), .int x01, .int x02] : List Value).toArray s 0 0 A) (F0 m 74 ls []) := by
      intro y3 y4 tq_5 H locs ls hP hD hS hl hF
      unfold j_X6_readNumber_74 at hF
      refine lv_iload hx hb dX6_readNumber_74 (lv_at hl 3 rfl) ?_
      refine zf_eq (tgt := 88) hx hb hF dX6_readNumber_76 (by decide) (fun hF => ?_) (fun hF => ?_)
      · refine lv_sipush (v := 10000) hx hb dX6_readNumber_88 (by decide) ?_
        refine z_iret (o := o) (o1 := (10000, tq_5)) (v := 10000) (wf := (fun o => (wTx cy a tl td tn o.2))) (rf := fun o => o.1) hx hb hr hlocks hK ?_ ?_ hS ?_ rfl dX6_readNumber_91
        · exact hP
        · exact hD
        · exact hF
      · refine lv_iload_n hx hb dX6_readNumber_79 rfl (lv_at hl 2 rfl) ?_
        have J92 : ∀ (H : Heap) (locs : List Loc) (ls : Array Slot), va_P G vwCl (wTx cy a tl td tn tq_5) H → va_D A (wTx cy a tl td tn tq_5) → va_S A s.heap H locs → lv_has ls 7 [(1, .int x01), (2, .int x02), (3, .int t2), (5, .int y4)] → j_X6_readNumber_92 x01 x02 t2 y4 tq_5 = some o → W p l e (zR 2) s m ([.ref (a 0), .int x01, .int x02] : List Value).toArray below meth c H locs 0 0 (MQ below (zQi G cy A (wTx cy a tl td tn o.2) o.1) ([.ref (a 0), .int x01, .int x02] : List Value).toArray s 0 0 A) (F0 m 92 ls []) := by
          intro H locs ls hP hD hS hl hF
          unfold j_X6_readNumber_92 at hF
          refine lv_iload_n hx hb dX6_readNumber_92 rfl (lv_at hl 2 rfl) ?_
          have J104 : ∀ (t6 : Int32) (H : Heap) (locs : List Loc) (ls : Array Slot), va_P G vwCl (wTx cy a tl td tn tq_5) H → va_D A (wTx cy a tl td tn tq_5) → va_S A s.heap H locs → lv_has ls 7 [(1, .int x01), (2, .int x02)] → j_X6_readNumber_104 x01 x02 tq_5 t6 = some o → W p l e (zR 2) s m ([.ref (a 0), .int x01, .int x02] : List Value).toArray below meth c H locs 0 0 (MQ below (zQi G cy A (wTx cy a tl td tn o.2) o.1) ([.ref (a 0), .int x01, .int x02] : List Value).toArray s 0 0 A) (F0 m 104 ls [.int t6]) := by
            intro t6 H locs ls hP hD hS hl hF
            unfold j_X6_readNumber_104 at hF
            refine lv_istore (lv' := [(6, .int t6), (1, .int x01), (2, .int x02)]) hx hb dX6_readNumber_104 hl (by decide) rfl (fun ls hl => ?_)
            refine lv_iload hx hb dX6_readNumber_106 (lv_at hl 0 rfl) ?_
            refine lv_iload_n hx hb dX6_readNumber_108 rfl (lv_at hl 1 rfl) ?_
            have J118 : ∀ (H : Heap) (locs : List Loc) (ls : Array Slot), va_P G vwCl (wTx cy a tl td tn tq_5) H → va_D A (wTx cy a tl td tn tq_5) → va_S A s.heap H locs → lv_has ls 7 [] → j_X6_readNumber_118 tq_5 = some o → W p l e (zR 2) s m ([.ref (a 0), .int x01, .int x02] : List Value).toArray below meth c H locs 0 0 (MQ below (zQi G cy A (wTx cy a tl td tn o.2) o.1) ([.ref (a 0), .int x01, .int x02] : List Value).toArray s 0 0 A) (F0 m 118 ls []) := by
              intro H locs ls hP hD hS hl hF
              unfold j_X6_readNumber_118 at hF
              refine lv_sipush (v := 10000) hx hb dX6_readNumber_118 (by decide) ?_
              refine lv_goto (tgt := 126) hx hb dX6_readNumber_121 (by decide) ?_
              refine z_iret (o := o) (o1 := (10000, tq_5)) (v := 10000) (wf := (fun o => (wTx cy a tl td tn o.2))) (rf := fun o => o.1) hx hb hr hlocks hK ?_ ?_ hS ?_ rfl dX6_readNumber_126
              · exact hP
              · exact hD
              · exact hF
            refine zi_lt (tgt := 118) hx hb hF dX6_readNumber_109 (by decide) (fun hF => ?_) (fun hF => ?_)
            · exact J118 _ _ ls hP hD hS (lv_sub hl [] rfl) hF
            · refine lv_iload hx hb dX6_readNumber_112 (lv_at hl 0 rfl) ?_
              refine lv_iload_n hx hb dX6_readNumber_114 rfl (lv_at hl 2 rfl) ?_
              refine zi_le (tgt := 124) hx hb hF dX6_readNumber_115 (by decide) (fun hF => ?_) (fun hF => ?_)
              · refine lv_iload hx hb dX6_readNumber_124 (lv_at hl 0 rfl) ?_
                refine z_iret (o := o) (o1 := (t6, tq_5)) (v := t6) (wf := (fun o => (wTx cy a tl td tn o.2))) (rf := fun o => o.1) hx hb hr hlocks hK ?_ ?_ hS ?_ rfl dX6_readNumber_126
                · exact hP
                · exact hD
                · exact hF
              · exact J118 _ _ ls hP hD hS (lv_sub hl [] rfl) hF
          refine zf_eq (tgt := 102) hx hb hF dX6_readNumber_93 (by decide) (fun hF => ?_) (fun hF => ?_)
          · refine lv_iload hx hb dX6_readNumber_102 (lv_at hl 3 rfl) ?_
            exact J104 y4 _ _ ls hP hD hS (lv_sub hl [0, 1] rfl) hF
          · refine lv_iload hx hb dX6_readNumber_96 (lv_at hl 3 rfl) ?_
            refine lv_ineg hx hb dX6_readNumber_98 ?_
            refine lv_goto (tgt := 104) hx hb dX6_readNumber_99 (by decide) ?_
            exact J104 (-y4) _ _ ls hP hD hS (lv_sub hl [0, 1] rfl) hF
        refine zf_eq (tgt := 92) hx hb hF dX6_readNumber_80 (by decide) (fun hF => ?_) (fun hF => ?_)
        · exact J92 _ _ ls hP hD hS (lv_sub hl [0, 1, 2, 4] rfl) hF
        · refine lv_iload hx hb dX6_readNumber_83 (lv_at hl 4 rfl) ?_
          refine zf_ne (tgt := 92) hx hb hF dX6_readNumber_85 (by decide) (fun hF => ?_) (fun hF => ?_)
          · exact J92 _ _ ls hP hD hS (lv_sub hl [0, 1, 2, 4] rfl) hF
          · refine lv_sipush (v := 10000) hx hb dX6_readNumber_88 (by decide) ?_
            refine z_iret (o := o) (o1 := (10000, tq_5)) (v := 10000) (wf := (fun o => (wTx cy a tl td tn o.2))) (rf := fun o => o.1) hx hb hr hlocks hK ?_ ?_ hS ?_ rfl dX6_readNumber_91
            · exact hP
            · exact hD
            · exact hF
    have L25 : ∀ (n : Nat) (s25 : Int32 × Int32 × Int32) (H : Heap) (locs : List Loc) (ls : Array Slot), va_P G vwCl (wTx cy a tl td tn s25.2.2) H → va_D A (wTx cy a tl td tn s25.2.2) → va_S A s.heap H locs → lv_has ls 7 [(0, .ref (a 0)), (1, .int x01), (2, .int x02), (3, .int t2), (4, .int s25.1), (5, .int s25.2.1)] → zloop (b_X6_readNumber_25 tl tn x01 x02 t2) n s25 = some o → W p l e (zR 2) s m ([.ref (a 0), .int x01, .int x02] : List Value).toArray below meth c H locs 0 0 (MQ below (zQi G cy A (wTx cy a tl td tn o.2) o.1) ([.ref (a 0), .int x01, .int x02] : List Value).toArray s 0 0 A) (F0 m 25 ls []) := by
      intro n
      induction n with
      | zero => exact fun s25 H locs ls _ _ _ _ hF => (zloop_0 hF).elim
      | succ n ih25 =>
        intro s25 H locs ls hP hD hS hl hF
        have hF : b_X6_readNumber_25 tl tn x01 x02 t2 (zloop (b_X6_readNumber_25 tl tn x01 x02 t2) n) s25 = some o := hF
        generalize zloop (b_X6_readNumber_25 tl tn x01 x02 t2) n = rc25 at ih25 hF
        unfold b_X6_readNumber_25 at hF
        refine lv_iload hx hb dX6_readNumber_25 (lv_at hl 4 rfl) ?_
        refine lv_iconst (v := 4) hx hb dX6_readNumber_27 (by decide) ?_
        refine zi_ge (tgt := 74) hx hb hF dX6_readNumber_28 (by decide) (fun hF => ?_) (fun hF => ?_)
        · exact J74 s25.1 s25.2.1 s25.2.2 _ _ ls hP hD hS (lv_sub hl [1, 2, 3, 4, 5] rfl) hF
        · refine lv_aload_n hx hb dX6_readNumber_31 rfl (lv_at hl 0 rfl) ?_
          refine z_cVi (b := a 0) (As := []) (rest := []) (wc := (wTx cy a tl td tn s25.2.2)) (wcf := fun o' => (wTx cy a tl td tn s25.2.2)) (wf := fun o' => (wTx cy a tl td tn s25.2.2)) (rf := fun o' => o') hF (fun o' hz => c_X6_isFigure l G cy st a tl td tn s25.2.2 o' hz) (fun o' => zCut_all) ⟨hx, hb, hml, hown, hts⟩ (cwV 0 hts gX6_readNumber_X6_isFigure rfl rfl rfl (by decide +kernel) ⟨by decide, by decide⟩) (ci := 6) (q0 := 0) rfl (wTx_at0 cy a tl td tn s25.2.2) hK hSE hA hP hD hS rfl hl.1 rfl (Nat.le_of_ble_eq_true rfl) dX6_readNumber_32 ⟨Nat.le_refl _, Nat.le_refl _⟩ (fun o7 hF H locs hP hD hS => ?_)
          refine zf_eq (tgt := 74) hx hb hF dX6_readNumber_35 (by decide) (fun hF => ?_) (fun hF => ?_)
          · exact J74 s25.1 s25.2.1 s25.2.2 _ _ ls hP hD hS (lv_sub hl [1, 2, 3, 4, 5] rfl) hF
          · refine lv_iload hx hb dX6_readNumber_38 (lv_at hl 5 rfl) ?_
            refine lv_bipush (v := 10) hx hb dX6_readNumber_40 (by decide) ?_
            refine lv_imul hx hb dX6_readNumber_42 ?_
            refine lv_aload_n hx hb dX6_readNumber_43 rfl (lv_at hl 0 rfl) ?_
            refine va_get (ci := 6) (C := RX6) (T := TX6) (N := 4) (fs := (zTx a tn s25.2.2)) (v := .ref (a 1)) hx hb hts iX6 hown hK hP _ (wTx_at0 cy a tl td tn s25.2.2) rfl 0 (by decide) k9 (fun _ h9 => h9) rfl dX6_readNumber_44 ?_
            refine lv_aload_n hx hb dX6_readNumber_47 rfl (lv_at hl 0 rfl) ?_
            refine va_get (ci := 6) (C := RX6) (T := TX6) (N := 4) (fs := (zTx a tn s25.2.2)) (v := .int s25.2.2) hx hb hts iX6 hown hK hP _ (wTx_at0 cy a tl td tn s25.2.2) rfl 3 (by decide) k30 (fun _ h9 => h9) rfl dX6_readNumber_48 ?_
            refine z_iald (n := 200) (f := tl) hx hb hK hP _ 1 (wTx_at1 cy a tl td tn s25.2.2) rfl hF dX6_readNumber_51 (fun hF => ?_)
            refine lv_iadd hx hb dX6_readNumber_52 ?_
            refine lv_bipush (v := 48) hx hb dX6_readNumber_53 (by decide) ?_
            refine lv_isub hx hb dX6_readNumber_55 ?_
            refine z_leti hF (fun x8 hF => ?_)
            refine lv_istore (lv' := [(5, .int x8), (0, .ref (a 0)), (1, .int x01), (2, .int x02), (3, .int t2), (4, .int s25.1)]) hx hb dX6_readNumber_56 hl (by decide) rfl (fun ls hl => ?_)
            refine lv_aload_n hx hb dX6_readNumber_58 rfl (lv_at hl 1 rfl) ?_
            refine lv_dup hx hb dX6_readNumber_59 rfl ?_
            refine va_get (ci := 6) (C := RX6) (T := TX6) (N := 4) (fs := (zTx a tn s25.2.2)) (v := .int s25.2.2) hx hb hts iX6 hown hK hP _ (wTx_at0 cy a tl td tn s25.2.2) rfl 3 (by decide) k30 (fun _ h9 => h9) rfl dX6_readNumber_60 ?_
            refine lv_iconst (v := 1) hx hb dX6_readNumber_63 (by decide) ?_
            refine lv_iadd hx hb dX6_readNumber_64 ?_
            refine z_puti (ci := 6) (C := RX6) (T := TX6) (N := 4) (fs := (zTx a tn s25.2.2)) (x := (s25.2.2 + 1)) (wf := (fun y => (wTx cy a tl td tn y))) hx hb hts iX6 tyX6 tyX6_ok nmX6 hown hK hP hD hS _ 3 (wTx_foc0_3 cy a tl td tn s25.2.2 (s25.2.2 + 1)) rfl (by decide) k30 (fun _ h9 => h9) rfl (by decide +kernel) (Nat.le_of_ble_eq_true rfl) hF dX6_readNumber_65 (fun tq_9 hF H locs hP hD hS => ?_)
            refine z_name hF (fun x10 ex10 hF => ?_)
            refine lv_iinc (v := x10) (lv' := [(4, .int x10), (5, .int x8), (0, .ref (a 0)), (1, .int x01), (2, .int x02), (3, .int t2)]) hx hb dX6_readNumber_68 hl (k := 5) rfl (by rw [ex10]; rfl) (by decide) rfl (fun ls hl => ?_)
            refine lv_goto (tgt := 25) hx hb dX6_readNumber_71 (by decide) ?_
            exact ih25 (x10, x8, tq_9) _ _ ls hP hD hS (lv_sub hl [2, 3, 4, 5, 0, 1] rfl) hF
    exact L25 1000 (0, 0, tq_1) _ _ ls hP hD hS (lv_sub hl [3, 4, 5, 2, 1, 0] rfl) hF
  have J17 : ∀ (tq_11 : Int32) (H : Heap) (locs : List Loc) (ls : Array Slot), va_P G vwCl (wTx cy a tl td tn tq_11) H → va_D A (wTx cy a tl td tn tq_11) → va_S A s.heap H locs → lv_has ls 7 [(0, .ref (a 0)), (1, .int x01), (2, .int x02)] → j_X6_readNumber_17 tl tn x01 x02 tq_11 = some o → W p l e (zR 2) s m ([.ref (a 0), .int x01, .int x02] : List Value).toArray below meth c H locs 0 0 (MQ below (zQi G cy A (wTx cy a tl td tn o.2) o.1) ([.ref (a 0), .int x01, .int x02] : List Value).toArray s 0 0 A) (F0 m 17 ls []) := by
    intro tq_11 H locs ls hP hD hS hl hF
    unfold j_X6_readNumber_17 at hF
    refine lv_iconst (v := 0) hx hb dX6_readNumber_17 (by decide) ?_
    exact J18 tq_11 0 _ _ ls hP hD hS (lv_sub hl [0, 1, 2] rfl) hF
  refine zf_ge (tgt := 17) hx hb hF dX6_readNumber_1 (by decide) (fun hF => ?_) (fun hF => ?_)
  · exact J17 tq _ _ ls hP hD hS (lv_sub hl [0, 1, 2] rfl) hF
  · refine lv_aload_n hx hb dX6_readNumber_4 rfl (lv_at hl 0 rfl) ?_
    refine lv_bipush (v := 45) hx hb dX6_readNumber_5 (by decide) ?_
    refine z_cVi (b := a 0) (As := [.int 45]) (rest := []) (wc := (wTx cy a tl td tn tq)) (wcf := fun o' => (wTx cy a tl td tn o'.2)) (wf := fun o' => (wTx cy a tl td tn o'.2)) (rf := fun o' => o'.1) hF (fun o' hz => c_X6_take l G cy st a tl td tn tq 45 o' hz) (fun o' => zCut_all) ⟨hx, hb, hml, hown, hts⟩ (cwV 1 hts gX6_readNumber_X6_take rfl rfl rfl (by decide +kernel) ⟨by decide, by decide⟩) (ci := 6) (q0 := 0) rfl (wTx_at0 cy a tl td tn tq) hK hSE hA hP hD hS rfl hl.1 rfl (Nat.le_of_ble_eq_true rfl) dX6_readNumber_7 ⟨Nat.le_refl _, Nat.le_refl _⟩ (fun o12 hF H locs hP hD hS => ?_)
    refine zf_eq (tgt := 17) hx hb hF dX6_readNumber_10 (by decide) (fun hF => ?_) (fun hF => ?_)
    · exact J17 o12.2 _ _ ls hP hD hS (lv_sub hl [0, 1, 2] rfl) hF
    · refine lv_iconst (v := 1) hx hb dX6_readNumber_13 (by decide) ?_
      refine lv_goto (tgt := 18) hx hb dX6_readNumber_14 (by decide) ?_
      exact J18 o12.2 1 _ _ ls hP hD hS (lv_sub hl [0, 1, 2] rfl) hF
def f_X6_readSource (tl : Nat → Int32) (tn : Int32) (tq : Int32) (v : R2) : Option (Int32 × Int32 × R2) :=
zbd (f_X6_readNumber tl tn tq 800 1200) fun o1 =>
if o1.1 = (10000 : Int32) then (
some (0, o1.2, v)) else (
zbd (f_X6_take tl tn o1.2 59) fun o2 =>
if o2.1 = 0 then (
some (0, o2.2, v)) else (
zlet (z2 v 9 1 o1.1) fun v_3 =>
some (1, o2.2, v_3)))
set_option maxHeartbeats 4000000 in
set_option maxRecDepth 100000 in
theorem c_X6_readSource (l : Launch) (G : va_G) (cy : Nat → ClassId) (st : Nat → Nat) (a : Nat → Nat) (b : Nat → Nat) (tl : Nat → Int32) (td : Nat → Int32) (tn : Int32) (tq : Int32) (v : R2) (o : Int32 × Int32 × R2) (hF : f_X6_readSource tl tn tq v = some o) : zMi l yX6_readSource wsX6_readSource (zR 3) G cy st [.ref (a 0), .ref (b 0)] ((wTx cy a tl td tn tq) ++ (wLn cy b v)) ((wTx cy a tl td tn o.2.1) ++ (wLn cy b o.2.2)) o.1 := by
  refine zM_of (cc := cX6_readSource) (maxL := 3) (ret := (some .boolean)) (Qc := fun A => zQi G cy A ((wTx cy a tl td tn o.2.1) ++ (wLn cy b o.2.2)) o.1) (by decide) rfl (Nat.le_of_ble_eq_true rfl) ?_
  intro p e s m below meth c A ls hx hb hml hr hlocks hown hts hK hSE hA hP hD hS hl
  have hown : s.vm.findClass RX6 = some m.cls := hown
  have hl : lv_has ls 3 [(0, .ref (a 0)), (1, .ref (b 0))] := hl
  have k54 := hts (.fieldLink RX6 54 "TapCascade$Line" "source" "I") (by decide +kernel)
  have iX1 : ∀ w ∈ wsX10, w ∈ wsX6_readSource := fun w h => List.mem_cons_of_mem _ (List.mem_append_left _ (List.mem_append_right _ h))
  unfold f_X6_readSource at hF
  refine lv_aload_n hx hb dX6_readSource_0 rfl (lv_at hl 0 rfl) ?_
  refine lv_sipush (v := 800) hx hb dX6_readSource_1 (by decide) ?_
  refine lv_sipush (v := 1200) hx hb dX6_readSource_4 (by decide) ?_
  refine z_cVi (b := a 0) (As := [.int 800, .int 1200]) (rest := []) (wc := (wTx cy a tl td tn tq)) (wcf := fun o' => (wTx cy a tl td tn o'.2)) (wf := fun o' => ((wTx cy a tl td tn o'.2) ++ (wLn cy b v))) (rf := fun o' => o'.1) hF (fun o' hz => c_X6_readNumber l G cy st a tl td tn tq 800 1200 o' hz) (fun o' => (zCut_l zCut_all)) ⟨hx, hb, hml, hown, hts⟩ (cwV 2 hts gX6_readSource_X6_readNumber rfl rfl rfl (by decide +kernel) ⟨by decide, by decide⟩) (ci := 6) (q0 := 0) rfl (wTx_at0 cy a tl td tn tq) hK hSE hA hP hD hS rfl hl.1 rfl (Nat.le_of_ble_eq_true rfl) dX6_readSource_7 ⟨Nat.le_refl _, Nat.le_refl _⟩ (fun o1 hF H locs hP hD hS => ?_)
  refine lv_istore_n (lv' := [(2, .int o1.1), (0, .ref (a 0)), (1, .ref (b 0))]) hx hb dX6_readSource_10 rfl hl (by decide) rfl (fun ls hl => ?_)
  refine lv_iload_n hx hb dX6_readSource_11 rfl (lv_at hl 0 rfl) ?_
  refine lv_sipush (v := 10000) hx hb dX6_readSource_12 (by decide) ?_
  refine zi_eq (tgt := 27) hx hb hF dX6_readSource_15 (by decide) (fun hF => ?_) (fun hF => ?_)
  · refine lv_iconst (v := 0) hx hb dX6_readSource_27 (by decide) ?_
    refine z_zret (o := o) (o1 := (0, o1.2, v)) (v := 0) (wf := (fun o => ((wTx cy a tl td tn o.2.1) ++ (wLn cy b o.2.2)))) (rf := fun o => o.1) hx hb hr hlocks hK ?_ ?_ hS ?_ rfl rfl dX6_readSource_28
    · exact hP
    · exact hD
    · exact hF
  · refine lv_aload_n hx hb dX6_readSource_18 rfl (lv_at hl 1 rfl) ?_
    refine lv_bipush (v := 59) hx hb dX6_readSource_19 (by decide) ?_
    refine z_cVi (b := a 0) (As := [.int 59]) (rest := []) (wc := (wTx cy a tl td tn o1.2)) (wcf := fun o' => (wTx cy a tl td tn o'.2)) (wf := fun o' => ((wTx cy a tl td tn o'.2) ++ (wLn cy b v))) (rf := fun o' => o'.1) hF (fun o' hz => c_X6_take l G cy st a tl td tn o1.2 59 o' hz) (fun o' => (zCut_l zCut_all)) ⟨hx, hb, hml, hown, hts⟩ (cwV 1 hts gX6_readSource_X6_take rfl rfl rfl (by decide +kernel) ⟨by decide, by decide⟩) (ci := 6) (q0 := 0) rfl (wTx_at0 cy a tl td tn o1.2) hK hSE hA hP hD hS rfl hl.1 rfl (Nat.le_of_ble_eq_true rfl) dX6_readSource_21 ⟨Nat.le_refl _, Nat.le_refl _⟩ (fun o2 hF H locs hP hD hS => ?_)
    refine zf_ne (tgt := 29) hx hb hF dX6_readSource_24 (by decide) (fun hF => ?_) (fun hF => ?_)
    · refine lv_aload_n hx hb dX6_readSource_29 rfl (lv_at hl 2 rfl) ?_
      refine lv_iload_n hx hb dX6_readSource_30 rfl (lv_at hl 0 rfl) ?_
      refine z_puti (ci := 1) (C := RX1) (T := TX1) (N := 6) (fs := (zLn b v)) (x := o1.1) (wf := (fun y => ((wTx cy a tl td tn o2.2) ++ (wLn cy b y)))) hx hb hts iX1 tyX1 tyX1_ok nmX1 hown hK hP hD hS _ 4 (zFoc_r (wTx_len cy a tl td tn o2.2) (wLn_foc0_4 cy b v o1.1)) rfl (by decide) k54 (fun _ h9 => h9) rfl (by decide +kernel) (Nat.le_of_ble_eq_true rfl) hF dX6_readSource_31 (fun v_3 hF H locs hP hD hS => ?_)
      refine lv_iconst (v := 1) hx hb dX6_readSource_34 (by decide) ?_
      refine z_zret (o := o) (o1 := (1, o2.2, v_3)) (v := 1) (wf := (fun o => ((wTx cy a tl td tn o.2.1) ++ (wLn cy b o.2.2)))) (rf := fun o => o.1) hx hb hr hlocks hK ?_ ?_ hS ?_ rfl rfl dX6_readSource_35
      · exact hP
      · exact hD
      · exact hF
    · refine lv_iconst (v := 0) hx hb dX6_readSource_27 (by decide) ?_
      refine z_zret (o := o) (o1 := (0, o2.2, v)) (v := 0) (wf := (fun o => ((wTx cy a tl td tn o.2.1) ++ (wLn cy b o.2.2)))) (rf := fun o => o.1) hx hb hr hlocks hK ?_ ?_ hS ?_ rfl rfl dX6_readSource_28
      · exact hP
      · exact hD
      · exact hF
def j_X6_readStage_74 (v : R2) (td_2 : Nat → Int32) (tq_3 : Int32) : Option (Int32 × (Nat → Int32) × Int32 × R2) :=
zbd (f_X1_addStage v td_2) fun o4 =>
zg (zbo o4.1) (some (o4.1, td_2, tq_3, o4.2))
def j_X6_readStage_60 (tl : Nat → Int32) (tn : Int32) (v : R2) (rc10 : (Int32 × (Nat → Int32) × Int32) → Option (Int32 × (Nat → Int32) × Int32 × R2)) (s10 : Int32 × (Nat → Int32) × Int32) (o6 : Int32 × Int32) (td_7 : Nat → Int32) (t8 : Int32) : Option (Int32 × (Nat → Int32) × Int32 × R2) :=
zbd (f_X6_take tl tn o6.2 t8) fun o9 =>
if o9.1 = 0 then (
some (0, td_7, o9.2, v)) else (
zlet (s10.1 + 1) fun x10 =>
rc10 (x10, td_7, o9.2))
def b_X6_readStage_10 (tl : Nat → Int32) (tn : Int32) (v : R2) (x1 : Int32) (rc10 : (Int32 × (Nat → Int32) × Int32) → Option (Int32 × (Nat → Int32) × Int32 × R2)) (s10 : Int32 × (Nat → Int32) × Int32) : Option (Int32 × (Nat → Int32) × Int32 × R2) :=
if x1 < s10.1 then (
j_X6_readStage_74 v s10.2.1 s10.2.2) else (
zg (zin s10.1 7) (
zg (zin s10.1 7) (
zbd (f_X6_readNumber tl tn s10.2.2 (z_lo (zn s10.1)) (z_hi (zn s10.1))) fun o6 =>
zg (zin s10.1 7) (
zlet (upd s10.2.1 (zn s10.1) o6.1) fun td_7 =>
zg (zin s10.1 7) (
if (td_7 (zn s10.1)) = (10000 : Int32) then (
some (0, td_7, o6.2, v)) else (
if x1 ≤ s10.1 then (
j_X6_readStage_60 tl tn v rc10 s10 o6 td_7 59) else (
j_X6_readStage_60 tl tn v rc10 s10 o6 td_7 44)))))))
def f_X6_readStage (tl : Nat → Int32) (td : Nat → Int32) (tn : Int32) (tq : Int32) (v : R2) : Option (Int32 × (Nat → Int32) × Int32 × R2) :=
zlet (7 - 1) fun x1 =>
zloop (b_X6_readStage_10 tl tn v x1) 1000 (0, td, tq)
set_option maxHeartbeats 4000000 in
set_option maxRecDepth 100000 in
theorem c_X6_readStage (l : Launch) (G : va_G) (cy : Nat → ClassId) (st : Nat → Nat) (a : Nat → Nat) (b : Nat → Nat) (tl : Nat → Int32) (td : Nat → Int32) (tn : Int32) (tq : Int32) (v : R2) (o : Int32 × (Nat → Int32) × Int32 × R2) (hF : f_X6_readStage tl td tn tq v = some o) : zMi l yX6_readStage wsX6_readStage (zR 3) G cy st [.ref (a 0), .ref (b 0)] ((wTx cy a tl td tn tq) ++ (wLn cy b v)) ((wTx cy a tl o.2.1 tn o.2.2.1) ++ (wLn cy b o.2.2.2)) o.1 := by
  refine zM_of (cc := cX6_readStage) (maxL := 4) (ret := (some .boolean)) (Qc := fun A => zQi G cy A ((wTx cy a tl o.2.1 tn o.2.2.1) ++ (wLn cy b o.2.2.2)) o.1) (by decide) rfl (Nat.le_of_ble_eq_true rfl) ?_
  intro p e s m below meth c A ls hx hb hml hr hlocks hown hts hK hSE hA hP hD hS hl
  have hown : s.vm.findClass RX6 = some m.cls := hown
  have hl : lv_has ls 4 [(0, .ref (a 0)), (1, .ref (b 0))] := hl
  have k18 := hts (.fieldLink RX6 18 "TapCascade$Text" "told" "[I") (by decide +kernel)
  have iX6 : ∀ w ∈ wsX60, w ∈ wsX6_readStage := fun w h => List.mem_cons_of_mem _ (List.mem_append_left _ (List.mem_append_left _ (List.mem_append_right _ h)))
  unfold f_X6_readStage at hF
  refine lv_aload_n hx hb dX6_readStage_0 rfl (lv_at hl 0 rfl) ?_
  refine va_get (ci := 6) (C := RX6) (T := TX6) (N := 4) (fs := (zTx a tn tq)) (v := .ref (a 2)) hx hb hts iX6 hown hK hP _ (zat_l (wTx_at0 cy a tl td tn tq)) rfl 1 (by decide) k18 (fun _ h9 => h9) rfl dX6_readStage_1 ?_
  refine va_alen (v := 7) hx hb hK hP _ 1 (zat_l (wTx_at2 cy a tl td tn tq)) rfl rfl dX6_readStage_4 ?_
  refine lv_iconst (v := 1) hx hb dX6_readStage_5 (by decide) ?_
  refine lv_isub hx hb dX6_readStage_6 ?_
  refine z_leti hF (fun x1 hF => ?_)
  refine lv_istore_n (lv' := [(2, .int x1), (0, .ref (a 0)), (1, .ref (b 0))]) hx hb dX6_readStage_7 rfl hl (by decide) rfl (fun ls hl => ?_)
  refine lv_iconst (v := 0) hx hb dX6_readStage_8 (by decide) ?_
  refine lv_istore_n (lv' := [(3, .int 0), (2, .int x1), (0, .ref (a 0)), (1, .ref (b 0))]) hx hb dX6_readStage_9 rfl hl (by decide) rfl (fun ls hl => ?_)
  have J74 : ∀ (td_2 : Nat → Int32) (tq_3 : Int32) (H : Heap) (locs : List Loc) (ls : Array Slot), va_P G vwCl ((wTx cy a tl td_2 tn tq_3) ++ (wLn cy b v)) H → va_D A ((wTx cy a tl td_2 tn tq_3) ++ (wLn cy b v)) → va_S A s.heap H locs → lv_has ls 4 [(0, .ref (a 0)), (1, .ref (b 0))] → j_X6_readStage_74 v td_2 tq_3 = some o → W p l e (zR 3) s m ([.ref (a 0), .ref (b 0)] : List Value).toArray below meth c H locs 0 0 (MQ below (zQi G cy A ((wTx cy a tl o.2.1 tn o.2.2.1) ++ (wLn cy b o.2.2.2)) o.1) ([.ref (a 0), .ref (b 0)] : List Value).toArray s 0 0 A) (F0 m 74 ls []) := by
    intro td_2 tq_3 H locs ls hP hD hS hl hF
    unfold j_X6_readStage_74 at hF
    refine lv_aload_n hx hb dX6_readStage_74 rfl (lv_at hl 1 rfl) ?_
    refine lv_aload_n hx hb dX6_readStage_75 rfl (lv_at hl 0 rfl) ?_
    refine va_get (ci := 6) (C := RX6) (T := TX6) (N := 4) (fs := (zTx a tn tq_3)) (v := .ref (a 2)) hx hb hts iX6 hown hK hP _ (zat_l (wTx_at0 cy a tl td_2 tn tq_3)) rfl 1 (by decide) k18 (fun _ h9 => h9) rfl dX6_readStage_76 ?_
    refine z_cVi (b := b 0) (As := [.ref (a 2)]) (rest := []) (wc := ((wLn cy b v) ++ (wAr cy (a 2) td_2))) (wcf := fun o' => ((wLn cy b o'.2) ++ (wAr cy (a 2) td_2))) (wf := fun o' => ((wTx cy a tl td_2 tn tq_3) ++ (wLn cy b o'.2))) (rf := fun o' => o'.1) hF (fun o' hz => c_X1_addStage l G cy st b (a 2) v td_2 o' hz) (fun o' => (zCut_c (zCut_b (wTx_cutA cy a tl td_2 tn tq_3 _) zCut_all))) ⟨hx, hb, hml, hown, hts⟩ (cwV 1 hts gX6_readStage_X1_addStage rfl rfl rfl (by decide +kernel) ⟨by decide, by decide⟩) (ci := 1) (q0 := 0) rfl (zat_l (wLn_at0 cy b v)) hK hSE hA hP hD hS rfl hl.1 rfl (Nat.le_of_ble_eq_true rfl) dX6_readStage_79 ⟨Nat.le_refl _, Nat.le_refl _⟩ (fun o4 hF H locs hP hD hS => ?_)
    obtain ⟨g5, hF⟩ := zg_some hF
    refine z_zret (o := o) (o1 := (o4.1, td_2, tq_3, o4.2)) (v := o4.1) (wf := (fun o => ((wTx cy a tl o.2.1 tn o.2.2.1) ++ (wLn cy b o.2.2.2)))) (rf := fun o => o.1) hx hb hr hlocks hK ?_ ?_ hS ?_ rfl (zbo_n g5) dX6_readStage_82
    · exact hP
    · exact hD
    · exact hF
  have L10 : ∀ (n : Nat) (s10 : Int32 × (Nat → Int32) × Int32) (H : Heap) (locs : List Loc) (ls : Array Slot), va_P G vwCl ((wTx cy a tl s10.2.1 tn s10.2.2) ++ (wLn cy b v)) H → va_D A ((wTx cy a tl s10.2.1 tn s10.2.2) ++ (wLn cy b v)) → va_S A s.heap H locs → lv_has ls 4 [(0, .ref (a 0)), (1, .ref (b 0)), (2, .int x1), (3, .int s10.1)] → zloop (b_X6_readStage_10 tl tn v x1) n s10 = some o → W p l e (zR 3) s m ([.ref (a 0), .ref (b 0)] : List Value).toArray below meth c H locs 0 0 (MQ below (zQi G cy A ((wTx cy a tl o.2.1 tn o.2.2.1) ++ (wLn cy b o.2.2.2)) o.1) ([.ref (a 0), .ref (b 0)] : List Value).toArray s 0 0 A) (F0 m 10 ls []) := by
    intro n
    induction n with
    | zero => exact fun s10 H locs ls _ _ _ _ hF => (zloop_0 hF).elim
    | succ n ih10 =>
      intro s10 H locs ls hP hD hS hl hF
      have hF : b_X6_readStage_10 tl tn v x1 (zloop (b_X6_readStage_10 tl tn v x1) n) s10 = some o := hF
      generalize zloop (b_X6_readStage_10 tl tn v x1) n = rc10 at ih10 hF
      unfold b_X6_readStage_10 at hF
      refine lv_iload_n hx hb dX6_readStage_10 rfl (lv_at hl 3 rfl) ?_
      refine lv_iload_n hx hb dX6_readStage_11 rfl (lv_at hl 2 rfl) ?_
      refine zi_gt (tgt := 74) hx hb hF dX6_readStage_12 (by decide) (fun hF => ?_) (fun hF => ?_)
      · exact J74 s10.2.1 s10.2.2 _ _ ls hP hD hS (lv_sub hl [0, 1] rfl) hF
      · refine lv_aload_n hx hb dX6_readStage_15 rfl (lv_at hl 0 rfl) ?_
        refine va_get (ci := 6) (C := RX6) (T := TX6) (N := 4) (fs := (zTx a tn s10.2.2)) (v := .ref (a 2)) hx hb hts iX6 hown hK hP _ (zat_l (wTx_at0 cy a tl s10.2.1 tn s10.2.2)) rfl 1 (by decide) k18 (fun _ h9 => h9) rfl dX6_readStage_16 ?_
        refine lv_iload_n hx hb dX6_readStage_19 rfl (lv_at hl 3 rfl) ?_
        refine lv_aload_n hx hb dX6_readStage_20 rfl (lv_at hl 0 rfl) ?_
        refine va_getsN hx hb hSE.1.1 hS hown (va_Nw.use rfl hSE.2.2.1.2.1) (fun _ h9 => h9) dX6_readStage_21 ?_
        refine lv_iload_n hx hb dX6_readStage_24 rfl (lv_at hl 3 rfl) ?_
        refine z_tald hx hb hSE.1.2 hS hF dX6_readStage_25 (fun hF => ?_)
        refine va_getsN hx hb hSE.2.1.1 hS hown (va_Nw.use rfl hSE.2.2.1.2.2.1) (fun _ h9 => h9) dX6_readStage_26 ?_
        refine lv_iload_n hx hb dX6_readStage_29 rfl (lv_at hl 3 rfl) ?_
        refine z_tald hx hb hSE.2.1.2 hS hF dX6_readStage_30 (fun hF => ?_)
        refine z_cVi (b := a 0) (As := [.int (z_lo (zn s10.1)), .int (z_hi (zn s10.1))]) (rest := [.int s10.1, .ref (a 2)]) (wc := (wTx cy a tl s10.2.1 tn s10.2.2)) (wcf := fun o' => (wTx cy a tl s10.2.1 tn o'.2)) (wf := fun o' => ((wTx cy a tl s10.2.1 tn o'.2) ++ (wLn cy b v))) (rf := fun o' => o'.1) hF (fun o' hz => c_X6_readNumber l G cy st a tl s10.2.1 tn s10.2.2 (z_lo (zn s10.1)) (z_hi (zn s10.1)) o' hz) (fun o' => (zCut_l zCut_all)) ⟨hx, hb, hml, hown, hts⟩ (cwV 2 hts gX6_readStage_X6_readNumber rfl rfl rfl (by decide +kernel) ⟨by decide, by decide⟩) (ci := 6) (q0 := 0) rfl (wTx_at0 cy a tl s10.2.1 tn s10.2.2) hK hSE hA hP hD hS rfl hl.1 rfl (Nat.le_of_ble_eq_true rfl) dX6_readStage_31 ⟨Nat.le_refl _, Nat.le_refl _⟩ (fun o6 hF H locs hP hD hS => ?_)
        refine z_iast (n := 7) (f := s10.2.1) (i := s10.1) (x := o6.1) (wf := (fun y => ((wTx cy a tl y tn o6.2) ++ (wLn cy b v)))) hx hb hK hP hD hS _ 1 (zFoc_l (wTx_foc2 cy a tl s10.2.1 tn o6.2 _)) rfl hF dX6_readStage_34 (fun td_7 hF H locs hP hD hS => ?_)
        refine lv_aload_n hx hb dX6_readStage_35 rfl (lv_at hl 0 rfl) ?_
        refine va_get (ci := 6) (C := RX6) (T := TX6) (N := 4) (fs := (zTx a tn o6.2)) (v := .ref (a 2)) hx hb hts iX6 hown hK hP _ (zat_l (wTx_at0 cy a tl td_7 tn o6.2)) rfl 1 (by decide) k18 (fun _ h9 => h9) rfl dX6_readStage_36 ?_
        refine lv_iload_n hx hb dX6_readStage_39 rfl (lv_at hl 3 rfl) ?_
        refine z_iald (n := 7) (f := td_7) hx hb hK hP _ 1 (zat_l (wTx_at2 cy a tl td_7 tn o6.2)) rfl hF dX6_readStage_40 (fun hF => ?_)
        refine lv_sipush (v := 10000) hx hb dX6_readStage_41 (by decide) ?_
        refine zi_eq (tgt := 66) hx hb hF dX6_readStage_44 (by decide) (fun hF => ?_) (fun hF => ?_)
        · refine lv_iconst (v := 0) hx hb dX6_readStage_66 (by decide) ?_
          refine z_zret (o := o) (o1 := (0, td_7, o6.2, v)) (v := 0) (wf := (fun o => ((wTx cy a tl o.2.1 tn o.2.2.1) ++ (wLn cy b o.2.2.2)))) (rf := fun o => o.1) hx hb hr hlocks hK ?_ ?_ hS ?_ rfl rfl dX6_readStage_67
          · exact hP
          · exact hD
          · exact hF
        · refine lv_aload_n hx hb dX6_readStage_47 rfl (lv_at hl 0 rfl) ?_
          refine lv_iload_n hx hb dX6_readStage_48 rfl (lv_at hl 3 rfl) ?_
          refine lv_iload_n hx hb dX6_readStage_49 rfl (lv_at hl 2 rfl) ?_
          have J60 : ∀ (t8 : Int32) (H : Heap) (locs : List Loc) (ls : Array Slot), va_P G vwCl ((wTx cy a tl td_7 tn o6.2) ++ (wLn cy b v)) H → va_D A ((wTx cy a tl td_7 tn o6.2) ++ (wLn cy b v)) → va_S A s.heap H locs → lv_has ls 4 [(0, .ref (a 0)), (1, .ref (b 0)), (2, .int x1), (3, .int s10.1)] → j_X6_readStage_60 tl tn v rc10 s10 o6 td_7 t8 = some o → W p l e (zR 3) s m ([.ref (a 0), .ref (b 0)] : List Value).toArray below meth c H locs 0 0 (MQ below (zQi G cy A ((wTx cy a tl o.2.1 tn o.2.2.1) ++ (wLn cy b o.2.2.2)) o.1) ([.ref (a 0), .ref (b 0)] : List Value).toArray s 0 0 A) (F0 m 60 ls [.int t8, .ref (a 0)]) := by
            intro t8 H locs ls hP hD hS hl hF
            unfold j_X6_readStage_60 at hF
            refine z_cVi (b := a 0) (As := [.int t8]) (rest := []) (wc := (wTx cy a tl td_7 tn o6.2)) (wcf := fun o' => (wTx cy a tl td_7 tn o'.2)) (wf := fun o' => ((wTx cy a tl td_7 tn o'.2) ++ (wLn cy b v))) (rf := fun o' => o'.1) hF (fun o' hz => c_X6_take l G cy st a tl td_7 tn o6.2 t8 o' hz) (fun o' => (zCut_l zCut_all)) ⟨hx, hb, hml, hown, hts⟩ (cwV 1 hts gX6_readStage_X6_take rfl rfl rfl (by decide +kernel) ⟨by decide, by decide⟩) (ci := 6) (q0 := 0) rfl (wTx_at0 cy a tl td_7 tn o6.2) hK hSE hA hP hD hS rfl hl.1 rfl (Nat.le_of_ble_eq_true rfl) dX6_readStage_60 ⟨Nat.le_refl _, Nat.le_refl _⟩ (fun o9 hF H locs hP hD hS => ?_)
            refine zf_ne (tgt := 68) hx hb hF dX6_readStage_63 (by decide) (fun hF => ?_) (fun hF => ?_)
            · refine z_name hF (fun x10 ex10 hF => ?_)
              refine lv_iinc (v := x10) (lv' := [(3, .int x10), (0, .ref (a 0)), (1, .ref (b 0)), (2, .int x1)]) hx hb dX6_readStage_68 hl (k := 3) rfl (by rw [ex10]; rfl) (by decide) rfl (fun ls hl => ?_)
              refine lv_goto (tgt := 10) hx hb dX6_readStage_71 (by decide) ?_
              exact ih10 (x10, td_7, o9.2) _ _ ls hP hD hS (lv_sub hl [1, 2, 3, 0] rfl) hF
            · refine lv_iconst (v := 0) hx hb dX6_readStage_66 (by decide) ?_
              refine z_zret (o := o) (o1 := (0, td_7, o9.2, v)) (v := 0) (wf := (fun o => ((wTx cy a tl o.2.1 tn o.2.2.1) ++ (wLn cy b o.2.2.2)))) (rf := fun o => o.1) hx hb hr hlocks hK ?_ ?_ hS ?_ rfl rfl dX6_readStage_67
              · exact hP
              · exact hD
              · exact hF
          refine zi_ge (tgt := 58) hx hb hF dX6_readStage_50 (by decide) (fun hF => ?_) (fun hF => ?_)
          · refine lv_bipush (v := 59) hx hb dX6_readStage_58 (by decide) ?_
            exact J60 59 _ _ ls hP hD hS (lv_sub hl [0, 1, 2, 3] rfl) hF
          · refine lv_bipush (v := 44) hx hb dX6_readStage_53 (by decide) ?_
            refine lv_goto (tgt := 60) hx hb dX6_readStage_55 (by decide) ?_
            exact J60 44 _ _ ls hP hD hS (lv_sub hl [0, 1, 2, 3] rfl) hF
  exact L10 1000 (0, td, tq) _ _ ls hP hD hS (lv_sub hl [2, 3, 1, 0] rfl) hF
def f_X6_readItem (tl : Nat → Int32) (td : Nat → Int32) (tn : Int32) (tq : Int32) (v : R2) : Option (Int32 × (Nat → Int32) × Int32 × R2) :=
zbd (f_X6_take tl tn tq 118) fun o1 =>
if o1.1 = 0 then (
zbd (f_X6_take tl tn o1.2 115) fun o2 =>
if o2.1 = 0 then (
some (0, td, o2.2, v)) else (
zbd (f_X6_readStage tl td tn o2.2 v) fun o3 =>
zlet (o3.1) fun x4 =>
zlet (o3.2.1) fun td_5 =>
zlet (o3.2.2.1) fun tq_6 =>
zlet (o3.2.2.2) fun v_7 =>
if x4 = 0 then (
some (0, td_5, tq_6, v_7)) else (
some (1, td_5, tq_6, v_7)))) else (
zbd (f_X6_readSource tl tn o1.2 v) fun o8 =>
zg (zbo o8.1) (some (o8.1, td, o8.2.1, o8.2.2)))
set_option maxHeartbeats 4000000 in
set_option maxRecDepth 100000 in
theorem c_X6_readItem (l : Launch) (G : va_G) (cy : Nat → ClassId) (st : Nat → Nat) (a : Nat → Nat) (b : Nat → Nat) (tl : Nat → Int32) (td : Nat → Int32) (tn : Int32) (tq : Int32) (v : R2) (o : Int32 × (Nat → Int32) × Int32 × R2) (hF : f_X6_readItem tl td tn tq v = some o) : zMi l yX6_readItem wsX6_readItem (zR 4) G cy st [.ref (a 0), .ref (b 0)] ((wTx cy a tl td tn tq) ++ (wLn cy b v)) ((wTx cy a tl o.2.1 tn o.2.2.1) ++ (wLn cy b o.2.2.2)) o.1 := by
  refine zM_of (cc := cX6_readItem) (maxL := 2) (ret := (some .boolean)) (Qc := fun A => zQi G cy A ((wTx cy a tl o.2.1 tn o.2.2.1) ++ (wLn cy b o.2.2.2)) o.1) (by decide) rfl (Nat.le_of_ble_eq_true rfl) ?_
  intro p e s m below meth c A ls hx hb hml hr hlocks hown hts hK hSE hA hP hD hS hl
  have hown : s.vm.findClass RX6 = some m.cls := hown
  have hl : lv_has ls 2 [(0, .ref (a 0)), (1, .ref (b 0))] := hl
  unfold f_X6_readItem at hF
  refine lv_aload_n hx hb dX6_readItem_0 rfl (lv_at hl 0 rfl) ?_
  refine lv_bipush (v := 118) hx hb dX6_readItem_1 (by decide) ?_
  refine z_cVi (b := a 0) (As := [.int 118]) (rest := []) (wc := (wTx cy a tl td tn tq)) (wcf := fun o' => (wTx cy a tl td tn o'.2)) (wf := fun o' => ((wTx cy a tl td tn o'.2) ++ (wLn cy b v))) (rf := fun o' => o'.1) hF (fun o' hz => c_X6_take l G cy st a tl td tn tq 118 o' hz) (fun o' => (zCut_l zCut_all)) ⟨hx, hb, hml, hown, hts⟩ (cwV 1 hts gX6_readItem_X6_take rfl rfl rfl (by decide +kernel) ⟨by decide, by decide⟩) (ci := 6) (q0 := 0) rfl (wTx_at0 cy a tl td tn tq) hK hSE hA hP hD hS rfl hl.1 rfl (Nat.le_of_ble_eq_true rfl) dX6_readItem_3 ⟨Nat.le_refl _, Nat.le_refl _⟩ (fun o1 hF H locs hP hD hS => ?_)
  refine zf_eq (tgt := 15) hx hb hF dX6_readItem_6 (by decide) (fun hF => ?_) (fun hF => ?_)
  · refine lv_aload_n hx hb dX6_readItem_15 rfl (lv_at hl 0 rfl) ?_
    refine lv_bipush (v := 115) hx hb dX6_readItem_16 (by decide) ?_
    refine z_cVi (b := a 0) (As := [.int 115]) (rest := []) (wc := (wTx cy a tl td tn o1.2)) (wcf := fun o' => (wTx cy a tl td tn o'.2)) (wf := fun o' => ((wTx cy a tl td tn o'.2) ++ (wLn cy b v))) (rf := fun o' => o'.1) hF (fun o' hz => c_X6_take l G cy st a tl td tn o1.2 115 o' hz) (fun o' => (zCut_l zCut_all)) ⟨hx, hb, hml, hown, hts⟩ (cwV 1 hts gX6_readItem_X6_take rfl rfl rfl (by decide +kernel) ⟨by decide, by decide⟩) (ci := 6) (q0 := 0) rfl (wTx_at0 cy a tl td tn o1.2) hK hSE hA hP hD hS rfl hl.1 rfl (Nat.le_of_ble_eq_true rfl) dX6_readItem_18 ⟨Nat.le_refl _, Nat.le_refl _⟩ (fun o2 hF H locs hP hD hS => ?_)
    refine zf_eq (tgt := 36) hx hb hF dX6_readItem_21 (by decide) (fun hF => ?_) (fun hF => ?_)
    · refine lv_iconst (v := 0) hx hb dX6_readItem_36 (by decide) ?_
      refine z_zret (o := o) (o1 := (0, td, o2.2, v)) (v := 0) (wf := (fun o => ((wTx cy a tl o.2.1 tn o.2.2.1) ++ (wLn cy b o.2.2.2)))) (rf := fun o => o.1) hx hb hr hlocks hK ?_ ?_ hS ?_ rfl rfl dX6_readItem_37
      · exact hP
      · exact hD
      · exact hF
    · refine lv_aload_n hx hb dX6_readItem_24 rfl (lv_at hl 0 rfl) ?_
      refine lv_aload_n hx hb dX6_readItem_25 rfl (lv_at hl 1 rfl) ?_
      refine z_cVi (b := a 0) (As := [.ref (b 0)]) (rest := []) (wc := ((wTx cy a tl td tn o2.2) ++ (wLn cy b v))) (wcf := fun o' => ((wTx cy a tl o'.2.1 tn o'.2.2.1) ++ (wLn cy b o'.2.2.2))) (wf := fun o' => ((wTx cy a tl o'.2.1 tn o'.2.2.1) ++ (wLn cy b o'.2.2.2))) (rf := fun o' => o'.1) hF (fun o' hz => c_X6_readStage l G cy st a b tl td tn o2.2 v o' hz) (fun o' => (zCut_b zCut_all zCut_all)) ⟨hx, hb, hml, hown, hts⟩ (cwV 1 hts gX6_readItem_X6_readStage rfl rfl rfl (by decide +kernel) ⟨by decide, by decide⟩) (ci := 6) (q0 := 0) rfl (zat_l (wTx_at0 cy a tl td tn o2.2)) hK hSE hA hP hD hS rfl hl.1 rfl (Nat.le_of_ble_eq_true rfl) dX6_readItem_26 ⟨Nat.le_refl _, Nat.le_refl _⟩ (fun o3 hF H locs hP hD hS => ?_)
      refine z_leti hF (fun x4 hF => ?_)
      refine z_nameW (wf := (fun y => ((wTx cy a tl y tn o3.2.2.1) ++ (wLn cy b o3.2.2.2)))) hF hP hD (fun td_5 hF hP hD => ?_)
      refine z_nameW (wf := (fun y => ((wTx cy a tl td_5 tn y) ++ (wLn cy b o3.2.2.2)))) hF hP hD (fun tq_6 hF hP hD => ?_)
      refine z_nameW (wf := (fun y => ((wTx cy a tl td_5 tn tq_6) ++ (wLn cy b y)))) hF hP hD (fun v_7 hF hP hD => ?_)
      refine zf_eq (tgt := 36) hx hb hF dX6_readItem_29 (by decide) (fun hF => ?_) (fun hF => ?_)
      · refine lv_iconst (v := 0) hx hb dX6_readItem_36 (by decide) ?_
        refine z_zret (o := o) (o1 := (0, td_5, tq_6, v_7)) (v := 0) (wf := (fun o => ((wTx cy a tl o.2.1 tn o.2.2.1) ++ (wLn cy b o.2.2.2)))) (rf := fun o => o.1) hx hb hr hlocks hK ?_ ?_ hS ?_ rfl rfl dX6_readItem_37
        · exact hP
        · exact hD
        · exact hF
      · refine lv_iconst (v := 1) hx hb dX6_readItem_32 (by decide) ?_
        refine lv_goto (tgt := 37) hx hb dX6_readItem_33 (by decide) ?_
        refine z_zret (o := o) (o1 := (1, td_5, tq_6, v_7)) (v := 1) (wf := (fun o => ((wTx cy a tl o.2.1 tn o.2.2.1) ++ (wLn cy b o.2.2.2)))) (rf := fun o => o.1) hx hb hr hlocks hK ?_ ?_ hS ?_ rfl rfl dX6_readItem_37
        · exact hP
        · exact hD
        · exact hF
  · refine lv_aload_n hx hb dX6_readItem_9 rfl (lv_at hl 0 rfl) ?_
    refine lv_aload_n hx hb dX6_readItem_10 rfl (lv_at hl 1 rfl) ?_
    refine z_cVi (b := a 0) (As := [.ref (b 0)]) (rest := []) (wc := ((wTx cy a tl td tn o1.2) ++ (wLn cy b v))) (wcf := fun o' => ((wTx cy a tl td tn o'.2.1) ++ (wLn cy b o'.2.2))) (wf := fun o' => ((wTx cy a tl td tn o'.2.1) ++ (wLn cy b o'.2.2))) (rf := fun o' => o'.1) hF (fun o' hz => c_X6_readSource l G cy st a b tl td tn o1.2 v o' hz) (fun o' => (zCut_b zCut_all zCut_all)) ⟨hx, hb, hml, hown, hts⟩ (cwV 1 hts gX6_readItem_X6_readSource rfl rfl rfl (by decide +kernel) ⟨by decide, by decide⟩) (ci := 6) (q0 := 0) rfl (zat_l (wTx_at0 cy a tl td tn o1.2)) hK hSE hA hP hD hS rfl hl.1 rfl (Nat.le_of_ble_eq_true rfl) dX6_readItem_11 ⟨Nat.le_refl _, Nat.le_refl _⟩ (fun o8 hF H locs hP hD hS => ?_)
    obtain ⟨g9, hF⟩ := zg_some hF
    refine z_zret (o := o) (o1 := (o8.1, td, o8.2.1, o8.2.2)) (v := o8.1) (wf := (fun o => ((wTx cy a tl o.2.1 tn o.2.2.1) ++ (wLn cy b o.2.2.2)))) (rf := fun o => o.1) hx hb hr hlocks hK ?_ ?_ hS ?_ rfl (zbo_n g9) dX6_readItem_14
    · exact hP
    · exact hD
    · exact hF
def j_X6_readInto_50 (td_3 : Nat → Int32) (tq_4 : Int32) (v_5 : R2) : Option (Int32 × (Nat → Int32) × Int32 × R2) :=
zbd (f_X1_reckon v_5) fun o6 =>
some ((-4), td_3, tq_4, o6)
def b_X6_readInto_11 (tl : Nat → Int32) (tn : Int32) (rc11 : (Int32 × (Nat → Int32) × Int32 × R2) → Option (Int32 × (Nat → Int32) × Int32 × R2)) (s11 : Int32 × (Nat → Int32) × Int32 × R2) : Option (Int32 × (Nat → Int32) × Int32 × R2) :=
if (200 : Int32) ≤ s11.1 then (
j_X6_readInto_50 s11.2.1 s11.2.2.1 s11.2.2.2) else (
if tn ≤ s11.2.2.1 then (
j_X6_readInto_50 s11.2.1 s11.2.2.1 s11.2.2.2) else (
zbd (f_X6_readItem tl s11.2.1 tn s11.2.2.1 s11.2.2.2) fun o7 =>
zlet (o7.1) fun x8 =>
zlet (o7.2.1) fun td_9 =>
zlet (o7.2.2.1) fun tq_10 =>
zlet (o7.2.2.2) fun v_11 =>
if x8 = 0 then (
some (s11.2.2.1, td_9, tq_10, v_11)) else (
zlet (s11.1 + 1) fun x12 =>
rc11 (x12, td_9, tq_10, v_11))))
def f_X6_readInto (tl : Nat → Int32) (td : Nat → Int32) (tn : Int32) (v : R2) : Option (Int32 × (Nat → Int32) × Int32 × R2) :=
zbd (f_X1_empty v) fun o1 =>
zlet 0 fun tq_2 =>
zloop (b_X6_readInto_11 tl tn) 1000 (0, td, tq_2, o1)
set_option maxHeartbeats 4000000 in
set_option maxRecDepth 100000 in
theorem c_X6_readInto (l : Launch) (G : va_G) (cy : Nat → ClassId) (st : Nat → Nat) (a : Nat → Nat) (b : Nat → Nat) (tl : Nat → Int32) (td : Nat → Int32) (tn : Int32) (tq : Int32) (v : R2) (o : Int32 × (Nat → Int32) × Int32 × R2) (hF : f_X6_readInto tl td tn v = some o) : zMi l yX6_readInto wsX6_readInto (zR 5) G cy st [.ref (a 0), .ref (b 0)] ((wTx cy a tl td tn tq) ++ (wLn cy b v)) ((wTx cy a tl o.2.1 tn o.2.2.1) ++ (wLn cy b o.2.2.2)) o.1 := by
  refine zM_of (cc := cX6_readInto) (maxL := 4) (ret := (some .int)) (Qc := fun A => zQi G cy A ((wTx cy a tl o.2.1 tn o.2.2.1) ++ (wLn cy b o.2.2.2)) o.1) (by decide) rfl (Nat.le_of_ble_eq_true rfl) ?_
  intro p e s m below meth c A ls hx hb hml hr hlocks hown hts hK hSE hA hP hD hS hl
  have hown : s.vm.findClass RX6 = some m.cls := hown
  have hl : lv_has ls 4 [(0, .ref (a 0)), (1, .ref (b 0))] := hl
  have k30 := hts (.fieldLink RX6 30 "TapCascade$Text" "place" "I") (by decide +kernel)
  have iX6 : ∀ w ∈ wsX60, w ∈ wsX6_readInto := fun w h => List.mem_cons_of_mem _ (List.mem_append_left _ (List.mem_append_left _ (List.mem_append_left _ (List.mem_append_right _ h))))
  have k21 := hts (.fieldLink RX6 21 "TapCascade$Text" "length" "I") (by decide +kernel)
  unfold f_X6_readInto at hF
  refine lv_aload_n hx hb dX6_readInto_0 rfl (lv_at hl 1 rfl) ?_
  refine z_cVv (b := b 0) (As := []) (rest := []) (wc := (wLn cy b v)) (wcf := fun o' => (wLn cy b o')) (wf := fun o' => ((wTx cy a tl td tn tq) ++ (wLn cy b o'))) hF (fun o' hz => c_X1_empty l G cy st b v o' hz) (fun o' => (zCut_r zCut_all)) ⟨hx, hb, hml, hown, hts⟩ (cwV 0 hts gX6_readInto_X1_empty rfl rfl rfl (by decide +kernel) ⟨by decide, by decide⟩) (ci := 1) (q0 := 0) rfl (wLn_at0 cy b v) hK hSE hA hP hD hS rfl hl.1 rfl (Nat.le_of_ble_eq_true rfl) dX6_readInto_1 ⟨Nat.le_refl _, Nat.le_refl _⟩ (fun o1 hF H locs hP hD hS => ?_)
  refine lv_aload_n hx hb dX6_readInto_4 rfl (lv_at hl 0 rfl) ?_
  refine lv_iconst (v := 0) hx hb dX6_readInto_5 (by decide) ?_
  refine z_puti (ci := 6) (C := RX6) (T := TX6) (N := 4) (fs := (zTx a tn tq)) (x := 0) (wf := (fun y => ((wTx cy a tl td tn y) ++ (wLn cy b o1)))) hx hb hts iX6 tyX6 tyX6_ok nmX6 hown hK hP hD hS _ 3 (zFoc_l (wTx_foc0_3 cy a tl td tn tq 0)) rfl (by decide) k30 (fun _ h9 => h9) rfl (by decide +kernel) (Nat.le_of_ble_eq_true rfl) hF dX6_readInto_6 (fun tq_2 hF H locs hP hD hS => ?_)
  refine lv_iconst (v := 0) hx hb dX6_readInto_9 (by decide) ?_
  refine lv_istore_n (lv' := [(2, .int 0), (0, .ref (a 0)), (1, .ref (b 0))]) hx hb dX6_readInto_10 rfl hl (by decide) rfl (fun ls hl => ?_)
  have J50 : ∀ (td_3 : Nat → Int32) (tq_4 : Int32) (v_5 : R2) (H : Heap) (locs : List Loc) (ls : Array Slot), va_P G vwCl ((wTx cy a tl td_3 tn tq_4) ++ (wLn cy b v_5)) H → va_D A ((wTx cy a tl td_3 tn tq_4) ++ (wLn cy b v_5)) → va_S A s.heap H locs → lv_has ls 4 [(1, .ref (b 0))] → j_X6_readInto_50 td_3 tq_4 v_5 = some o → W p l e (zR 5) s m ([.ref (a 0), .ref (b 0)] : List Value).toArray below meth c H locs 0 0 (MQ below (zQi G cy A ((wTx cy a tl o.2.1 tn o.2.2.1) ++ (wLn cy b o.2.2.2)) o.1) ([.ref (a 0), .ref (b 0)] : List Value).toArray s 0 0 A) (F0 m 50 ls []) := by
    intro td_3 tq_4 v_5 H locs ls hP hD hS hl hF
    unfold j_X6_readInto_50 at hF
    refine lv_aload_n hx hb dX6_readInto_50 rfl (lv_at hl 0 rfl) ?_
    refine z_cVv (b := b 0) (As := []) (rest := []) (wc := (wLn cy b v_5)) (wcf := fun o' => (wLn cy b o')) (wf := fun o' => ((wTx cy a tl td_3 tn tq_4) ++ (wLn cy b o'))) hF (fun o' hz => c_X1_reckon l G cy st b v_5 o' hz) (fun o' => (zCut_r zCut_all)) ⟨hx, hb, hml, hown, hts⟩ (cwV 0 hts gX6_readInto_X1_reckon rfl rfl rfl (by decide +kernel) ⟨by decide, by decide⟩) (ci := 1) (q0 := 0) rfl (wLn_at0 cy b v_5) hK hSE hA hP hD hS rfl hl.1 rfl (Nat.le_of_ble_eq_true rfl) dX6_readInto_51 ⟨Nat.le_refl _, Nat.le_refl _⟩ (fun o6 hF H locs hP hD hS => ?_)
    refine lv_bipush (v := (-4)) hx hb dX6_readInto_54 (by decide) ?_
    refine z_iret (o := o) (o1 := ((-4), td_3, tq_4, o6)) (v := (-4)) (wf := (fun o => ((wTx cy a tl o.2.1 tn o.2.2.1) ++ (wLn cy b o.2.2.2)))) (rf := fun o => o.1) hx hb hr hlocks hK ?_ ?_ hS ?_ rfl dX6_readInto_56
    · exact hP
    · exact hD
    · exact hF
  have L11 : ∀ (n : Nat) (s11 : Int32 × (Nat → Int32) × Int32 × R2) (H : Heap) (locs : List Loc) (ls : Array Slot), va_P G vwCl ((wTx cy a tl s11.2.1 tn s11.2.2.1) ++ (wLn cy b s11.2.2.2)) H → va_D A ((wTx cy a tl s11.2.1 tn s11.2.2.1) ++ (wLn cy b s11.2.2.2)) → va_S A s.heap H locs → lv_has ls 4 [(0, .ref (a 0)), (1, .ref (b 0)), (2, .int s11.1)] → zloop (b_X6_readInto_11 tl tn) n s11 = some o → W p l e (zR 5) s m ([.ref (a 0), .ref (b 0)] : List Value).toArray below meth c H locs 0 0 (MQ below (zQi G cy A ((wTx cy a tl o.2.1 tn o.2.2.1) ++ (wLn cy b o.2.2.2)) o.1) ([.ref (a 0), .ref (b 0)] : List Value).toArray s 0 0 A) (F0 m 11 ls []) := by
    intro n
    induction n with
    | zero => exact fun s11 H locs ls _ _ _ _ hF => (zloop_0 hF).elim
    | succ n ih11 =>
      intro s11 H locs ls hP hD hS hl hF
      have hF : b_X6_readInto_11 tl tn (zloop (b_X6_readInto_11 tl tn) n) s11 = some o := hF
      generalize zloop (b_X6_readInto_11 tl tn) n = rc11 at ih11 hF
      unfold b_X6_readInto_11 at hF
      refine lv_iload_n hx hb dX6_readInto_11 rfl (lv_at hl 2 rfl) ?_
      refine lv_sipush (v := 200) hx hb dX6_readInto_12 (by decide) ?_
      refine zi_ge (tgt := 50) hx hb hF dX6_readInto_15 (by decide) (fun hF => ?_) (fun hF => ?_)
      · exact J50 s11.2.1 s11.2.2.1 s11.2.2.2 _ _ ls hP hD hS (lv_sub hl [1] rfl) hF
      · refine lv_aload_n hx hb dX6_readInto_18 rfl (lv_at hl 0 rfl) ?_
        refine va_get (ci := 6) (C := RX6) (T := TX6) (N := 4) (fs := (zTx a tn s11.2.2.1)) (v := .int s11.2.2.1) hx hb hts iX6 hown hK hP _ (zat_l (wTx_at0 cy a tl s11.2.1 tn s11.2.2.1)) rfl 3 (by decide) k30 (fun _ h9 => h9) rfl dX6_readInto_19 ?_
        refine lv_aload_n hx hb dX6_readInto_22 rfl (lv_at hl 0 rfl) ?_
        refine va_get (ci := 6) (C := RX6) (T := TX6) (N := 4) (fs := (zTx a tn s11.2.2.1)) (v := .int tn) hx hb hts iX6 hown hK hP _ (zat_l (wTx_at0 cy a tl s11.2.1 tn s11.2.2.1)) rfl 2 (by decide) k21 (fun _ h9 => h9) rfl dX6_readInto_23 ?_
        refine zi_ge (tgt := 50) hx hb hF dX6_readInto_26 (by decide) (fun hF => ?_) (fun hF => ?_)
        · exact J50 s11.2.1 s11.2.2.1 s11.2.2.2 _ _ ls hP hD hS (lv_sub hl [1] rfl) hF
        · refine lv_aload_n hx hb dX6_readInto_29 rfl (lv_at hl 0 rfl) ?_
          refine va_get (ci := 6) (C := RX6) (T := TX6) (N := 4) (fs := (zTx a tn s11.2.2.1)) (v := .int s11.2.2.1) hx hb hts iX6 hown hK hP _ (zat_l (wTx_at0 cy a tl s11.2.1 tn s11.2.2.1)) rfl 3 (by decide) k30 (fun _ h9 => h9) rfl dX6_readInto_30 ?_
          refine lv_istore_n (lv' := [(3, .int s11.2.2.1), (0, .ref (a 0)), (1, .ref (b 0)), (2, .int s11.1)]) hx hb dX6_readInto_33 rfl hl (by decide) rfl (fun ls hl => ?_)
          refine lv_aload_n hx hb dX6_readInto_34 rfl (lv_at hl 1 rfl) ?_
          refine lv_aload_n hx hb dX6_readInto_35 rfl (lv_at hl 2 rfl) ?_
          refine z_cVi (b := a 0) (As := [.ref (b 0)]) (rest := []) (wc := ((wTx cy a tl s11.2.1 tn s11.2.2.1) ++ (wLn cy b s11.2.2.2))) (wcf := fun o' => ((wTx cy a tl o'.2.1 tn o'.2.2.1) ++ (wLn cy b o'.2.2.2))) (wf := fun o' => ((wTx cy a tl o'.2.1 tn o'.2.2.1) ++ (wLn cy b o'.2.2.2))) (rf := fun o' => o'.1) hF (fun o' hz => c_X6_readItem l G cy st a b tl s11.2.1 tn s11.2.2.1 s11.2.2.2 o' hz) (fun o' => (zCut_b zCut_all zCut_all)) ⟨hx, hb, hml, hown, hts⟩ (cwV 1 hts gX6_readInto_X6_readItem rfl rfl rfl (by decide +kernel) ⟨by decide, by decide⟩) (ci := 6) (q0 := 0) rfl (zat_l (wTx_at0 cy a tl s11.2.1 tn s11.2.2.1)) hK hSE hA hP hD hS rfl hl.1 rfl (Nat.le_of_ble_eq_true rfl) dX6_readInto_36 ⟨Nat.le_refl _, Nat.le_refl _⟩ (fun o7 hF H locs hP hD hS => ?_)
          refine z_leti hF (fun x8 hF => ?_)
          refine z_nameW (wf := (fun y => ((wTx cy a tl y tn o7.2.2.1) ++ (wLn cy b o7.2.2.2)))) hF hP hD (fun td_9 hF hP hD => ?_)
          refine z_nameW (wf := (fun y => ((wTx cy a tl td_9 tn y) ++ (wLn cy b o7.2.2.2)))) hF hP hD (fun tq_10 hF hP hD => ?_)
          refine z_nameW (wf := (fun y => ((wTx cy a tl td_9 tn tq_10) ++ (wLn cy b y)))) hF hP hD (fun v_11 hF hP hD => ?_)
          refine zf_ne (tgt := 44) hx hb hF dX6_readInto_39 (by decide) (fun hF => ?_) (fun hF => ?_)
          · refine z_name hF (fun x12 ex12 hF => ?_)
            refine lv_iinc (v := x12) (lv' := [(2, .int x12), (3, .int s11.2.2.1), (0, .ref (a 0)), (1, .ref (b 0))]) hx hb dX6_readInto_44 hl (k := 3) rfl (by rw [ex12]; rfl) (by decide) rfl (fun ls hl => ?_)
            refine lv_goto (tgt := 11) hx hb dX6_readInto_47 (by decide) ?_
            exact ih11 (x12, td_9, tq_10, v_11) _ _ ls hP hD hS (lv_sub hl [2, 3, 0] rfl) hF
          · refine lv_iload_n hx hb dX6_readInto_42 rfl (lv_at hl 0 rfl) ?_
            refine z_iret (o := o) (o1 := (s11.2.2.1, td_9, tq_10, v_11)) (v := s11.2.2.1) (wf := (fun o => ((wTx cy a tl o.2.1 tn o.2.2.1) ++ (wLn cy b o.2.2.2)))) (rf := fun o => o.1) hx hb hr hlocks hK ?_ ?_ hS ?_ rfl dX6_readInto_43
            · exact hP
            · exact hD
            · exact hF
  exact L11 1000 (0, td, tq_2, o1) _ _ ls hP hD hS (lv_sub hl [1, 2, 0] rfl) hF
