/-! ===== 19.jdk: laid by a program out of the decode rows ===== -/
def j_J3_checkIndex_8e157_9 : Option (Int32) :=
none
def f_J3_checkIndex_8e157 (x01 : Int32) (x02 : Int32) : Option (Int32) :=
if x01 < 0 then (
j_J3_checkIndex_8e157_9) else (
if x01 < x02 then (
some x01) else (
j_J3_checkIndex_8e157_9))
set_option maxHeartbeats 4000000 in
set_option maxRecDepth 100000 in
theorem c_J3_checkIndex_8e157 (l : Launch) (G : va_G) (cy : Nat → ClassId) (st : Nat → Nat) (x01 : Int32) (x02 : Int32) (o : Int32) (hF : f_J3_checkIndex_8e157 x01 x02 = some o) : zMi l yJ3_checkIndex_8e157 wsJ3_checkIndex_8e157 (zR 1) G cy st [.int x01, .int x02, .null] ([] : va_W) ([] : va_W) o := by
  refine zM_of (cc := cJ3_checkIndex_8e157) (maxL := 3) (ret := (some .int)) (Qc := fun A => zQi G cy A ([] : va_W) o) (by decide) rfl (Nat.le_of_ble_eq_true rfl) ?_
  intro p e s m below meth c A ls hx hb hml hr hlocks hown hts hK hSE hA hP hD hS hl
  have hown : s.vm.findClass RJ3 = some m.cls := hown
  have hl : lv_has ls 3 [(0, .int x01), (1, .int x02), (2, .null)] := hl
  unfold f_J3_checkIndex_8e157 at hF
  refine lv_iload_n hx hb dJ3_checkIndex_8e157_0 rfl (lv_at hl 0 rfl) ?_
  have J9 : ∀ (H : Heap) (locs : List Loc) (ls : Array Slot), va_P G vwCl ([] : va_W) H → va_D A ([] : va_W) → va_S A s.heap H locs → lv_has ls 3 [(0, .int x01), (1, .int x02), (2, .null)] → j_J3_checkIndex_8e157_9 = some o → W p l e (zR 1) s m ([.int x01, .int x02, .null] : List Value).toArray below meth c H locs 0 0 (MQ below (zQi G cy A ([] : va_W) o) ([.int x01, .int x02, .null] : List Value).toArray s 0 0 A) (F0 m 9 ls []) := by
    intro H locs ls hP hD hS hl hF
    unfold j_J3_checkIndex_8e157_9 at hF
    exact absurd hF (fun h => nomatch h)
  refine zf_lt (tgt := 9) hx hb hF dJ3_checkIndex_8e157_1 (by decide) (fun hF => ?_) (fun hF => ?_)
  · exact J9 _ _ ls hP hD hS (lv_sub hl [0, 1, 2] rfl) hF
  · refine lv_iload_n hx hb dJ3_checkIndex_8e157_4 rfl (lv_at hl 0 rfl) ?_
    refine lv_iload_n hx hb dJ3_checkIndex_8e157_5 rfl (lv_at hl 1 rfl) ?_
    refine zi_lt (tgt := 16) hx hb hF dJ3_checkIndex_8e157_6 (by decide) (fun hF => ?_) (fun hF => ?_)
    · refine lv_iload_n hx hb dJ3_checkIndex_8e157_16 rfl (lv_at hl 0 rfl) ?_
      refine z_iret (o := o) (o1 := x01) (v := x01) (wf := (fun o => ([] : va_W))) (rf := fun o => o) hx hb hr hlocks hK ?_ ?_ hS ?_ rfl dJ3_checkIndex_8e157_17
      · exact hP
      · exact hD
      · exact hF
    · exact J9 _ _ ls hP hD hS (lv_sub hl [0, 1, 2] rfl) hF
set_option maxHeartbeats 4000000 in
set_option maxRecDepth 100000 in
theorem c_J3_checkIndex_8e157_r (l : Launch) (G : va_G) (cy : Nat → ClassId) (st : Nat → Nat) (tz : Nat) (x01 : Int32) (x02 : Int32) (o : Int32) (hF : f_J3_checkIndex_8e157 x01 x02 = some o) : zMi l yJ3_checkIndex_8e157 wsJ3_checkIndex_8e157 (zR 1) G cy st [.int x01, .int x02, .ref tz] ([] : va_W) ([] : va_W) o := by
  refine zM_of (cc := cJ3_checkIndex_8e157) (maxL := 3) (ret := (some .int)) (Qc := fun A => zQi G cy A ([] : va_W) o) (by decide) rfl (Nat.le_of_ble_eq_true rfl) ?_
  intro p e s m below meth c A ls hx hb hml hr hlocks hown hts hK hSE hA hP hD hS hl
  have hown : s.vm.findClass RJ3 = some m.cls := hown
  have hl : lv_has ls 3 [(0, .int x01), (1, .int x02), (2, .ref tz)] := hl
  unfold f_J3_checkIndex_8e157 at hF
  refine lv_iload_n hx hb dJ3_checkIndex_8e157_0 rfl (lv_at hl 0 rfl) ?_
  have J9 : ∀ (H : Heap) (locs : List Loc) (ls : Array Slot), va_P G vwCl ([] : va_W) H → va_D A ([] : va_W) → va_S A s.heap H locs → lv_has ls 3 [(0, .int x01), (1, .int x02), (2, .ref tz)] → j_J3_checkIndex_8e157_9 = some o → W p l e (zR 1) s m ([.int x01, .int x02, .ref tz] : List Value).toArray below meth c H locs 0 0 (MQ below (zQi G cy A ([] : va_W) o) ([.int x01, .int x02, .ref tz] : List Value).toArray s 0 0 A) (F0 m 9 ls []) := by
    intro H locs ls hP hD hS hl hF
    unfold j_J3_checkIndex_8e157_9 at hF
    exact absurd hF (fun h => nomatch h)
  refine zf_lt (tgt := 9) hx hb hF dJ3_checkIndex_8e157_1 (by decide) (fun hF => ?_) (fun hF => ?_)
  · exact J9 _ _ ls hP hD hS (lv_sub hl [0, 1, 2] rfl) hF
  · refine lv_iload_n hx hb dJ3_checkIndex_8e157_4 rfl (lv_at hl 0 rfl) ?_
    refine lv_iload_n hx hb dJ3_checkIndex_8e157_5 rfl (lv_at hl 1 rfl) ?_
    refine zi_lt (tgt := 16) hx hb hF dJ3_checkIndex_8e157_6 (by decide) (fun hF => ?_) (fun hF => ?_)
    · refine lv_iload_n hx hb dJ3_checkIndex_8e157_16 rfl (lv_at hl 0 rfl) ?_
      refine z_iret (o := o) (o1 := x01) (v := x01) (wf := (fun o => ([] : va_W))) (rf := fun o => o) hx hb hr hlocks hK ?_ ?_ hS ?_ rfl dJ3_checkIndex_8e157_17
      · exact hP
      · exact hD
      · exact hF
    · exact J9 _ _ ls hP hD hS (lv_sub hl [0, 1, 2] rfl) hF
def f_J0_checkIndex_df160 (x01 : Int32) (x02 : Int32) : Option (Unit) :=
zbd (f_J3_checkIndex_8e157 x01 x02) fun o1 =>
some ()
set_option maxHeartbeats 4000000 in
set_option maxRecDepth 100000 in
theorem c_J0_checkIndex_df160 (l : Launch) (G : va_G) (cy : Nat → ClassId) (st : Nat → Nat) (x01 : Int32) (x02 : Int32) (o : Unit) (hF : f_J0_checkIndex_df160 x01 x02 = some o) : zMv l yJ0_checkIndex_df160 wsJ0_checkIndex_df160 (zR 2) G cy st [.int x01, .int x02] ([] : va_W) ([] : va_W) := by
  refine zM_of (cc := cJ0_checkIndex_df160) (maxL := 2) (ret := none) (Qc := fun A => zQv G cy A ([] : va_W)) (by decide) rfl (Nat.le_of_ble_eq_true rfl) ?_
  intro p e s m below meth c A ls hx hb hml hr hlocks hown hts hK hSE hA hP hD hS hl
  have hown : s.vm.findClass RJ0 = some m.cls := hown
  have hl : lv_has ls 2 [(0, .int x01), (1, .int x02)] := hl
  have k1053 := hts (.fieldLink RJ0 1053 "jdk/internal/util/Preconditions" "SIOOBE_FORMATTER" "Ljava/util/function/BiFunction;") (by decide +kernel)
  unfold f_J0_checkIndex_df160 at hF
  rcases hSE.2.2.2.2.1.2 with hZ | ⟨tz, hZ⟩
  · refine lv_iload_n hx hb dJ0_checkIndex_df160_0 rfl (lv_at hl 0 rfl) ?_
    refine lv_iload_n hx hb dJ0_checkIndex_df160_1 rfl (lv_at hl 1 rfl) ?_
    refine va_gets hx hb hZ hS hown k1053 (fun _ h9 => h9) dJ0_checkIndex_df160_2 ?_
    refine z_cSi (As := [.int x01, .int x02, .null]) (rest := []) (wc := ([] : va_W)) (wcf := fun o' => ([] : va_W)) (wf := fun o' => ([] : va_W)) (rf := fun o' => o') hF (fun o' hz => c_J3_checkIndex_8e157 l G cy st x01 x02 o' hz) (fun o' => zCut_nil) ⟨hx, hb, hml, hown, hts⟩ (va_cwS 3 hts gJ0_checkIndex_df160_J3_checkIndex_8e157 rfl rfl rfl (by decide +kernel) ⟨by decide, by decide⟩) hK hSE hA hP hD hS rfl hl.1 rfl (Nat.le_of_ble_eq_true rfl) dJ0_checkIndex_df160_5 ⟨Nat.le_refl _, Nat.le_refl _⟩ (fun o1 hF H locs hP hD hS => ?_)
    refine lv_pop hx hb dJ0_checkIndex_df160_8 rfl ?_
    refine z_vret (o := o) (o1 := ()) (wf := (fun o => ([] : va_W))) hx hb hr hlocks hK ?_ ?_ hS ?_ dJ0_checkIndex_df160_9
    · exact hP
    · exact hD
    · exact hF
  · refine lv_iload_n hx hb dJ0_checkIndex_df160_0 rfl (lv_at hl 0 rfl) ?_
    refine lv_iload_n hx hb dJ0_checkIndex_df160_1 rfl (lv_at hl 1 rfl) ?_
    refine va_gets hx hb hZ hS hown k1053 (fun _ h9 => h9) dJ0_checkIndex_df160_2 ?_
    refine z_cSi (As := [.int x01, .int x02, .ref tz]) (rest := []) (wc := ([] : va_W)) (wcf := fun o' => ([] : va_W)) (wf := fun o' => ([] : va_W)) (rf := fun o' => o') hF (fun o' hz => c_J3_checkIndex_8e157_r l G cy st tz x01 x02 o' hz) (fun o' => zCut_nil) ⟨hx, hb, hml, hown, hts⟩ (va_cwS 3 hts gJ0_checkIndex_df160_J3_checkIndex_8e157 rfl rfl rfl (by decide +kernel) ⟨by decide, by decide⟩) hK hSE hA hP hD hS rfl hl.1 rfl (Nat.le_of_ble_eq_true rfl) dJ0_checkIndex_df160_5 ⟨Nat.le_refl _, Nat.le_refl _⟩ (fun o1 hF H locs hP hD hS => ?_)
    refine lv_pop hx hb dJ0_checkIndex_df160_8 rfl ?_
    refine z_vret (o := o) (o1 := ()) (wf := (fun o => ([] : va_W))) hx hb hr hlocks hK ?_ ?_ hS ?_ dJ0_checkIndex_df160_9
    · exact hP
    · exact hD
    · exact hF
def f_J1_charAt_3b067 (x01 : Int32) : Option (Int32) :=
zbd (f_J0_checkIndex_df160 x01 89) fun o1 =>
zg (zin x01 89) (
some (zi2c ((zFT.getD (zn x01) 0) &&& 255)))
set_option maxHeartbeats 4000000 in
set_option maxRecDepth 100000 in
theorem c_J1_charAt_3b067 (l : Launch) (G : va_G) (cy : Nat → ClassId) (st : Nat → Nat) (x01 : Int32) (o : Int32) (hF : f_J1_charAt_3b067 x01 = some o) : zMi l yJ1_charAt_3b067 wsJ1_charAt_3b067 (zR 3) G cy st [.ref (st 3), .int x01] ([] : va_W) ([] : va_W) o := by
  refine zM_of (cc := cJ1_charAt_3b067) (maxL := 2) (ret := (some .char)) (Qc := fun A => zQi G cy A ([] : va_W) o) (by decide) rfl (Nat.le_of_ble_eq_true rfl) ?_
  intro p e s m below meth c A ls hx hb hml hr hlocks hown hts hK hSE hA hP hD hS hl
  have hown : s.vm.findClass RJ1 = some m.cls := hown
  have hl : lv_has ls 2 [(0, .ref (st 3)), (1, .int x01)] := hl
  unfold f_J1_charAt_3b067 at hF
  refine lv_iload_n hx hb dJ1_charAt_3b067_0 rfl (lv_at hl 1 rfl) ?_
  refine lv_aload_n hx hb dJ1_charAt_3b067_1 rfl (lv_at hl 0 rfl) ?_
  refine va_tlen (N := 89) (v := 89) hx hb hSE.2.2.2.1.2.2.2 hS (by decide) dJ1_charAt_3b067_2 ?_
  refine z_cSv (As := [.int x01, .int 89]) (rest := []) (wc := ([] : va_W)) (wcf := fun o' => ([] : va_W)) (wf := fun o' => ([] : va_W)) hF (fun o' hz => c_J0_checkIndex_df160 l G cy st x01 89 o' hz) (fun o' => zCut_nil) ⟨hx, hb, hml, hown, hts⟩ (va_cwS 2 hts gJ1_charAt_3b067_J0_checkIndex_df160 rfl rfl rfl (by decide +kernel) ⟨by decide, by decide⟩) hK hSE hA hP hD hS rfl hl.1 rfl (Nat.le_of_ble_eq_true rfl) dJ1_charAt_3b067_3 ⟨Nat.le_refl _, Nat.le_refl _⟩ (fun o1 hF H locs hP hD hS => ?_)
  refine lv_aload_n hx hb dJ1_charAt_3b067_6 rfl (lv_at hl 0 rfl) ?_
  refine lv_iload_n hx hb dJ1_charAt_3b067_7 rfl (lv_at hl 1 rfl) ?_
  obtain ⟨g2, hF⟩ := zg_some hF
  refine va_tb (N := 89) (v := .int (zFT.getD (zn x01) 0)) hx hb hSE.2.2.2.1.2.2.2 hS (zin_in g2) rfl dJ1_charAt_3b067_8 ?_
  refine lv_sipush (v := 255) hx hb dJ1_charAt_3b067_9 (by decide) ?_
  refine lv_iand hx hb dJ1_charAt_3b067_12 ?_
  refine lv_i2c (v := (zi2c ((zFT.getD (zn x01) 0) &&& 255))) hx hb dJ1_charAt_3b067_13 rfl ?_
  refine z_nret (o := o) (o1 := (zi2c ((zFT.getD (zn x01) 0) &&& 255))) (v := (zi2c ((zFT.getD (zn x01) 0) &&& 255))) (wf := (fun o => ([] : va_W))) (rf := fun o => o) hx hb hr hlocks hK ?_ ?_ hS ?_ rfl (pk_nc _) dJ1_charAt_3b067_14
  · exact hP
  · exact hD
  · exact hF
def f_J0_coder_7d493 : Option (Int32) :=
if (1 : Int32) = 0 then (
some 1) else (
some 0)
set_option maxHeartbeats 4000000 in
set_option maxRecDepth 100000 in
theorem c_J0_coder_7d493 (l : Launch) (G : va_G) (cy : Nat → ClassId) (st : Nat → Nat) (o : Int32) (hF : f_J0_coder_7d493 = some o) : zMi l yJ0_coder_7d493 wsJ0_coder_7d493 (zR 1) G cy st [.ref (st 2)] ([] : va_W) ([] : va_W) o := by
  refine zM_of (cc := cJ0_coder_7d493) (maxL := 1) (ret := (some .byte)) (Qc := fun A => zQi G cy A ([] : va_W) o) (by decide) rfl (Nat.le_of_ble_eq_true rfl) ?_
  intro p e s m below meth c A ls hx hb hml hr hlocks hown hts hK hSE hA hP hD hS hl
  have hown : s.vm.findClass RJ0 = some m.cls := hown
  have hl : lv_has ls 1 [(0, .ref (st 2))] := hl
  have k38 := hts (.fieldLink RJ0 38 "java/lang/String" "COMPACT_STRINGS" "Z") (by decide +kernel)
  have k15 := hts (.fieldLink RJ0 15 "java/lang/String" "coder" "B") (by decide +kernel)
  unfold f_J0_coder_7d493 at hF
  refine va_gets hx hb hSE.2.2.2.2.1.1 hS hown k38 (fun _ h9 => h9) dJ0_coder_7d493_0 ?_
  refine zf_eq (tgt := 13) hx hb hF dJ0_coder_7d493_3 (by decide) (fun hF => ?_) (fun hF => ?_)
  · refine lv_iconst (v := 1) hx hb dJ0_coder_7d493_13 (by decide) ?_
    refine z_nret (o := o) (o1 := 1) (v := 1) (wf := (fun o => ([] : va_W))) (rf := fun o => o) hx hb hr hlocks hK ?_ ?_ hS ?_ rfl rfl dJ0_coder_7d493_14
    · exact hP
    · exact hD
    · exact hF
  · refine lv_aload_n hx hb dJ0_coder_7d493_6 rfl (lv_at hl 0 rfl) ?_
    refine vk_getf hx hb hSE.2.2.2.1.2.1 hS hown k15 (fun _ h9 => h9) dJ0_coder_7d493_7 ?_
    refine lv_goto (tgt := 14) hx hb dJ0_coder_7d493_10 (by decide) ?_
    refine z_nret (o := o) (o1 := 0) (v := 0) (wf := (fun o => ([] : va_W))) (rf := fun o => o) hx hb hr hlocks hK ?_ ?_ hS ?_ rfl rfl dJ0_coder_7d493_14
    · exact hP
    · exact hD
    · exact hF
def f_J0_isLatin1_aae02 : Option (Int32) :=
if (1 : Int32) = 0 then (
some 0) else (
if (0 : Int32) = 0 then (
some 1) else (
some 0))
set_option maxHeartbeats 4000000 in
set_option maxRecDepth 100000 in
theorem c_J0_isLatin1_aae02 (l : Launch) (G : va_G) (cy : Nat → ClassId) (st : Nat → Nat) (o : Int32) (hF : f_J0_isLatin1_aae02 = some o) : zMi l yJ0_isLatin1_aae02 wsJ0_isLatin1_aae02 (zR 1) G cy st [.ref (st 2)] ([] : va_W) ([] : va_W) o := by
  refine zM_of (cc := cJ0_isLatin1_aae02) (maxL := 1) (ret := (some .boolean)) (Qc := fun A => zQi G cy A ([] : va_W) o) (by decide) rfl (Nat.le_of_ble_eq_true rfl) ?_
  intro p e s m below meth c A ls hx hb hml hr hlocks hown hts hK hSE hA hP hD hS hl
  have hown : s.vm.findClass RJ0 = some m.cls := hown
  have hl : lv_has ls 1 [(0, .ref (st 2))] := hl
  have k38 := hts (.fieldLink RJ0 38 "java/lang/String" "COMPACT_STRINGS" "Z") (by decide +kernel)
  have k15 := hts (.fieldLink RJ0 15 "java/lang/String" "coder" "B") (by decide +kernel)
  unfold f_J0_isLatin1_aae02 at hF
  refine va_gets hx hb hSE.2.2.2.2.1.1 hS hown k38 (fun _ h9 => h9) dJ0_isLatin1_aae02_0 ?_
  refine zf_eq (tgt := 17) hx hb hF dJ0_isLatin1_aae02_3 (by decide) (fun hF => ?_) (fun hF => ?_)
  · refine lv_iconst (v := 0) hx hb dJ0_isLatin1_aae02_17 (by decide) ?_
    refine z_zret (o := o) (o1 := 0) (v := 0) (wf := (fun o => ([] : va_W))) (rf := fun o => o) hx hb hr hlocks hK ?_ ?_ hS ?_ rfl rfl dJ0_isLatin1_aae02_18
    · exact hP
    · exact hD
    · exact hF
  · refine lv_aload_n hx hb dJ0_isLatin1_aae02_6 rfl (lv_at hl 0 rfl) ?_
    refine vk_getf hx hb hSE.2.2.2.1.2.1 hS hown k15 (fun _ h9 => h9) dJ0_isLatin1_aae02_7 ?_
    refine zf_ne (tgt := 17) hx hb hF dJ0_isLatin1_aae02_10 (by decide) (fun hF => ?_) (fun hF => ?_)
    · refine lv_iconst (v := 0) hx hb dJ0_isLatin1_aae02_17 (by decide) ?_
      refine z_zret (o := o) (o1 := 0) (v := 0) (wf := (fun o => ([] : va_W))) (rf := fun o => o) hx hb hr hlocks hK ?_ ?_ hS ?_ rfl rfl dJ0_isLatin1_aae02_18
      · exact hP
      · exact hD
      · exact hF
    · refine lv_iconst (v := 1) hx hb dJ0_isLatin1_aae02_13 (by decide) ?_
      refine lv_goto (tgt := 18) hx hb dJ0_isLatin1_aae02_14 (by decide) ?_
      refine z_zret (o := o) (o1 := 1) (v := 1) (wf := (fun o => ([] : va_W))) (rf := fun o => o) hx hb hr hlocks hK ?_ ?_ hS ?_ rfl rfl dJ0_isLatin1_aae02_18
      · exact hP
      · exact hD
      · exact hF
def f_J0_length_8abf5 : Option (Int32) :=
zbd (f_J0_coder_7d493) fun o1 =>
some (89 >>> (o1 &&& 31))
set_option maxHeartbeats 4000000 in
set_option maxRecDepth 100000 in
theorem c_J0_length_8abf5 (l : Launch) (G : va_G) (cy : Nat → ClassId) (st : Nat → Nat) (o : Int32) (hF : f_J0_length_8abf5 = some o) : zMi l yJ0_length_8abf5 wsJ0_length_8abf5 (zR 2) G cy st [.ref (st 2)] ([] : va_W) ([] : va_W) o := by
  refine zM_of (cc := cJ0_length_8abf5) (maxL := 1) (ret := (some .int)) (Qc := fun A => zQi G cy A ([] : va_W) o) (by decide) rfl (Nat.le_of_ble_eq_true rfl) ?_
  intro p e s m below meth c A ls hx hb hml hr hlocks hown hts hK hSE hA hP hD hS hl
  have hown : s.vm.findClass RJ0 = some m.cls := hown
  have hl : lv_has ls 1 [(0, .ref (st 2))] := hl
  have k9 := hts (.fieldLink RJ0 9 "java/lang/String" "value" "[B") (by decide +kernel)
  unfold f_J0_length_8abf5 at hF
  refine lv_aload_n hx hb dJ0_length_8abf5_0 rfl (lv_at hl 0 rfl) ?_
  refine vk_getf hx hb hSE.2.2.2.1.2.2.1 hS hown k9 (fun _ h9 => h9) dJ0_length_8abf5_1 ?_
  refine va_tlen (N := 89) (v := 89) hx hb hSE.2.2.2.1.2.2.2 hS (by decide) dJ0_length_8abf5_4 ?_
  refine lv_aload_n hx hb dJ0_length_8abf5_5 rfl (lv_at hl 0 rfl) ?_
  refine z_cWi (b := st 2) (As := []) (rest := [.int 89]) (wc := ([] : va_W)) (wcf := fun o' => ([] : va_W)) (wf := fun o' => ([] : va_W)) (rf := fun o' => o') hF (fun o' hz => c_J0_coder_7d493 l G cy st  o' hz) (fun o' => zCut_nil) ⟨hx, hb, hml, hown, hts⟩ (cwV 0 hts gJ0_length_8abf5_J0_coder_7d493 rfl rfl rfl (by decide +kernel) ⟨by decide, by decide⟩) (C := RJ0) (by obtain ⟨cell, h1, h2, h3, -⟩ := hSE.2.2.2.1.1.kept hS.2.1; exact ⟨cell, h1, h2, h3⟩) hK hSE hA hP hD hS rfl hl.1 rfl (Nat.le_of_ble_eq_true rfl) dJ0_length_8abf5_6 ⟨Nat.le_refl _, Nat.le_refl _⟩ (fun o1 hF H locs hP hD hS => ?_)
  refine lv_ishr hx hb dJ0_length_8abf5_9 ?_
  refine z_iret (o := o) (o1 := (89 >>> (o1 &&& 31))) (v := (89 >>> (o1 &&& 31))) (wf := (fun o => ([] : va_W))) (rf := fun o => o) hx hb hr hlocks hK ?_ ?_ hS ?_ rfl dJ0_length_8abf5_10
  · exact hP
  · exact hD
  · exact hF
def f_J0_charAt_5068e (x01 : Int32) : Option (Int32) :=
zbd (f_J0_isLatin1_aae02) fun o1 =>
if o1 = 0 then (
none) else (
zbd (f_J1_charAt_3b067 x01) fun o2 =>
zg (decide (zi2c o2 = o2)) (some o2))
set_option maxHeartbeats 4000000 in
set_option maxRecDepth 100000 in
theorem c_J0_charAt_5068e (l : Launch) (G : va_G) (cy : Nat → ClassId) (st : Nat → Nat) (x01 : Int32) (o : Int32) (hF : f_J0_charAt_5068e x01 = some o) : zMi l yJ0_charAt_5068e wsJ0_charAt_5068e (zR 4) G cy st [.ref (st 2), .int x01] ([] : va_W) ([] : va_W) o := by
  refine zM_of (cc := cJ0_charAt_5068e) (maxL := 2) (ret := (some .char)) (Qc := fun A => zQi G cy A ([] : va_W) o) (by decide) rfl (Nat.le_of_ble_eq_true rfl) ?_
  intro p e s m below meth c A ls hx hb hml hr hlocks hown hts hK hSE hA hP hD hS hl
  have hown : s.vm.findClass RJ0 = some m.cls := hown
  have hl : lv_has ls 2 [(0, .ref (st 2)), (1, .int x01)] := hl
  have k9 := hts (.fieldLink RJ0 9 "java/lang/String" "value" "[B") (by decide +kernel)
  unfold f_J0_charAt_5068e at hF
  refine lv_aload_n hx hb dJ0_charAt_5068e_0 rfl (lv_at hl 0 rfl) ?_
  refine z_cWi (b := st 2) (As := []) (rest := []) (wc := ([] : va_W)) (wcf := fun o' => ([] : va_W)) (wf := fun o' => ([] : va_W)) (rf := fun o' => o') hF (fun o' hz => c_J0_isLatin1_aae02 l G cy st  o' hz) (fun o' => zCut_nil) ⟨hx, hb, hml, hown, hts⟩ (cwV 0 hts gJ0_charAt_5068e_J0_isLatin1_aae02 rfl rfl rfl (by decide +kernel) ⟨by decide, by decide⟩) (C := RJ0) (by obtain ⟨cell, h1, h2, h3, -⟩ := hSE.2.2.2.1.1.kept hS.2.1; exact ⟨cell, h1, h2, h3⟩) hK hSE hA hP hD hS rfl hl.1 rfl (Nat.le_of_ble_eq_true rfl) dJ0_charAt_5068e_1 ⟨Nat.le_refl _, Nat.le_refl _⟩ (fun o1 hF H locs hP hD hS => ?_)
  refine zf_eq (tgt := 16) hx hb hF dJ0_charAt_5068e_4 (by decide) (fun hF => ?_) (fun hF => ?_)
  · exact absurd hF (fun h => nomatch h)
  · refine lv_aload_n hx hb dJ0_charAt_5068e_7 rfl (lv_at hl 0 rfl) ?_
    refine vk_getf hx hb hSE.2.2.2.1.2.2.1 hS hown k9 (fun _ h9 => h9) dJ0_charAt_5068e_8 ?_
    refine lv_iload_n hx hb dJ0_charAt_5068e_11 rfl (lv_at hl 1 rfl) ?_
    refine z_cSi (As := [.ref (st 3), .int x01]) (rest := []) (wc := ([] : va_W)) (wcf := fun o' => ([] : va_W)) (wf := fun o' => ([] : va_W)) (rf := fun o' => o') hF (fun o' hz => c_J1_charAt_3b067 l G cy st x01 o' hz) (fun o' => zCut_nil) ⟨hx, hb, hml, hown, hts⟩ (va_cwS 2 hts gJ0_charAt_5068e_J1_charAt_3b067 rfl rfl rfl (by decide +kernel) ⟨by decide, by decide⟩) hK hSE hA hP hD hS rfl hl.1 rfl (Nat.le_of_ble_eq_true rfl) dJ0_charAt_5068e_12 ⟨Nat.le_refl _, Nat.le_refl _⟩ (fun o2 hF H locs hP hD hS => ?_)
    obtain ⟨g3, hF⟩ := zg_some hF
    refine z_nret (o := o) (o1 := o2) (v := o2) (wf := (fun o => ([] : va_W))) (rf := fun o => o) hx hb hr hlocks hK ?_ ?_ hS ?_ rfl (zi2c_n g3) dJ0_charAt_5068e_15
    · exact hP
    · exact hD
    · exact hF
