/-! ===== pure: a line told anew ===== -/
/-- all of LR but the voltages -/
def LQ (n t T : Nat) (v : R2) (M : Nat → Int32) : Prop := (1 ≤ n ∧ n ≤ 4) ∧ (v 9 0 = nI n ∧ M 0 = nI n) ∧ (t ≤ 10400 ∧ T ≤ 4 * t ∧ v 9 2 = nI t ∧ M 2 = nI t ∧ v 8 0 = nI T ∧ M 3 = nI T) ∧ (v 9 1 = M 1 ∧ inI (v 9 1) 800 1200) ∧ v 8 1 = M 4 ∧ LG T v M ∧ FR n v M ∧ RG n v ∧ SB v
theorem LR_LQ {n t T : Nat} {v : R2} {M : Nat → Int32} (h : LR n t T v M) : LQ n t T v M := ⟨h.1, h.2.1, h.2.2.1, h.2.2.2.1, h.2.2.2.2.1, h.2.2.2.2.2.1, h.2.2.2.2.2.2.1, h.2.2.2.2.2.2.2.2.1, h.2.2.2.2.2.2.2.2.2⟩
theorem LQ_LR {n t T : Nat} {v w : R2} {M : Nat → Int32} (h : LQ n t T v M) (hC : CR n w) (hw : ∀ r c, ¬ (r < n ∧ 12 ≤ c ∧ c ≤ 14) → w r c = v r c) : LR n t T w M := by
  obtain ⟨h1, ⟨h2, h3⟩, ⟨h4, h5, h6, h7, h8, h9⟩, ⟨h10, h11⟩, h12, ⟨h13, h14⟩, h15, h20, h21⟩ := h
  refine ⟨h1, ⟨by rw [hw 9 0 (by omega)]; exact h2, h3⟩, ⟨h4, h5, by rw [hw 9 2 (by omega)]; exact h6, h7, by rw [hw 8 0 (by omega)]; exact h8, h9⟩, ⟨by rw [hw 9 1 (by omega)]; exact h10, by rw [hw 9 1 (by omega)]; exact h11⟩, by rw [hw 8 1 (by omega)]; exact h12, ⟨h13, fun q hq hT => ?_⟩, fun i hi k hk => ?_, hC, fun i hi => ?_, fun i hi => ?_⟩
  · rw [hw 5 _ (by omega), hw 6 _ (by omega), hw 7 _ (by omega)]
    exact h14 q hq hT
  · rw [hw i k (by omega)]
    exact h15 i hi k hk
  · rw [hw i 0 (by omega), hw i 1 (by omega), hw i 2 (by omega), hw i 3 (by omega), hw i 4 (by omega), hw i 5 (by omega), hw i 6 (by omega), hw i 7 (by omega), hw i 8 (by omega), hw i 9 (by omega), hw i 10 (by omega)]
    exact h20 i hi
  · rw [hw i 11 (by omega)]
    exact h21 i hi
theorem reckon_LR {n t T : Nat} {v : R2} {M : Nat → Int32} (h : LQ n t T v M) : ∃ w, f_X1_reckon v = some w ∧ LR n t T w M := by
  obtain ⟨w, h1, h2, h3⟩ := reckon_eq v h.1.2 h.2.1.1
  exact ⟨w, h1, LQ_LR h h2 h3⟩
theorem pm_inj : ∀ a, a < 12 → ∀ b, b < 12 → pm a = pm b → a = b := by decide
theorem LQ_src {n t T : Nat} {v : R2} {M : Nat → Int32} {x : Int32} (h : LQ n t T v M) (hx : inI x 800 1200) : LQ n t T (z2 v 9 1 x) (upd M 1 x) := by
  obtain ⟨h1, ⟨h2, h3⟩, ⟨h4, h5, h6, h7, h8, h9⟩, ⟨h10, h11⟩, h12, ⟨h13, h14⟩, h15, h20, h21⟩ := h
  refine ⟨h1, ⟨by rw [z2_c (by decide)]; exact h2, by rw [upd_o (by decide)]; exact h3⟩, ⟨h4, h5, by rw [z2_c (by decide)]; exact h6, by rw [upd_o (by decide)]; exact h7, by rw [z2_r (by decide)]; exact h8, by rw [upd_o (by decide)]; exact h9⟩, ⟨by rw [z2_s, upd_s], by rw [z2_s]; exact hx⟩, by rw [z2_r (by decide), upd_o (by decide)]; exact h12, ⟨by rw [upd_o (by decide)]; exact h13, fun q hq hT => ?_⟩, fun i hi k hk => ?_, fun i hi => ?_, fun i hi => ?_⟩
  · rw [z2_r (by decide), z2_r (by decide), z2_r (by decide), upd_o (by omega), upd_o (by omega), upd_o (by omega)]
    exact h14 q hq hT
  · rw [z2_r (by omega), upd_o (by omega)]
    exact h15 i hi k hk
  · simp only [z2_r (show i ≠ 9 by omega)]
    exact h20 i hi
  · rw [z2_r (by omega)]
    exact h21 i hi
theorem LQ_st {n t T : Nat} {v : R2} {M : Nat → Int32} {x : Int32} {i k : Nat} (h : LQ n t T v M) (hi : i < n) (hk : k < 12) (hR : RG n (z2 v i k x)) (hB : SB (z2 v i k x)) : LQ n t T (z2 v i k x) (upd M (6 + 12 * i + pm k) x) := by
  obtain ⟨h1, ⟨h2, h3⟩, ⟨h4, h5, h6, h7, h8, h9⟩, ⟨h10, h11⟩, h12, ⟨h13, h14⟩, h15, h20, h21⟩ := h
  have hp := pm_lt hk
  refine ⟨h1, ⟨by rw [z2_r (by omega)]; exact h2, by rw [upd_o (by omega)]; exact h3⟩, ⟨h4, h5, by rw [z2_r (by omega)]; exact h6, by rw [upd_o (by omega)]; exact h7, by rw [z2_r (by omega)]; exact h8, by rw [upd_o (by omega)]; exact h9⟩, ⟨by rw [z2_r (by omega), upd_o (by omega)]; exact h10, by rw [z2_r (by omega)]; exact h11⟩, by rw [z2_r (by omega), upd_o (by omega)]; exact h12, ⟨by rw [upd_o (by omega)]; exact h13, fun q hq hT => ?_⟩, fun j hj c hc => ?_, hR, hB⟩
  · rw [z2_r (by omega), z2_r (by omega), z2_r (by omega), upd_o (by omega), upd_o (by omega), upd_o (by omega)]
    exact h14 q hq hT
  · have hpc := pm_lt hc
    by_cases e : j = i ∧ c = k
    · obtain ⟨rfl, rfl⟩ := e
      rw [z2_s, upd_s]
    · rw [z2_e, if_neg e, upd_o (fun z => e ?_)]
      · exact h15 j hj c hc
      · have e1 : j = i := by omega
        subst e1
        exact ⟨rfl, pm_inj c hc k hk (by omega)⟩
/-! the relation of all that lasts -/
def RTx (K : Nat) (tl : Nat → Int32) (tn m1 : Int32) (mb : Nat → Int32) : Prop := K ≤ 200 ∧ tn = nI K ∧ m1 = nI K ∧ ∀ k, k < K → tl k = mb k ∧ ∃ c, 32 ≤ c ∧ c ≤ 126 ∧ tl k = nI c
def RR (tl : Nat → Int32) (tn pn pz : Int32) (pl : Nat → R2) (v u : R2) (m1 m2 : Int32) (mb ms mp : Nat → Int32) : Prop := (∃ K, RTx K tl tn m1 mb) ∧ (∃ n t T, t ≤ 9999 ∧ LR n t T v ms) ∧ (∃ P q, RP P q pn pz pl m2 mp) ∧ SB u
theorem byte_small : ∀ k, k < 128 → vp_nar .byte (zi2b (nI k)) = nI k := by decide +kernel
theorem st_write {tl : Nat → Int32} {tn pn pz : Int32} {pl : Nat → R2} {v u : R2} {m1 m2 : Int32} {mb ms mp : Nat → Int32} (h : RR tl tn pn pz pl v u m1 m2 mb ms mp) (x : Int32) : ∃ o o', f_X7_write tl tn x = some o ∧ f_X8_write m1 mb x = some o' ∧ o.1 = o'.1 ∧ RR o.2.1 o.2.2 pn pz pl v u o'.2.2.1 m2 o'.2.2.2 ms mp := by
  obtain ⟨⟨K, k1, rfl, rfl, k4⟩, h2, h3, h4⟩ := h
  unfold f_X7_write f_X8_write f_X8_in f_X6_append
  simp only [zlet_d]
  by_cases c1 : x < 32
  · rw [if_pos c1, if_pos c1, zbd_s, if_pos rfl]
    exact ⟨_, _, rfl, rfl, rfl, ⟨K, k1, rfl, rfl, k4⟩, h2, h3, h4⟩
  · rw [if_neg c1, if_neg c1]
    by_cases c2 : x ≤ 126
    · have c3 : ¬ (126 : Int32) < x := Int32.not_lt.mpr c2
      rw [if_pos c2, if_neg c3, zbd_s, if_neg ne10]
      obtain ⟨c, hc, rfl⟩ := nI_of2 (M := 126) (n := 126) (by decide) (fun q => c1 (Int32.lt_trans q (by decide))) c2
      by_cases hK : K = 200
      · subst hK
        have e1 : ¬ nI 200 < (200 : Int32) := by decide
        have e2 : nI 200 = (200 : Int32) := rfl
        rw [if_neg e1, zbd_s, if_pos rfl, if_pos e2]
        exact ⟨_, _, rfl, rfl, rfl, ⟨200, k1, rfl, rfl, k4⟩, h2, h3, h4⟩
      · have e1 : nI K < (200 : Int32) := nI_lt (b := 200) (by omega) (by decide)
        have e2 : ¬ nI K = (200 : Int32) := fun e => hK ((nI_eq (a := K) (b := 200) (by omega) (by decide)).mp e)
        have e3 : 32 ≤ c := by
          rcases Nat.lt_or_ge c 32 with q | q
          · exact absurd (nI_lt (b := 32) q (by decide)) c1
          · exact q
        rw [if_pos e1, if_neg e2, zin_n (i := K) (n := 200) (by omega) (by decide), zg_t, zg_t, zn_n (i := K) (by omega), zbd_s, if_neg ne10, byte_small c (by omega), nI_1]
        refine ⟨_, _, rfl, rfl, rfl, ⟨K + 1, by omega, rfl, rfl, fun k hk => ?_⟩, h2, h3, h4⟩
        show upd tl K (nI c) k = upd mb K (nI c) k ∧ ∃ c', _ ∧ _ ∧ upd tl K (nI c) k = nI c'
        by_cases hkK : k = K
        · subst hkK
          rw [upd_s, upd_s]
          exact ⟨rfl, c, e3, hc, rfl⟩
        · rw [upd_o hkK, upd_o hkK]
          exact k4 k (by omega)
    · have c3 : (126 : Int32) < x := Int32.not_le.mp c2
      rw [if_neg c2, if_pos c3, zbd_s, if_pos rfl]
      exact ⟨_, _, rfl, rfl, rfl, ⟨K, k1, rfl, rfl, k4⟩, h2, h3, h4⟩
theorem st_wipe {tl : Nat → Int32} {tn pn pz : Int32} {pl : Nat → R2} {v u : R2} {m1 m2 : Int32} {mb ms mp : Nat → Int32} (h : RR tl tn pn pz pl v u m1 m2 mb ms mp) : ∃ o o', f_X7_wipe tn = some o ∧ f_X8_wipe m1 = some o' ∧ o.1 = o'.1 ∧ RR tl o.2 pn pz pl v u o'.2.2 m2 mb ms mp := by
  obtain ⟨⟨K, k1, rfl, rfl, k4⟩, h2, h3, h4⟩ := h
  exact ⟨_, _, rfl, rfl, rfl, ⟨0, by omega, nI_0.symm, nI_0.symm, fun k hk => absurd hk (by omega)⟩, h2, h3, h4⟩
theorem st_source {tl : Nat → Int32} {tn pn pz : Int32} {pl : Nat → R2} {v u : R2} {m1 m2 : Int32} {mb ms mp : Nat → Int32} (h : RR tl tn pn pz pl v u m1 m2 mb ms mp) (x : Int32) : ∃ o o', f_X7_source pn pz pl v x = some o ∧ f_X8_source m2 ms mp x = some o' ∧ o.1 = o'.1 ∧ RR tl tn o.2.1 o.2.2.1 o.2.2.2.1 o.2.2.2.2 u m1 o'.2.2.1 mb o'.2.2.2.1 o'.2.2.2.2 := by
  obtain ⟨h1, ⟨n, t, T, ht, hL⟩, ⟨P, q, hP⟩, h4⟩ := id h
  have z1 : zin 1 114 = true := by decide
  have y1 : zn 1 = 1 := by decide
  unfold f_X7_source f_X8_source f_X8_in
  simp only [zlet_d]
  by_cases c1 : x < 800
  · rw [if_pos c1, if_pos c1, zbd_s, if_pos rfl]
    exact ⟨_, _, rfl, rfl, rfl, h⟩
  · rw [if_neg c1, if_neg c1]
    by_cases c2 : x ≤ 1200
    · have c3 : ¬ (1200 : Int32) < x := Int32.not_lt.mpr c2
      rw [if_pos c2, if_neg c3, zbd_s, if_neg ne10, z1, zg_t, y1, hL.2.2.2.1.1]
      by_cases c4 : ms 1 = x
      · rw [if_pos c4, if_pos c4]
        exact ⟨_, _, rfl, rfl, rfl, h⟩
      · rw [if_neg c4, if_neg c4]
        obtain ⟨o, o', e1, e2, e3⟩ := keep_eq hL ht hP
        have hx : inI x 800 1200 := ⟨Int32.le_iff_toInt_le.mp (Int32.not_lt.mp c1), Int32.le_iff_toInt_le.mp c2⟩
        obtain ⟨w, w1, w2⟩ := reckon_LR (LQ_src (LR_LQ hL) hx)
        rw [e1, e2, zbd_s, zbd_s, zg_t, w1, zbd_s]
        exact ⟨_, _, rfl, rfl, rfl, h1, ⟨n, t, T, ht, w2⟩, ⟨_, _, e3⟩, h4⟩
    · have c3 : (1200 : Int32) < x := Int32.not_le.mp c2
      rw [if_neg c2, if_pos c3, zbd_s, if_pos rfl]
      exact ⟨_, _, rfl, rfl, rfl, h⟩
theorem st_undo {tl : Nat → Int32} {tn pn pz : Int32} {pl : Nat → R2} {v u : R2} {m1 m2 : Int32} {mb ms mp : Nat → Int32} (h : RR tl tn pn pz pl v u m1 m2 mb ms mp) : ∃ o o', f_X7_undo pn pz pl v = some o ∧ f_X8_undo m2 ms mp = some o' ∧ o.1 = o'.1 ∧ RR tl tn o.2.1 o.2.2.1 pl o.2.2.2 u m1 o'.2.2.1 mb o'.2.2.2 mp := by
  obtain ⟨h1, h2, ⟨P, q, hP⟩, h4⟩ := id h
  unfold f_X7_undo f_X8_undo
  simp only [zlet_d]
  rw [hP.2.2.2.1, hP.2.2.2.2.1]
  rcases P with _ | P
  · have e0 : nI 0 = (0 : Int32) := rfl
    rw [if_pos e0, if_pos e0]
    refine ⟨_, _, rfl, rfl, rfl, h1, h2, ⟨0, q, hP.1, hP.2.1, hP.2.2.1, rfl, rfl, fun k hk => absurd hk (by omega)⟩, h4⟩
  · have e0 : ¬ nI (P + 1) = (0 : Int32) := nI_ne0 (by omega) (by have := hP.1; omega)
    rw [if_neg e0, if_neg e0, nI_pred]
    obtain ⟨o, o', n, t, T, a1, a2, a3, a4, a5, a6, a7⟩ := giveBack_eq (v := v) (ms := ms) hP
    have hz : nI (P + 1) = pz := hP.2.2.2.1.symm
    rw [hz, a1, a2, zbd_s]
    exact ⟨_, _, rfl, rfl, a3.trans a4.symm, h1, ⟨n, t, T, a6, a7⟩, ⟨P, _, a5⟩, h4⟩
