/-! ===== pure: the tick ===== -/
theorem RGr_mk {g g' : Nat → Int32} (h : RGr g) (e : ∀ c, c < 7 → g' c = g c) (h7 : inI (g' 7) (-5) 5) (h8 : inI (g' 8) 0 9) (h9 : inI (g' 9) 0 2) (h10 : inI (g' 10) 0 2) : RGr g' := by
  obtain ⟨a0, a1, a2, a3, a4, a5, a6, -, -, -, -⟩ := h
  unfold RGr
  rw [e 0 (by decide), e 1 (by decide), e 2 (by decide), e 3 (by decide), e 4 (by decide), e 5 (by decide), e 6 (by decide)]
  exact ⟨a0, a1, a2, a3, a4, a5, a6, h7, h8, h9, h10⟩
theorem inI_00 : inI 0 0 9 := ⟨by decide, by decide⟩
theorem inI_02 : inI 0 0 2 := ⟨by decide, by decide⟩
theorem wF_rg (g : Nat → Int32) : inI (wF g) 0 2 := by
  rcases wF_in g with h | h | h <;> rw [h] <;> exact ⟨by decide, by decide⟩
theorem RGr_co {g : Nat → Int32} (h : RGr g) (hc : clF g = 0) : RGr (coF g) := by
  have h3 := h.2.2.2.1
  have h8 := h.2.2.2.2.2.2.2.2.1
  have hlt : coF g 8 < g 3 := Classical.byContradiction fun q => by
    unfold clF at hc
    rw [if_neg q] at hc
    exact ne10 hc
  refine RGr_mk h (fun c hc => coF_o g (by omega) (by omega)) ?_ ?_ ?_ ?_
  · rw [coF_o g (by decide) (by decide)]; exact h.2.2.2.2.2.2.2.1
  · have hl := Int32.lt_iff_toInt_lt.mp hlt
    rw [coF_8] at hl ⊢
    by_cases c1 : wF g = 0
    · rw [if_pos c1]; exact inI_00
    · rw [if_neg c1] at hl ⊢
      by_cases c2 : wF g = g 9
      · rw [if_pos c2] at hl ⊢
        have k1 : (1 : Int32).toInt = 1 := by decide
        have := tI_add (x := g 8) (y := 1) (by rw [k1]; unfold inI at h8; omega) (by rw [k1]; unfold inI at h8; omega)
        rw [k1] at this
        unfold inI at h8 h3 ⊢
        omega
      · rw [if_neg c2]; exact ⟨by decide, by decide⟩
  · rw [coF_9]; exact wF_rg g
  · rw [coF_o g (by decide) (by decide)]; exact h.2.2.2.2.2.2.2.2.2.2
theorem RGr_nc {g : Nat → Int32} (h : RGr g) : RGr (upd (upd (coF g) 8 0) 9 0) := by
  refine RGr_mk h (fun c hc => ?_) ?_ ?_ ?_ ?_
  · rw [upd_o (by omega), upd_o (by omega)]; exact coF_o g (by omega) (by omega)
  · rw [upd_o (by decide), upd_o (by decide), coF_o g (by decide) (by decide)]; exact h.2.2.2.2.2.2.2.1
  · rw [upd_o (by decide), upd_s]; exact inI_00
  · rw [upd_s]; exact inI_02
  · rw [upd_o (by decide), upd_o (by decide), coF_o g (by decide) (by decide)]; exact h.2.2.2.2.2.2.2.2.2.2
theorem RGr_can {g : Nat → Int32} (h : RGr g) (hc : ¬ cF g = 0) : RGr (upd (upd (upd (upd (coF g) 7 (coF g 7 + dirF (coF g))) 10 (wF (coF g))) 8 0) 9 0) := by
  refine RGr_mk h (fun c hc => ?_) ?_ ?_ ?_ ?_
  · rw [upd_o (by omega), upd_o (by omega), upd_o (by omega), upd_o (by omega)]; exact coF_o g (by omega) (by omega)
  · rw [upd_o (by decide), upd_o (by decide), upd_o (by decide), upd_s, coF_o g (by decide) (by decide)]
    have h7 := h.2.2.2.2.2.2.2.1
    unfold dirF
    rw [wF_co]
    unfold cF at hc
    by_cases c0 : g 11 = 0
    · rw [if_pos c0] at hc
      by_cases c1 : wF g = 1
      · rw [if_pos c1] at hc ⊢
        have c2 : ¬ 5 ≤ g 7 := fun q => hc (if_pos q)
        have c3 := Int32.lt_iff_toInt_lt.mp (Int32.not_le.mp c2)
        have k5 : (5 : Int32).toInt = 5 := by decide
        have k1 : (1 : Int32).toInt = 1 := by decide
        rw [k5] at c3
        have := tI_add (x := g 7) (y := 1) (by rw [k1]; unfold inI at h7; omega) (by rw [k1]; unfold inI at h7; omega)
        rw [k1] at this
        unfold inI at h7 ⊢
        omega
      · rw [if_neg c1] at hc ⊢
        by_cases c4 : wF g = 2
        · rw [if_pos c4] at hc
          have c2 : ¬ g 7 ≤ -5 := fun q => hc (if_pos q)
          have c3 := Int32.lt_iff_toInt_lt.mp (Int32.not_le.mp c2)
          have k5 : (-5 : Int32).toInt = -5 := by decide
          have k1 : (-1 : Int32).toInt = -1 := by decide
          rw [k5] at c3
          have := tI_add (x := g 7) (y := -1) (by rw [k1]; unfold inI at h7; omega) (by rw [k1]; unfold inI at h7; omega)
          rw [k1] at this
          unfold inI at h7 ⊢
          omega
        · rw [if_neg c4] at hc
          exact absurd rfl hc
    · rw [if_neg c0] at hc
      exact absurd rfl hc
  · rw [upd_o (by decide), upd_s]; exact inI_00
  · rw [upd_s]; exact inI_02
  · rw [upd_o (by decide), upd_o (by decide), upd_s]; exact wF_rg _
theorem tickC_eq {n t T : Nat} {v w : R2} {N : Nat → Int32} (ht : t ≤ 10399) (hT : T ≤ 4 * t) (hq : TQ n t T w N) (hv : RG n v) (hr : ∀ j, j < n → w j = coF (v j)) (hs : SB w) (h91 : inI (w 9 1) 800 1200) (mf mi mo mw mn mk : Nat → Int32) (hmw : ∀ j, j < n → mw j = wF (v j)) (hmn : ∀ j, j < n → mn j = cF (v j)) (hmk : ∀ j, j < n → w 4 j = mk j ∧ (mk j = 0 → clF (v j) = 0)) : ∃ o o' T', zloop b_X1_runTick_63 1000 (0, w) = some o ∧ zloop (b_X8_ticks_14 mf mi mo mw mn mk) 1000 (0, N) = some o' ∧ LR n (t + 1) T' o o'.1 := by
  have hn := hq.1
  refine (zloop_sim b_X1_runTick_63 (b_X8_ticks_14 mf mi mo mw mn mk) n (fun i s s' => s.1 = nI i ∧ s'.1 = nI i ∧ ∃ T', T' ≤ 4 * t + i ∧ TQ n t T' s.2 s'.2 ∧ (∀ j, i ≤ j → j < n → s.2 j = coF (v j)) ∧ (∀ j, j < i → RGr (s.2 j)) ∧ (∀ j, j < n → s.2 4 j = mk j) ∧ SB s.2 ∧ inI (s.2 9 1) 800 1200) (fun r r' => ∃ T', LR n (t + 1) T' r r'.1) ?_ ?_ n 0 1000 1000 (0, w) (0, N) (by omega) (by omega) (by omega) ?_).elim fun r hr => hr.elim fun r' hr => hr.2.2.elim fun T' hT' => ⟨r, r', T', hr.1, hr.2.1, hT'⟩
  · rintro ⟨x, z⟩ ⟨y, M⟩ rc rc' ⟨h1, h2, T', hT', hQ, h3, h4, h5, h6, h7⟩
    dsimp only at h1 h2 hQ h3 h4 h5 h6 h7
    obtain ⟨g1, ⟨g2, g3⟩, ⟨g4, g5, g6, g7⟩, g8, g9, g10, g11⟩ := hQ
    have k2 : zn 2 = 2 := by decide
    have i2 : zin 2 114 = true := by decide
    have hLQ : LQ n (t + 1) T' (z2 z 9 2 (nI (t + 1))) (upd M 2 (nI (t + 1))) := by
      refine ⟨g1, ⟨by rw [z2_c (by decide)]; exact g2, by rw [upd_o (by decide)]; exact g3⟩, ⟨by omega, by omega, z2_s _ _ _ _, upd_s _ _ _, by rw [z2_r (by decide)]; exact g6, by rw [upd_o (by decide)]; exact g7⟩, ⟨by rw [z2_c (by decide), upd_o (by decide)]; exact g8, by rw [z2_c (by decide)]; exact h7⟩, by rw [z2_r (by decide), upd_o (by decide)]; exact g9, ⟨by rw [upd_o (by decide)]; exact g10.1, fun q q1 q2 => ?_⟩, fun j hj c hc => ?_, fun j hj => ?_, fun j hj => ?_⟩
      · rw [z2_r (by decide), z2_r (by decide), z2_r (by decide), upd_o (by omega), upd_o (by omega), upd_o (by omega)]
        exact g10.2 q q1 q2
      · rw [z2_r (by omega), upd_o (by omega)]
        exact g11 j hj c hc
      · rw [z2_row j (by omega)]
        exact h4 j hj
      · rw [z2_r (by omega)]
        exact h6 j hj
    obtain ⟨o, o1, o2⟩ := reckon_LR hLQ
    unfold b_X1_runTick_63 j_X1_runTick_91 b_X8_ticks_14 j_X8_ticks_93
    dsimp only
    rw [if_pos (show z 9 0 ≤ x by rw [g2, h1]; exact Int32.le_refl _), g4, nI_1, zlet_d, o1, zbd_s, z0i, zg_t, z0k, if_pos (show M 0 ≤ y by rw [g3, h2]; exact Int32.le_refl _), i2, zg_t, zg_t, k2, g5, nI_1, zlet_d]
    exact ⟨_, _, rfl, rfl, T', o2⟩
  · rintro i ⟨x, z⟩ ⟨y, M⟩ hi ⟨h1, h2, T', hT', hQ, h3, h4, h5, h6, h7⟩
    dsimp only at h1 h2 hQ h3 h4 h5 h6 h7
    subst h1
    subst h2
    have i4 : i < 4 := by omega
    have zi : z i = coF (v i) := h3 i (Nat.le_refl i) hi
    have hz := hmk i hi
    have hz5 := h5 i hi
    by_cases c1 : mk i = 0
    · refine ⟨(nI (i + 1), z), (nI (i + 1), M), ⟨rfl, rfl, T', by omega, hQ, fun j hj => h3 j (by omega), fun j hj => ?_, h5, h6, h7⟩, fun rc => ?_, fun rc => ?_⟩
      · show RGr (z j)
        by_cases e : j = i
        · subst e; rw [zi]; exact RGr_co (hv j hi) (hz.2 c1)
        · exact h4 j (by omega)
      · unfold b_X1_runTick_63 j_X1_runTick_85
        dsimp only
        rw [if_neg (show ¬ z 9 0 ≤ nI i by rw [hQ.2.1.1]; exact nI_ge hi (by omega)), z4 i4, zg_t, n4 i4, if_pos (hz5.trans c1), zlet_d, nI_1]
      · unfold b_X8_ticks_14 j_X8_ticks_87
        dsimp only
        rw [z0i, zg_t, z0k, if_neg (show ¬ M 0 ≤ nI i by rw [hQ.2.1.2]; exact nI_ge hi (by omega)), z4 i4, zg_t, n4 i4, if_pos c1, zlet_d, nI_1]
    · by_cases c2 : cF (v i) = 0
      · refine ⟨(nI (i + 1), z2 (z2 z i 8 0) i 9 0), (nI (i + 1), upd (upd M (6 + 12 * i + 9) 0) (6 + 12 * i + 10) 0), ⟨rfl, rfl, T', by omega, TQ_st (k := 9) (TQ_st (k := 8) hQ hi (by decide)) hi (by decide), fun j hj hjn => ?_, fun j hj => ?_, fun j hj => ?_, fun j hj => ?_, ?_⟩, fun rc => ?_, fun rc => ?_⟩
        · show z2 (z2 z i 8 0) i 9 0 j = _
          rw [z2_row j (by omega), z2_row j (by omega)]; exact h3 j (by omega) hjn
        · show RGr (z2 (z2 z i 8 0) i 9 0 j)
          by_cases e : j = i
          · subst e
            have : z2 (z2 z j 8 0) j 9 0 j = upd (upd (coF (v j)) 8 0) 9 0 := by
              show va_up _ j _ j = _
              rw [vau_s]
              show upd (va_up z j _ j) 9 0 = _
              rw [vau_s, zi]
            rw [this]
            exact RGr_nc (hv j hi)
          · rw [z2_row j e, z2_row j e]; exact h4 j (by omega)
        · show z2 (z2 z i 8 0) i 9 0 4 j = _
          rw [z2_r (by omega), z2_r (by omega)]; exact h5 j hj
        · exact SB_z2 (SB_z2 h6 (by decide)) (by decide) j hj
        · show inI (z2 (z2 z i 8 0) i 9 0 9 1) _ _
          rw [z2_r (by omega), z2_r (by omega)]; exact h7
        · unfold b_X1_runTick_63 j_X1_runTick_85 f_X1_heedCall j_X1_heedCall_84
          dsimp only
          rw [if_neg (show ¬ z 9 0 ≤ nI i by rw [hQ.2.1.1]; exact nI_ge hi (by omega)), z4 i4, zg_t, n4 i4, if_neg (show ¬ z 4 i = 0 by rw [hz5]; exact c1), zg_t, zi, cF_eq, zbd_s, cF_co, if_pos c2, zlet_d, zlet_d, zbd_s, zlet_d, nI_1]
        · unfold b_X8_ticks_14 j_X8_ticks_71 j_X8_ticks_87
          dsimp only
          rw [z0i, zg_t, z0k, if_neg (show ¬ M 0 ≤ nI i by rw [hQ.2.1.2]; exact nI_ge hi (by omega)), z4 i4, zg_t, zg_t, n4 i4, if_neg c1, hmn i hi, if_pos c2, puts_9 M i4, zbd_s, puts_10 _ i4, zbd_s, zlet_d, nI_1]
      · have wz : wF (z i) = wF (v i) := by rw [zi]; exact wF_co _
        have cz : ¬ cF (z i) = 0 := by rw [zi, cF_co]; exact c2
        obtain ⟨w', N', e1, e2, e3, e4, e5, e6⟩ := heed_eq hQ (by omega) hi mw ((hmw i hi).trans wz.symm) cz (by rw [zi, coF_o _ (by decide) (by decide)]; exact (hv i hi).2.2.2.2.2.2.2.2.2.2)
        refine ⟨(nI (i + 1), w'), (nI (i + 1), upd (upd N' (6 + 12 * i + 9) 0) (6 + 12 * i + 10) 0), ⟨rfl, rfl, T' + 1, by omega, e3, fun j hj hjn => ?_, fun j hj => ?_, fun j hj => ?_, fun j hj => ?_, ?_⟩, fun rc => ?_, fun rc => ?_⟩
        · show w' j = _
          rw [e5 j (by omega) (by omega)]; exact h3 j (by omega) hjn
        · show RGr (w' j)
          by_cases e : j = i
          · subst e
            rw [e4, zi]
            exact RGr_can (hv j hi) c2
          · rw [e5 j (by omega) e]; exact h4 j (by omega)
        · show w' 4 j = _
          rw [e5 4 (by decide) (by omega)]; exact h5 j hj
        · show w' j 11 = 0 ∨ w' j 11 = 1
          by_cases e : j = i
          · subst e
            rw [e4, upd_o (by decide), upd_o (by decide), upd_o (by decide), upd_o (by decide)]
            exact h6 j hj
          · rw [e5 j (by omega) e]; exact h6 j hj
        · show inI (w' 9 1) _ _
          rw [e6]; exact h7
        · unfold b_X1_runTick_63 j_X1_runTick_85
          dsimp only
          rw [if_neg (show ¬ z 9 0 ≤ nI i by rw [hQ.2.1.1]; exact nI_ge hi (by omega)), z4 i4, zg_t, n4 i4, if_neg (show ¬ z 4 i = 0 by rw [hz5]; exact c1), e1, zbd_s, zlet_d, nI_1]
        · have f7 : M (6 + 12 * i + 7) = z i 7 := (hQ.2.2.2.2.2.2 i hi 7 (by decide)).symm
          have hwy : f_X8_way (mw i) = some (dirF (z i)) := by
            have hww : wF (v i) = 1 ∨ wF (v i) = 2 := by
              rcases wF_in (v i) with h | h | h
              · exfalso
                apply c2
                unfold cF
                rw [h]
                split <;> rfl
              · exact Or.inl h
              · exact Or.inr h
            unfold f_X8_way dirF
            rw [hmw i hi, wz]
            rcases hww with h | h <;> rw [h] <;> rfl
          unfold b_X8_ticks_14 j_X8_ticks_71 j_X8_ticks_87
          dsimp only
          rw [z0i, zg_t, z0k, if_neg (show ¬ M 0 ≤ nI i by rw [hQ.2.1.2]; exact nI_ge hi (by omega)), z4 i4, zg_t, zg_t, n4 i4, if_neg c1, hmn i hi, if_neg c2, of_7 M i4, zbd_s, zg_t, hwy, zbd_s, f7, puts_7 M i4, zbd_s, e2, zbd_s, puts_9 N' i4, zbd_s, puts_10 _ i4, zbd_s, zlet_d, nI_1]
  · exact ⟨nI_0.symm, nI_0.symm, T, by omega, hq, fun j _ hj => hr j hj, fun j hj => absurd hj (by omega), fun j hj => (hmk j hj).1, hs, h91⟩
theorem tick1_eq {n t T : Nat} {v : R2} {ms : Nat → Int32} (hL : LR n t T v ms) (ht : t ≤ 10399) (mf mi mo mw mn mk : Nat → Int32) : ∃ w o T', f_X1_runTick v = some w ∧ f_X8_ticks ms mf mi mo mw mn mk = some o ∧ LR n (t + 1) T' w o.1 := by
  obtain ⟨o4, p1, p2⟩ := lays_eq mf mi mo mw mn hL.1 hL.2.1.2 hL.2.2.2.1.1 hL.2.2.2.2.2.2.1 hL.2.2.2.2.2.2.2.1 hL.2.2.2.2.2.2.2.2.1
  obtain ⟨hn, ⟨h2, h3⟩, ⟨h4, h5, h6, h7, h8, h9⟩, ⟨h10, h11⟩, h12, ⟨h13, h14⟩, h15, h16, h20, h21⟩ := hL
  obtain ⟨wA, a1, a2, a3, a4⟩ := runA_eq v hn.2 h2
  obtain ⟨oC, b1, b2, b3⟩ := counts_eq v ms o4.2.2.2.1 mk hn.2 h3 h15 (fun i hi => (p2 i hi).2.2.2.1)
  have wA9 : ∀ c, wA 9 c = v 9 c := fun c => by rw [a3 9 (by omega) (by decide)]
  have oC0 : oC.1 0 = nI n := by rw [b3 0 (fun j _ => by omega)]; exact h3
  obtain ⟨wB, kB, c1, c2, c3, c4⟩ := pass_eq wA oC.1 o4.2.2.2.1 o4.2.2.2.2 oC.2 (fun j => wF (v j)) (fun j => cF (v j)) (fun j => clF (v j)) hn.2 (by rw [wA9]; exact h2) oC0 (fun k hk => ⟨by rw [a2 k hk]; exact wF_co _, by rw [a2 k hk]; exact cF_co _, (p2 k hk).2.2.2.1, (p2 k hk).2.2.2.2⟩) (fun k hk => ⟨(a4 k hk).trans (b2 k hk).2.2.symm, (b2 k hk).2.2⟩)
  have wBo : ∀ j, n ≤ j → j ≠ 4 → wB j = v j := fun j q1 q2 => (c3 j q2).trans (a3 j q1 q2)
  have hQ : TQ n t T wB oC.1 := by
    refine ⟨hn, ⟨by rw [wBo 9 (by omega) (by decide)]; exact h2, oC0⟩, ⟨by rw [wBo 9 (by omega) (by decide)]; exact h6, by rw [b3 2 (fun j _ => by omega)]; exact h7, by rw [wBo 8 (by omega) (by decide)]; exact h8, by rw [b3 3 (fun j _ => by omega)]; exact h9⟩, by rw [wBo 9 (by omega) (by decide), b3 1 (fun j _ => by omega)]; exact h10, by rw [wBo 8 (by omega) (by decide), b3 4 (fun j _ => by omega)]; exact h12, ⟨by rw [b3 5 (fun j _ => by omega)]; exact h13, fun q q1 q2 => ?_⟩, fun j hj k hk => ?_⟩
    · rw [wBo 5 (by omega) (by decide), wBo 6 (by omega) (by decide), wBo 7 (by omega) (by decide), b3 _ (fun j _ => by omega), b3 _ (fun j _ => by omega), b3 _ (fun j _ => by omega)]
      exact h14 q q1 q2
    · rw [c3 j (by omega), a2 j hj]
      by_cases e8 : k = 8
      · subst e8; exact (b2 j hj).1.symm
      · by_cases e9 : k = 9
        · subst e9; rw [coF_9]; exact (b2 j hj).2.1.symm
        · rw [coF_o _ e8 e9]
          have hp := pm_lt hk
          have n1 : pm k ≠ 9 := fun z => e8 (pm_inj k hk 8 (by decide) z)
          have n2 : pm k ≠ 10 := fun z => e9 (pm_inj k hk 9 (by decide) z)
          rw [b3 _ (fun j' _ => by omega)]
          exact h15 j hj k hk
  obtain ⟨o, o', T', q1, q2, q3⟩ := tickC_eq (v := v) ht h5 hQ h20 (fun j hj => by rw [c3 j (by omega)]; exact a2 j hj) (fun j hj => by
    rw [c3 j (by omega)]
    by_cases e : j < n
    · rw [a2 j e, coF_o _ (by decide) (by decide)]; exact h21 j hj
    · rw [a3 j (by omega) (by omega)]; exact h21 j hj) (by rw [wBo 9 (by omega) (by decide)]; exact h11) o4.1 o4.2.1 o4.2.2.1 o4.2.2.2.1 o4.2.2.2.2 kB (fun j hj => (p2 j hj).2.2.2.1) (fun j hj => (p2 j hj).2.2.2.2) c4
  refine ⟨o, o', T', ?_, ?_, q3⟩
  · rw [a1]
    unfold j_X1_runTick_57
    rw [c1, zbd_s]
    exact q1
  · unfold f_X8_ticks
    rw [p1, zbd_s]
    simp only [zlet_d]
    rw [b1, zbd_s, c2, zbd_s]
    exact q2
theorem st_tick {tl : Nat → Int32} {tn pn pz : Int32} {pl : Nat → R2} {v u : R2} {m1 m2 : Int32} {mb ms mp : Nat → Int32} (h : RR tl tn pn pz pl v u m1 m2 mb ms mp) (mf mi mo mw mn mk : Nat → Int32) (x : Int32) : ∃ o o', f_X7_tick pn pz pl v x = some o ∧ f_X8_tick m2 ms mp mf mi mo mw mn mk x = some o' ∧ o.1 = o'.1 ∧ RR tl tn o.2.1 o.2.2.1 o.2.2.2.1 o.2.2.2.2 u m1 o'.2.2.1 mb o'.2.2.2.1 o'.2.2.2.2.1 := by
  obtain ⟨h1, ⟨n, t, T, ht, hL⟩, ⟨P, q, hP⟩, h4⟩ := id h
  have k2 : zn 2 = 2 := by decide
  have i2 : zin 2 114 = true := by decide
  have k3 : zn 3 = 3 := by decide
  have i3 : zin 3 114 = true := by decide
  have v92 := hL.2.2.1.2.2.1
  have m92 := hL.2.2.1.2.2.2.1
  have v80 := hL.2.2.1.2.2.2.2.1
  have m80 := hL.2.2.1.2.2.2.2.2
  unfold f_X7_tick f_X8_tick f_X8_in
  simp only [zlet_d]
  by_cases c1 : x < 1
  · rw [if_pos c1, if_pos c1, zbd_s, if_pos rfl]
    exact ⟨_, _, rfl, rfl, rfl, h⟩
  · rw [if_neg c1, if_neg c1]
    by_cases c2 : x ≤ 50
    · have c3 : ¬ (50 : Int32) < x := Int32.not_lt.mpr c2
      rw [if_pos c2, if_neg c3, zbd_s, if_neg ne10, i2, i3, zg_t, k2, k3, v92, m92]
      obtain ⟨j, hj, rfl⟩ := nI_of2 (M := 50) (n := 50) (by decide) (fun q => c1 (Int32.lt_trans q (by decide))) c2
      rw [nI_add]
      by_cases c4 : nI (t + j) ≤ 9999
      · have hj2 : t + j ≤ 9999 := (nI_leI (a := t + j) (b := 9999) (by omega) (by decide)).mp c4
        rw [if_pos c4, if_pos c4]
        obtain ⟨o, o', e1, e2, e3⟩ := keep_eq hL ht hP
        rw [e1, e2, zbd_s, zbd_s, zg_t, v80, m80]
        obtain ⟨r, r', f1, f2, f3, T', f4, f5, f6, f7⟩ := zloop_sim (b_X7_tick_55 (nI j) o (nI T)) (b_X8_tick_47 (nI j) 0 o' (nI T)) j (fun k s s' => s.1 = nI k ∧ s'.1 = nI k ∧ ∃ T', LR n (t + k) T' s.2 s'.2.1) (fun r r' => r.1 = r'.1 ∧ ∃ T', LR n (t + j) T' r.2.2.2.2 r'.2.2.2.1 ∧ (r.2.1 = o.1 ∧ r.2.2.1 = o.2.1 ∧ r.2.2.2.1 = o.2.2) ∧ r'.2.2.1 = o'.1 ∧ r'.2.2.2.2.1 = o'.2) (by
          rintro ⟨y, z⟩ ⟨y', M, a1, a2, a3, a4, a5, a6⟩ rc rc' ⟨g1, g2, T', g3⟩
          dsimp only at g1 g2 g3
          unfold b_X7_tick_55 j_X7_tick_73 b_X8_tick_47 j_X8_tick_62
          dsimp only
          rw [g1, if_pos (Int32.le_refl _), g2, if_pos (Int32.le_refl _), i3, zg_t, k3, g3.2.2.1.2.2.2.2.1, g3.2.2.1.2.2.2.2.2]
          exact ⟨_, _, rfl, rfl, rfl, T', g3, ⟨rfl, rfl, rfl⟩, rfl, rfl⟩) (by
          rintro k ⟨y, z⟩ ⟨y', M, a1, a2, a3, a4, a5, a6⟩ hk ⟨g1, g2, T', g3⟩
          dsimp only at g1 g2 g3
          subst g1
          subst g2
          obtain ⟨w, oo, T2, d1, d2, d3⟩ := tick1_eq g3 (by omega) a1 a2 a3 a4 a5 a6
          refine ⟨(nI (k + 1), w), (nI (k + 1), oo), ⟨rfl, rfl, T2, d3⟩, fun rc => ?_, fun rc => ?_⟩
          · unfold b_X7_tick_55
            dsimp only
            rw [if_neg (nI_ge hk (by omega)), d1, zbd_s, zlet_d, nI_1]
          · unfold b_X8_tick_47
            dsimp only
            rw [if_neg (nI_ge hk (by omega)), d2, zbd_s]
            simp only [zlet_d]
            rw [nI_1]) j 0 1000 1000 (0, v) (0, ms, mf, mi, mo, mw, mn, mk) (by omega) (by omega) (by omega) ⟨nI_0.symm, nI_0.symm, T, hL⟩
        refine ⟨r, r', f1, f2, f3, ?_⟩
        rw [f5.1, f5.2.1, f5.2.2, f6, f7]
        exact ⟨h1, ⟨n, t + j, T', hj2, f4⟩, ⟨_, _, e3⟩, h4⟩
      · rw [if_neg c4, if_neg c4]
        exact ⟨_, _, rfl, rfl, rfl, h⟩
    · have c3 : (50 : Int32) < x := Int32.not_le.mp c2
      rw [if_neg c2, if_pos c3, zbd_s, if_pos rfl]
      exact ⟨_, _, rfl, rfl, rfl, h⟩
