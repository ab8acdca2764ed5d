/-! ===== pure: bringing back, being a stage ===== -/
theorem giveBack_eq {v : R2} {ms : Nat → Int32} {P q : Nat} {pn pz : Int32} {pl : Nat → R2} {m2 : Int32} {mp : Nat → Int32} (hp : RP (P + 1) q pn pz pl m2 mp) : ∃ o o' n t T, f_X2_giveBack pn pz pl v = some o ∧ zloop (b_X8_undo_27 mp 0 (nI P)) 1000 (0, ms) = some o' ∧ o.2.1 = nI P ∧ o'.1 = nI P ∧ RP P ((q + 5) % 6) o.1 o.2.1 pl o'.2.2.1 mp ∧ t ≤ 9999 ∧ LR n t T o.2.2 o'.2.2.2 := by
  obtain ⟨p1, p2, rfl, rfl, rfl, p6⟩ := hp
  obtain ⟨n, t, T, ht, hL⟩ := p6 P (by omega)
  have ei : (q + 6 - (P + 1) + P) % 6 = (q + 5) % 6 := by omega
  rw [ei] at hL
  obtain ⟨w, b1, b2⟩ := copy_eq v (pl ((q + 5) % 6)) hL.2.2.2.2.2.2.2.2.2
  obtain ⟨o', a1, a2, a3, a4⟩ : ∃ o', zloop (b_X8_undo_27 mp 0 (nI P)) 1000 (0, ms) = some o' ∧ o'.1 = nI P ∧ o'.2.2.1 = nI P ∧ ∀ j, j < 114 → o'.2.2.2 j = mp (114 * P + j) := by
    refine zloop_inv (b_X8_undo_27 mp 0 (nI P)) 114 (fun i s => s.1 = nI i ∧ ∀ j, j < i → s.2 j = mp (114 * P + j)) _ ?_ ?_ 114 0 1000 _ (by omega) (by omega) ?_
    · rintro ⟨x, w⟩ rc ⟨h1, h2⟩
      dsimp only at h1 h2
      unfold b_X8_undo_27
      dsimp only
      rw [h1, if_pos (by decide)]
      exact ⟨_, rfl, rfl, rfl, h2⟩
    · rintro i ⟨x, w⟩ hi ⟨h1, h2⟩
      dsimp only at h1 h2
      subst h1
      have e : 114 * nI P + nI i = nI (114 * P + i) := by
        show nI 114 * nI P + nI i = _
        rw [pk_mul, nI_add]
      refine ⟨(nI (i + 1), upd w i (mp (114 * P + i))), ⟨rfl, fun j hj => ?_⟩, fun rc => ?_⟩
      · show upd w i _ j = mp (114 * P + j)
        by_cases hji : j = i
        · subst hji; rw [upd_s]
        · rw [upd_o hji]; exact h2 j (by omega)
      · unfold b_X8_undo_27
        dsimp only
        have hne : ¬ (114 : Int32) ≤ nI i := nI_ge (b := 114) hi (by decide)
        rw [if_neg hne, e, zin_n (i := 114 * P + i) (n := 684) (by omega) (by decide), zin_n (i := i) (n := 114) hi (by decide), zg_t, zg_t, zn_n (i := 114 * P + i) (by omega), zn_n (i := i) (by omega), zlet_d, zlet_d, nI_1]
    · exact ⟨nI_0.symm, fun j h => absurd h (by omega)⟩
  refine ⟨(nI ((q + 5) % 6), nI P, w), o', n, t, T, ?_, a1, rfl, a2, ⟨by omega, by omega, rfl, rfl, a3, fun k hk => ?_⟩, ht, LR_M a4 (LR_v b2 hL)⟩
  · unfold f_X2_giveBack
    have e1 : (nI q + 6) - 1 = nI (q + 5) := by
      rw [show nI q + 6 = nI (q + 6) from nI_add q 6, show q + 6 = (q + 5) + 1 from rfl, nI_pred]
    have er : nI (q + 5) - nI (q + 5) / 6 * 6 = nI ((q + 5) % 6) := pk_rem (a := q + 5) (d := 6) (by omega) (by decide) (by decide)
    have e6 : zin (nI ((q + 5) % 6)) 6 = true := zin_n (by omega) (by decide)
    have en : zn (nI ((q + 5) % 6)) = (q + 5) % 6 := zn_n (by omega)
    rw [e1, er, zlet_d, e6, zg_t, en, b1, zbd_s, zlet_d, nI_pred]
  · obtain ⟨n', t', T', g1, g2⟩ := p6 k (by omega)
    refine ⟨n', t', T', g1, ?_⟩
    show LR n' t' T' (pl (((q + 5) % 6 + 6 - P + k) % 6)) _
    rw [show ((q + 5) % 6 + 6 - P + k) % 6 = (q + 6 - (P + 1) + k) % 6 by omega]
    exact g2
/-- a stage that there is, or not -/
theorem has_eq (v : R2) {n : Nat} (hn : n ≤ 4) (h0 : v 9 0 = nI n) (x : Int32) : (∃ i, i < n ∧ x = nI i ∧ f_X1_has v x = some 1) ∨ ((x < 0 ∨ nI n ≤ x) ∧ f_X1_has v x = some 0) := by
  unfold f_X1_has
  rw [h0]
  rcases pk_ix x (n := n) (by omega) with h | h | ⟨j, h1, h2⟩
  · exact Or.inr ⟨Or.inl h, by rw [if_pos h]⟩
  · refine Or.inr ⟨Or.inr h, ?_⟩
    by_cases hx : x < 0
    · rw [if_pos hx]
    · rw [if_neg hx, if_pos h]
  · subst h2
    exact Or.inl ⟨j, h1, rfl, by rw [if_neg (nI_pos (by omega)), if_neg (nI_ge h1 (by omega))]⟩
theorem isStage_yes (M : Nat → Int32) {n i : Nat} (hn : n ≤ 4) (h0 : M 0 = nI n) (hi : i < n) : f_X8_isStage M (nI i) = some 1 := by
  unfold f_X8_isStage f_X8_in
  have k0 : zn 0 = 0 := by decide
  have k1 : zin 0 114 = true := by decide
  have e : nI n - 1 = nI (n - 1) := by rw [show n = (n - 1) + 1 by omega, nI_pred]; rfl
  rw [k1, zg_t, k0, h0, e, if_neg (nI_pos (by omega)), if_neg (nI_nlt (by omega) (by omega)), zbd_s]
  rfl
theorem isStage_no (M : Nat → Int32) {n : Nat} (hn : 1 ≤ n ∧ n ≤ 4) (h0 : M 0 = nI n) {x : Int32} (hx : x < 0 ∨ nI n ≤ x) : f_X8_isStage M x = some 0 := by
  unfold f_X8_isStage f_X8_in
  have k0 : zn 0 = 0 := by decide
  have k1 : zin 0 114 = true := by decide
  have e : nI n - 1 = nI (n - 1) := by rw [show n = (n - 1) + 1 by omega, nI_pred]; rfl
  rw [k1, zg_t, k0, h0, e]
  by_cases h : x < 0
  · rw [if_pos h, zbd_s]; rfl
  · have h2 : nI n ≤ x := hx.resolve_left h
    have h3 : nI (n - 1) < x := by
      refine Int32.lt_of_lt_of_le (nI_lt (show n - 1 < n by omega) (by omega)) h2
    rw [if_neg h, if_pos h3, zbd_s]; rfl
