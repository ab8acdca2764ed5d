/-! ===== pure: the reference lays voltages and wants anew: they are the class's ===== -/
theorem ne10 : ¬ (1 : Int32) = 0 := by decide
theorem ne20 : ¬ (2 : Int32) = 0 := by decide
theorem i32_of {x : Int32} {k : Int} {y : Int32} (h : x.toInt = k) (hy : y.toInt = k) : x = y := Int32.toInt_inj.mp (h.trans hy.symm)
theorem tap_cases {x : Int32} (h : inI x (-5) 5) : x = -5 ∨ x = -4 ∨ x = -3 ∨ x = -2 ∨ x = -1 ∨ x = 0 ∨ x = 1 ∨ x = 2 ∨ x = 3 ∨ x = 4 ∨ x = 5 := by
  obtain ⟨h1, h2⟩ := h
  have h3 : x.toInt = -5 ∨ x.toInt = -4 ∨ x.toInt = -3 ∨ x.toInt = -2 ∨ x.toInt = -1 ∨ x.toInt = 0 ∨ x.toInt = 1 ∨ x.toInt = 2 ∨ x.toInt = 3 ∨ x.toInt = 4 ∨ x.toInt = 5 := by omega
  rcases h3 with h | h | h | h | h | h | h | h | h | h | h
  · exact Or.inl (i32_of h (by decide))
  · exact Or.inr (Or.inl (i32_of h (by decide)))
  · exact Or.inr (Or.inr (Or.inl (i32_of h (by decide))))
  · exact Or.inr (Or.inr (Or.inr (Or.inl (i32_of h (by decide)))))
  · exact Or.inr (Or.inr (Or.inr (Or.inr (Or.inl (i32_of h (by decide))))))
  · exact Or.inr (Or.inr (Or.inr (Or.inr (Or.inr (Or.inl (i32_of h (by decide)))))))
  · exact Or.inr (Or.inr (Or.inr (Or.inr (Or.inr (Or.inr (Or.inl (i32_of h (by decide))))))))
  · exact Or.inr (Or.inr (Or.inr (Or.inr (Or.inr (Or.inr (Or.inr (Or.inl (i32_of h (by decide)))))))))
  · exact Or.inr (Or.inr (Or.inr (Or.inr (Or.inr (Or.inr (Or.inr (Or.inr (Or.inl (i32_of h (by decide))))))))))
  · exact Or.inr (Or.inr (Or.inr (Or.inr (Or.inr (Or.inr (Or.inr (Or.inr (Or.inr (Or.inl (i32_of h (by decide)))))))))))
  · exact Or.inr (Or.inr (Or.inr (Or.inr (Or.inr (Or.inr (Or.inr (Or.inr (Or.inr (Or.inr (i32_of h (by decide)))))))))))
theorem good_eq (M mo : Nat → Int32) {i : Nat} (hi : i < 4) (g : Nat → Int32) (h1 : M (6 + 12 * i + 1) = g 1) (h2 : M (6 + 12 * i + 2) = g 2) (h3 : mo i = g 14) : f_X8_goodOf M mo (nI i) = some (jF g) := by
  unfold f_X8_goodOf jF
  rw [z4 hi, zg_t, of_1 M hi, of_2 M hi, n4 hi, h1, h2, h3]
  simp only [zbd_s, zg_t]
  split
  · split <;> rfl
  · rfl
/-- what the reference calls 'can' of a want w -/
theorem lays182_eq (M : Nat → Int32) (rc : Int32 × (Nat → Int32) × (Nat → Int32) × (Nat → Int32) × (Nat → Int32) → Option ((Nat → Int32) × (Nat → Int32) × (Nat → Int32) × (Nat → Int32) × (Nat → Int32))) (mi mo mw mn mi4 mo7 : Nat → Int32) {i : Nat} (hi : i < 4) (g : Nat → Int32) (h8 : M (6 + 12 * i + 8) = g 11) (h7 : M (6 + 12 * i + 7) = g 7) (ht : inI (g 7) (-5) 5) :
    j_X8_lays_182 M rc (nI i, mi, mo, mw, mn) mi4 mo7 (wF g) = rc (nI (i + 1), mi4, mo7, upd mw i (wF g), upd mn i (cF g)) := by
  unfold j_X8_lays_182 j_X8_lays_233 j_X8_lays_234 cF
  dsimp only
  rw [z4 hi, n4 hi, of_8 M hi, of_7 M hi, h8, h7]
  simp only [zg_t, zbd_s, zlet_d, nI_1]
  rcases wF_in g with h | h | h
  · rw [h, if_pos (by decide), nar0]
    by_cases hs : g 11 = 0 <;> simp [hs]
  · rw [h, if_neg (by decide)]
    by_cases hs : g 11 = 0
    · rw [if_pos hs, if_pos hs, if_pos rfl]
      unfold f_X8_way f_X8_in
      rcases tap_cases ht with k | k | k | k | k | k | k | k | k | k | k <;> rw [k] <;> rfl
    · rw [if_neg hs, if_neg hs, nar0]
  · rw [h, if_neg (by decide)]
    by_cases hs : g 11 = 0
    · rw [if_pos hs, if_pos hs, if_neg (by decide), if_pos rfl]
      unfold f_X8_way f_X8_in
      rcases tap_cases ht with k | k | k | k | k | k | k | k | k | k | k <;> rw [k] <;> rfl
    · rw [if_neg hs, if_neg hs, nar0]
theorem lays95_eq (M mf : Nat → Int32) (rc : Int32 × (Nat → Int32) × (Nat → Int32) × (Nat → Int32) × (Nat → Int32) → Option ((Nat → Int32) × (Nat → Int32) × (Nat → Int32) × (Nat → Int32) × (Nat → Int32))) (mi mo mw mn : Nat → Int32) {i : Nat} (hi : i < 4) (g : Nat → Int32) (hf : ∀ k, k < 12 → g k = M (6 + 12 * i + pm k)) (h12 : mf i = g 12) (h14 : g 14 = g 13 * (1000 + g 7 * g 0) / 1000) (ht : inI (g 7) (-5) 5) :
    j_X8_lays_95 M mf rc (nI i, mi, mo, mw, mn) (g 13) = rc (nI (i + 1), upd mi i (g 13), upd mo i (g 14), upd mw i (wF g), upd mn i (cF g)) := by
  have f0 : M (6 + 12 * i + 0) = g 0 := (hf 0 (by decide)).symm
  have f1 : M (6 + 12 * i + 1) = g 1 := (hf 1 (by decide)).symm
  have f2 : M (6 + 12 * i + 2) = g 2 := (hf 2 (by decide)).symm
  have f4 : M (6 + 12 * i + 4) = g 4 := (hf 4 (by decide)).symm
  have f7 : M (6 + 12 * i + 7) = g 7 := (hf 7 (by decide)).symm
  have f8 : M (6 + 12 * i + 8) = g 11 := (hf 11 (by decide)).symm
  unfold j_X8_lays_95 j_X8_lays_181
  dsimp only
  rw [z4 hi, n4 hi, of_7 M hi, of_0 M hi, of_4 M hi, f7, f0, f4]
  simp only [zg_t, zbd_s, zlet_d]
  rw [upd_s, ← h14, good_eq M (upd mo i (g 14)) hi g f1 f2 (upd_s _ _ _), zbd_s, h12]
  have fin := lays182_eq M rc mi mo mw mn (upd mi i (g 13)) (upd mo i (g 14)) hi g f8 f7 ht
  rw [← fin]
  unfold wF
  rcases jF_in g with h | h | h <;> rw [h]
  · by_cases k1 : 0 ≤ g 12
    · rw [if_pos k1, if_pos rfl]
    · rw [if_neg k1, if_pos (by decide), if_pos rfl]
  · by_cases k1 : 0 ≤ g 12
    · rw [if_pos k1, if_neg (by decide), if_pos k1]
    · rw [if_neg k1, if_neg (show ¬ (1 : Int32) ≤ 0 by decide), if_neg ne10, if_neg k1]
      by_cases k2 : g 4 = 1
      · rw [if_pos k2, if_pos k2]
      · rw [if_neg k2, if_neg k2]
        by_cases k3 : g 4 = 2
        · rw [if_pos k3, if_pos k3]
        · rw [if_neg k3, if_neg k3]
  · by_cases k1 : 0 ≤ g 12
    · rw [if_pos k1, if_neg (by decide), if_pos k1]
    · rw [if_neg k1, if_neg (show ¬ (2 : Int32) ≤ 0 by decide), if_neg ne20, if_neg k1]
      by_cases k2 : g 4 = 1
      · rw [if_pos k2, if_pos k2]
      · rw [if_neg k2, if_neg k2]
        by_cases k3 : g 4 = 2
        · rw [if_pos k3, if_pos k3]
        · rw [if_neg k3, if_neg k3]
/-- what the rows hold when they are laid -/
def LY (n : Nat) (v : R2) (mf mi mo mw mn : Nat → Int32) : Prop := ∀ i, i < n → mf i = v i 12 ∧ mi i = v i 13 ∧ mo i = v i 14 ∧ mw i = wF (v i) ∧ mn i = cF (v i)
theorem lays_eq {n : Nat} {v : R2} {M : Nat → Int32} (mf mi mo mw mn : Nat → Int32) (hn : 1 ≤ n ∧ n ≤ 4) (hM : M 0 = nI n) (hs : v 9 1 = M 1) (hF : FR n v M) (hC : CR n v) (hR : RG n v) : ∃ o, f_X8_lays M mf mi mo mw mn = some o ∧ LY n v o.1 o.2.1 o.2.2.1 o.2.2.2.1 o.2.2.2.2 := by
  have k0 : zn 0 = 0 := by decide
  have k1 : zin 0 114 = true := by decide
  unfold f_X8_lays
  rw [k1, zg_t, zlet_d, k0, hM]
  refine zloop_inv (b_X8_lays_11 M mi mo mw mn) n (fun k s => s.2.1 = (if k < n then nI (n - 1 - k) else -1) ∧ s.1 = (if k = 0 then 0 else v (n - k) 12) ∧ ∀ i, n ≤ i + k → i < n → s.2.2 i = v i 12) _ ?_ ?_ n 0 1000 _ (by omega) (by omega) ?_
  · rintro ⟨x, y, f⟩ rc ⟨h1, -, h3⟩
    dsimp only at h1 h3
    rw [if_neg (Nat.lt_irrefl n)] at h1
    unfold b_X8_lays_11
    dsimp only
    rw [h1, if_pos (by decide)]
    unfold j_X8_lays_37
    refine zloop_inv (b_X8_lays_39 M f) n (fun i s => s.1 = nI i ∧ ∀ j, j < i → s.2.1 j = v j 13 ∧ s.2.2.1 j = v j 14 ∧ s.2.2.2.1 j = wF (v j) ∧ s.2.2.2.2 j = cF (v j)) _ ?_ ?_ n 0 1000 _ (by omega) (by omega) ?_
    · rintro ⟨x, a, b, c, d⟩ rc ⟨g1, g2⟩
      dsimp only at g1 g2
      unfold b_X8_lays_39
      dsimp only
      rw [k1, zg_t, k0, hM, g1, if_pos (nI_le (Nat.le_refl n) (by omega))]
      exact ⟨_, rfl, fun i hi => ⟨h3 i (by omega) hi, g2 i hi⟩⟩
    · rintro i ⟨x, a, b, c, d⟩ hi ⟨g1, g2⟩
      dsimp only at g1 g2
      subst g1
      have a4 : i < 4 := by omega
      refine ⟨(nI (i + 1), upd a i (v i 13), upd b i (v i 14), upd c i (wF (v i)), upd d i (cF (v i))), ⟨rfl, fun j hj => ?_⟩, fun rc => ?_⟩
      · show upd a i _ j = _ ∧ upd b i _ j = _ ∧ upd c i _ j = _ ∧ upd d i _ j = _
        by_cases hji : j = i
        · subst hji
          rw [upd_s, upd_s, upd_s, upd_s]
          exact ⟨rfl, rfl, rfl, rfl⟩
        · rw [upd_o hji, upd_o hji, upd_o hji, upd_o hji]
          exact g2 j (by omega)
      · rw [← lays95_eq M f rc a b c d a4 (v i) (hF i hi) (h3 i (by omega) hi) (hC.2.2.1 i hi) (hR i hi).2.2.2.2.2.2.2.1]
        unfold b_X8_lays_39
        dsimp only
        rw [k1, zg_t, k0, hM, if_neg (nI_ge hi (by omega))]
        by_cases hz : i = 0
        · subst hz
          have e0 : nI 0 = (0 : Int32) := rfl
          have k2 : zin 1 114 = true := by decide
          have k3 : zn 1 = 1 := by decide
          rw [if_pos e0, k2, zg_t, k3, ← hs, ← hC.2.1 (by omega)]
        · have e0 : ¬ nI i = (0 : Int32) := nI_ne0 (by omega) (by omega)
          have e1 : nI i - 1 = nI (i - 1) := by
            conv => lhs; rw [show i = (i - 1) + 1 by omega]
            exact nI_pred _
          have b4 : i - 1 < 4 := by omega
          have f6 : M (6 + 12 * (i - 1) + 6) = v (i - 1) 6 := (hF (i - 1) (by omega) 6 (by decide)).symm
          rw [if_neg e0, e1, z4 b4, zg_t, of_6 M b4, zbd_s, z4 a4, zg_t, n4 b4, n4 a4, f6, (g2 (i - 1) (by omega)).2.1, h3 i (by omega) hi]
          have hc := hC.2.2.2 (i - 1) (by omega)
          rw [show i - 1 + 1 = i by omega] at hc
          rw [hc]
    · exact ⟨nI_0.symm, fun j h => absurd h (by omega)⟩
  · rintro k ⟨x, y, f⟩ hk ⟨h1, h2, h3⟩
    dsimp only at h1 h2 h3
    rw [if_pos hk] at h1
    subst h1
    have a4 : n - 1 - k < 4 := by omega
    have f5 : M (6 + 12 * (n - 1 - k) + 5) = v (n - 1 - k) 5 := (hF (n - 1 - k) (by omega) 5 (by decide)).symm
    have e : x + v (n - 1 - k) 5 = v (n - 1 - k) 12 := by
      rw [hC.1 (n - 1 - k) (by omega), h2]
      congr 1
      by_cases hk0 : k = 0
      · rw [if_pos hk0, if_neg (by omega)]
      · rw [if_neg hk0, if_pos (by omega), show n - 1 - k + 1 = n - k by omega]
    refine ⟨(v (n - 1 - k) 12, (if k + 1 < n then nI (n - 1 - (k + 1)) else -1), upd f (n - 1 - k) (v (n - 1 - k) 12)), ⟨rfl, ?_, fun i hi hin => ?_⟩, fun rc => ?_⟩
    · show _ = if k + 1 = 0 then 0 else v (n - (k + 1)) 12
      rw [if_neg (Nat.succ_ne_zero k), show n - (k + 1) = n - 1 - k by omega]
    · show upd f (n - 1 - k) _ i = v i 12
      by_cases hji : i = n - 1 - k
      · subst hji; rw [upd_s]
      · rw [upd_o hji]; exact h3 i (by omega) hin
    · unfold b_X8_lays_11
      dsimp only
      rw [if_neg (nI_pos (by omega)), of_5 M a4, zbd_s, zlet_d, z4 a4, zg_t, n4 a4, zlet_d, zlet_d, f5, e]
      have hq : nI (n - 1 - k) + -1 = (if k + 1 < n then nI (n - 1 - (k + 1)) else -1) := by
        by_cases hk1 : k + 1 < n
        · rw [if_pos hk1, show n - 1 - k = (n - 1 - (k + 1)) + 1 by omega, pk_m1]
        · rw [if_neg hk1, show n - 1 - k = 0 by omega]
          decide
      rw [hq]
  · refine ⟨?_, rfl, fun i hi hin => absurd hi (by omega)⟩
    show nI n - 1 = _
    rw [if_pos (by omega)]
    conv => lhs; rw [show n = (n - 1) + 1 by omega]
    rw [nI_pred]
    rfl
