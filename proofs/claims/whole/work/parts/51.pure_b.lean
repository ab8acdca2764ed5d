/-! ===== pure: the line ===== -/
def CR (n : Nat) (v : R2) : Prop := (∀ i, i < n → v i 12 = (if i + 1 < n then v (i + 1) 12 else 0) + v i 5) ∧ (0 < n → v 0 13 = v 9 1) ∧ (∀ i, i < n → v i 14 = v i 13 * (1000 + v i 7 * v i 0) / 1000) ∧ (∀ i, i + 1 < n → v (i + 1) 13 = v i 14 - v i 6 * v (i + 1) 12 / 10)
theorem z4 {i : Nat} (h : i < 4) : zin (nI i) 4 = true := zin_n h (by decide)
theorem n4 {i : Nat} (h : i < 4) : zn (nI i) = i := zn_n (by omega)
theorem lost_eq (v : R2) {n i : Nat} (hn : n ≤ 4) (h0 : v 9 0 = nI n) (hi : i < n) : f_X1_lostBehind v (nI i) = some (if i + 1 < n then v i 6 * v (i + 1) 12 / 10 else 0) := by
  unfold f_X1_lostBehind
  rw [h0, nI_1]
  by_cases h : i + 1 < n
  · rw [if_neg (nI_ge h (by omega)), if_pos h, z4 (show i < 4 by omega), z4 (show i + 1 < 4 by omega), n4 (show i < 4 by omega), n4 (show i + 1 < 4 by omega)]
    rfl
  · rw [if_pos (nI_le (by omega) (by omega)), if_neg h]
/-- what is laid anew -/
theorem reckon_eq (v : R2) {n : Nat} (hn : n ≤ 4) (h0 : v 9 0 = nI n) : ∃ w, f_X1_reckon v = some w ∧ CR n w ∧ ∀ r c, ¬ (r < n ∧ 12 ≤ c ∧ c ≤ 14) → w r c = v r c := by
  unfold f_X1_reckon
  simp only [zlet_d]
  refine zloop_inv b_X1_reckon_9 n (fun k s => s.2.1 = (if k < n then nI (n - 1 - k) else -1) ∧ s.1 = (if k = 0 then 0 else s.2.2 (n - k) 12) ∧ (∀ i, n ≤ i + k → i < n → s.2.2 i 12 = (if i + 1 < n then s.2.2 (i + 1) 12 else 0) + s.2.2 i 5) ∧ ∀ r c, ¬ (r < n ∧ c = 12) → s.2.2 r c = v r c) _ ?_ ?_ n 0 1000 _ (by omega) (by omega) ?_
  · rintro ⟨fl, x, w⟩ rc ⟨h1, -, h3, h4⟩
    dsimp only at h1 h3 h4
    rw [if_neg (Nat.lt_irrefl n)] at h1
    unfold b_X1_reckon_9
    dsimp only
    rw [h1, if_pos (by decide)]
    unfold j_X1_reckon_41
    rw [zlet_d]
    have hw0 : w 9 0 = nI n := by rw [h4 9 0 (by omega)]; exact h0
    have key : ∃ z, zloop b_X1_reckon_48 1000 (w 9 1, 0, w) = some z ∧ (0 < n → z 0 13 = w 9 1) ∧ (∀ j, j < n → z j 14 = z j 13 * (1000 + z j 7 * z j 0) / 1000) ∧ (∀ j, j + 1 < n → z (j + 1) 13 = z j 14 - z j 6 * z (j + 1) 12 / 10) ∧ ∀ r c, ¬ (r < n ∧ 13 ≤ c ∧ c ≤ 14) → z r c = w r c := by
      refine zloop_inv b_X1_reckon_48 n (fun i s => s.2.1 = nI i ∧ (i = 0 → s.1 = w 9 1) ∧ (0 < i → i < n → s.1 = s.2.2 (i - 1) 14 - s.2.2 (i - 1) 6 * s.2.2 i 12 / 10) ∧ (0 < i → s.2.2 0 13 = w 9 1) ∧ (∀ j, j < i → s.2.2 j 14 = s.2.2 j 13 * (1000 + s.2.2 j 7 * s.2.2 j 0) / 1000) ∧ (∀ j, j + 1 < i → s.2.2 (j + 1) 13 = s.2.2 j 14 - s.2.2 j 6 * s.2.2 (j + 1) 12 / 10) ∧ ∀ r c, ¬ (r < n ∧ 13 ≤ c ∧ c ≤ 14) → s.2.2 r c = w r c)       (fun z => (0 < n → z 0 13 = w 9 1) ∧ (∀ j, j < n → z j 14 = z j 13 * (1000 + z j 7 * z j 0) / 1000) ∧ (∀ j, j + 1 < n → z (j + 1) 13 = z j 14 - z j 6 * z (j + 1) 12 / 10) ∧ ∀ r c, ¬ (r < n ∧ 13 ≤ c ∧ c ≤ 14) → z r c = w r c) ?_ ?_ n 0 1000 (w 9 1, 0, w) (by omega) (by omega) ?_
      · rintro ⟨x, i, z⟩ rc ⟨g1, -, -, g4, g5, g6, g7⟩
        dsimp only at g1 g4 g5 g6 g7
        unfold b_X1_reckon_48
        dsimp only
        have hc : z 9 0 ≤ i := by rw [g7 9 0 (by omega), hw0, g1]; exact nI_le (Nat.le_refl n) (by omega)
        rw [if_pos hc]
        exact ⟨z, rfl, g4, g5, g6, g7⟩
      · rintro i ⟨x, y, z⟩ hi ⟨g1, g2, g3, g4, g5, g6, g7⟩
        dsimp only at g1 g2 g3 g4 g5 g6 g7
        subst g1
        have a4 : i < 4 := by omega
        have hz0 : z 9 0 = nI n := by rw [g7 9 0 (by omega)]; exact hw0
        let z1 := z2 z i 13 x
        let o := x * (1000 + z i 7 * z i 0) / 1000
        let y2 := z2 z1 i 14 o
        have hy0 : y2 9 0 = nI n := by show z2 (z2 z i 13 x) i 14 _ 9 0 = _; rw [z2_r (by omega), z2_r (by omega)]; exact hz0
        refine ⟨(o - (if i + 1 < n then z i 6 * z (i + 1) 12 / 10 else 0), nI (i + 1), y2), ⟨rfl, fun h => absurd h (by omega), fun _ h => ?_, fun _ => ?_, fun j hj => ?_, fun j hj => ?_, fun r c h => ?_⟩, fun rc => ?_⟩
        · show o - (if i + 1 < n then _ else _) = y2 i 14 - y2 i 6 * y2 (i + 1) 12 / 10
          rw [if_pos h]
          show o - z i 6 * z (i + 1) 12 / 10 = z2 (z2 z i 13 x) i 14 o i 14 - z2 (z2 z i 13 x) i 14 o i 6 * z2 (z2 z i 13 x) i 14 o (i + 1) 12 / 10
          rw [z2_s, z2_c (by omega), z2_c (by omega), z2_r (by omega), z2_r (by omega)]
        · show z2 (z2 z i 13 x) i 14 o 0 13 = w 9 1
          by_cases hi0 : i = 0
          · subst hi0
            rw [z2_c (by omega), z2_s]
            exact g2 rfl
          · rw [z2_r (by omega), z2_r (by omega)]
            exact g4 (by omega)
        · show z2 (z2 z i 13 x) i 14 o j 14 = z2 (z2 z i 13 x) i 14 o j 13 * (1000 + z2 (z2 z i 13 x) i 14 o j 7 * z2 (z2 z i 13 x) i 14 o j 0) / 1000
          by_cases hji : j = i
          · subst hji
            rw [z2_s, z2_c (by omega), z2_s, z2_c (by omega), z2_c (by omega), z2_c (by omega), z2_c (by omega)]
          · rw [z2_r hji, z2_r hji, z2_r hji, z2_r hji, z2_r hji, z2_r hji, z2_r hji, z2_r hji]
            exact g5 j (by omega)
        · show z2 (z2 z i 13 x) i 14 o (j + 1) 13 = z2 (z2 z i 13 x) i 14 o j 14 - z2 (z2 z i 13 x) i 14 o j 6 * z2 (z2 z i 13 x) i 14 o (j + 1) 12 / 10
          by_cases hji : j + 1 = i
          · subst hji
            rw [z2_c (by omega), z2_s, z2_r (by omega), z2_r (by omega), z2_r (by omega), z2_r (by omega), z2_c (by omega), z2_c (by omega)]
            exact g3 (by omega) hi
          · rw [z2_r hji, z2_r hji, z2_r (by omega), z2_r (by omega), z2_r (by omega), z2_r (by omega), z2_r hji, z2_r hji]
            exact g6 j (by omega)
        · show z2 (z2 z i 13 x) i 14 o r c = w r c
          rw [z2_e, if_neg (by omega), z2_e, if_neg (by omega)]
          exact g7 r c h
        · unfold b_X1_reckon_48
          dsimp only
          have hc : ¬ z 9 0 ≤ nI i := by rw [hz0]; exact nI_ge hi (by omega)
          rw [if_neg hc, z4 a4, zg_t, n4 a4]
          simp only [zlet_d]
          unfold f_X4_turned
          rw [zbd_s]
          unfold f_X7_outOf
          rw [zbd_s]
          rw [z2_c (v := z) (show (7 : Nat) ≠ 13 by decide), z2_c (v := z) (show (0 : Nat) ≠ 13 by decide)]
          rw [lost_eq _ hn hy0 hi, zbd_s, nI_1]
          show rc (z2 (z2 z i 13 x) i 14 o i 14 - (if i + 1 < n then z2 (z2 z i 13 x) i 14 o i 6 * z2 (z2 z i 13 x) i 14 o (i + 1) 12 / 10 else 0), nI (i + 1), y2) = _
          rw [z2_s, z2_c (by omega), z2_c (by omega), z2_r (by omega), z2_r (by omega)]
      · exact ⟨nI_0.symm, fun _ => rfl, fun h => absurd h (by omega), fun h => absurd h (by omega), fun j h => absurd h (by omega), fun j h => absurd h (by omega), fun _ _ _ => rfl⟩
    obtain ⟨r, e1, e2, e3⟩ := key
    refine ⟨r, e1, ⟨fun i hi => ?_, fun hz => ?_, e3.1, e3.2.1⟩, fun a c h => ?_⟩
    · rw [e3.2.2 i 12 (by omega), e3.2.2 i 5 (by omega)]
      rw [h3 i (by omega) hi]
      by_cases h : i + 1 < n
      · rw [if_pos h, if_pos h, e3.2.2 (i + 1) 12 (by omega)]
      · rw [if_neg h, if_neg h]
    · rw [e2 hz, e3.2.2 9 1 (by omega)]
    · rw [e3.2.2 a c (by omega), h4 a c (by omega)]
  · rintro k ⟨fl, x, w⟩ hk ⟨h1, h2, h3, h4⟩
    dsimp only at h1 h2 h3 h4
    rw [if_pos hk] at h1
    subst h1
    have a4 : n - 1 - k < 4 := by omega
    refine ⟨(fl + w (n - 1 - k) 5, (if k + 1 < n then nI (n - 1 - (k + 1)) else -1), z2 w (n - 1 - k) 12 (fl + w (n - 1 - k) 5)), ⟨rfl, ?_, fun i hi hin => ?_, fun r c h => ?_⟩, fun rc => ?_⟩
    · show fl + w (n - 1 - k) 5 = if k + 1 = 0 then 0 else z2 w (n - 1 - k) 12 (fl + w (n - 1 - k) 5) (n - (k + 1)) 12
      rw [if_neg (show ¬ k + 1 = 0 by omega), show n - (k + 1) = n - 1 - k by omega, z2_s]
    · show z2 w (n - 1 - k) 12 _ i 12 = (if i + 1 < n then z2 w (n - 1 - k) 12 _ (i + 1) 12 else 0) + z2 w (n - 1 - k) 12 _ i 5
      rw [z2_r (r := n - 1 - k) (i := i + 1) (by omega)]
      by_cases hji : i = n - 1 - k
      · subst hji
        rw [z2_s, z2_c (by omega), h2]
        congr 1
        by_cases hk0 : k = 0
        · rw [if_pos hk0, if_neg (by omega)]
        · rw [if_neg hk0, if_pos (by omega), show n - 1 - k + 1 = n - k by omega]
      · rw [z2_r hji, z2_r hji]
        exact h3 i (by omega) hin
    · show z2 w (n - 1 - k) 12 _ r c = v r c
      rw [z2_e, if_neg (by omega)]
      exact h4 r c h
    · unfold b_X1_reckon_9
      dsimp only
      rw [if_neg (nI_pos (by omega)), z4 a4]
      simp only [zg_t, zlet_d]
      rw [n4 a4]
      have hq : nI (n - 1 - k) + -1 = (if k + 1 < n then nI (n - 1 - (k + 1)) else -1) := by
        by_cases hk1 : k + 1 < n
        · rw [if_pos hk1, show n - 1 - k = (n - 1 - (k + 1)) + 1 by omega, pk_m1]
        · rw [if_neg hk1, show n - 1 - k = 0 by omega]
          decide
      rw [hq]
  · refine ⟨?_, rfl, fun i hi hin => absurd hi (by omega), fun _ _ _ => rfl⟩
    show v 9 0 - 1 = _
    rw [h0]
    by_cases hz : 0 < n
    · rw [if_pos hz, show n = (n - 1) + 1 by omega, nI_pred]
      congr 1
    · rw [if_neg hz, show n = 0 by omega]
      decide
