/-! ===== pure: a step done, a tick ===== -/
theorem j113_eq (N mw : Nat → Int32) {i K t : Nat} (hi : i < 4) (hK : K < 20) (h5 : N 5 = nI K) (h2 : N 2 = nI t) : j_X8_notesStep_113 mw (nI i) N = some (upd (upd (upd (upd N (54 + 3 * K) (nI t)) (54 + 3 * K + 1) (nI i)) (54 + 3 * K + 2) (mw i)) 5 (nI (K + 1))) := by
  have k5 : zn 5 = 5 := by decide
  have i5 : zin 5 114 = true := by decide
  have k2 : zn 2 = 2 := by decide
  have i2 : zin 2 114 = true := by decide
  have q0 : 54 + 3 * nI K = nI (54 + 3 * K) := by
    show nI 54 + nI 3 * nI K = _
    rw [pk_mul, nI_add]
  have q1 : nI (54 + 3 * K) + 1 = nI (54 + 3 * K + 1) := nI_add _ 1
  have q2 : nI (54 + 3 * K) + 2 = nI (54 + 3 * K + 2) := nI_add _ 2
  unfold j_X8_notesStep_113
  rw [i5, i2, zg_t, k5, k2, h5, h2, q0, zlet_d, zg_t, q1, q2, zin_n (i := 54 + 3 * K) (n := 114) (by omega) (by decide), zin_n (i := 54 + 3 * K + 1) (n := 114) (by omega) (by decide), zin_n (i := 54 + 3 * K + 2) (n := 114) (by omega) (by decide), zn_n (i := 54 + 3 * K) (by omega), zn_n (i := 54 + 3 * K + 1) (by omega), zn_n (i := 54 + 3 * K + 2) (by omega), z4 hi, n4 hi, zg_t, zlet_d, zg_t, zlet_d, zg_t, zg_t, zlet_d, zg_t, zg_t, zlet_d, upd_o (by omega), upd_o (by omega), upd_o (by omega), h5, nI_1]
theorem notesStep_eq (N mw : Nat → Int32) {i t T : Nat} (hi : i < 4) (h2 : N 2 = nI t) (h3 : N 3 = nI T) (h5 : N 5 = nI (min T 20)) : ∃ N', f_X8_notesStep N mw (nI i) = some N' ∧ (N' 0 = N 0 ∧ N' 1 = N 1 ∧ N' 2 = N 2 ∧ N' 3 = nI (T + 1)) ∧ N' 4 = N 4 + (if N (6 + 12 * i + 11) ≤ 0 then 0 else if N (6 + 12 * i + 11) = mw i then 0 else 1) ∧ N' 5 = nI (min (T + 1) 20) ∧ (∀ x, 6 ≤ x → x < 54 → N' x = if x = 6 + 12 * i + 11 then mw i else N x) ∧ (∀ e c, e + 1 < min (T + 1) 20 → c < 3 → N' (54 + 3 * e + c) = N (54 + 3 * (if T < 20 then e else e + 1) + c)) ∧ N' (54 + 3 * (min (T + 1) 20 - 1)) = nI t ∧ N' (54 + 3 * (min (T + 1) 20 - 1) + 1) = nI i ∧ N' (54 + 3 * (min (T + 1) 20 - 1) + 2) = mw i := by
  have k3 : zn 3 = 3 := by decide
  have i3 : zin 3 114 = true := by decide
  have k4 : zn 4 = 4 := by decide
  have i4 : zin 4 114 = true := by decide
  have k5 : zn 5 = 5 := by decide
  have i5 : zin 5 114 = true := by decide
  have e1 : f_X8_notesStep N mw (nI i) = j_X8_notesStep_48 mw (nI i) (upd N 3 (nI (T + 1))) (if N (6 + 12 * i + 11) ≤ 0 then 0 else if N (6 + 12 * i + 11) = mw i then 0 else 1) := by
    unfold f_X8_notesStep j_X8_notesStep_47
    rw [i3, i4, zg_t, zg_t, k3, h3, nI_1, zlet_d, zg_t, of_11 _ hi, zbd_s, zbd_s, upd_o (by omega), z4 hi, zg_t, n4 hi]
    by_cases c1 : N (6 + 12 * i + 11) ≤ 0
    · rw [if_pos c1, if_pos c1]
    · rw [if_neg c1, if_neg c1]
      by_cases c2 : N (6 + 12 * i + 11) = mw i
      · rw [if_pos c2, if_pos c2]
      · rw [if_neg c2, if_neg c2]
  rw [e1]
  generalize (if N (6 + 12 * i + 11) ≤ 0 then (0 : Int32) else if N (6 + 12 * i + 11) = mw i then 0 else 1) = a
  obtain ⟨N1, hN1⟩ : ∃ N1, N1 = upd (upd (upd N 3 (nI (T + 1))) 4 (N 4 + a)) (6 + 12 * i + 11) (mw i) := ⟨_, rfl⟩
  have e2 : j_X8_notesStep_48 mw (nI i) (upd N 3 (nI (T + 1))) a = if nI (min T 20) = 20 then zloop (b_X8_notesStep_77 mw (nI i)) 1000 (54, N1) else j_X8_notesStep_113 mw (nI i) N1 := by
    unfold j_X8_notesStep_48
    rw [i4, zg_t, k4, upd_o (show (4 : Nat) ≠ 3 by decide), zlet_d, z4 hi, zg_t, n4 hi, puts_11 _ hi, zbd_s, i5, zg_t, k5, ← hN1]
    have : N1 5 = nI (min T 20) := by rw [hN1, upd_o (by omega), upd_o (by decide), upd_o (by decide)]; exact h5
    rw [this]
  rw [e2]
  have a0 : N1 0 = N 0 := by rw [hN1, upd_o (by omega), upd_o (by decide), upd_o (by decide)]
  have a1 : N1 1 = N 1 := by rw [hN1, upd_o (by omega), upd_o (by decide), upd_o (by decide)]
  have a2 : N1 2 = N 2 := by rw [hN1, upd_o (by omega), upd_o (by decide), upd_o (by decide)]
  have a3 : N1 3 = nI (T + 1) := by rw [hN1, upd_o (by omega), upd_o (by decide), upd_s]
  have a4 : N1 4 = N 4 + a := by rw [hN1, upd_o (by omega), upd_s]
  have a5 : N1 5 = nI (min T 20) := by rw [hN1, upd_o (by omega), upd_o (by decide), upd_o (by decide)]; exact h5
  have a6 : ∀ x, 6 ≤ x → x < 54 → N1 x = if x = 6 + 12 * i + 11 then mw i else N x := fun x q1 q2 => by
    rw [hN1]
    by_cases c : x = 6 + 12 * i + 11
    · subst c; rw [upd_s, if_pos rfl]
    · rw [upd_o c, if_neg c, upd_o (by omega), upd_o (by omega)]
  have a7 : ∀ x, 54 ≤ x → N1 x = N x := fun x q1 => by rw [hN1, upd_o (by omega), upd_o (by omega), upd_o (by omega)]
  clear hN1 e1 e2
  by_cases hT : T < 20
  · have hm : min T 20 = T := by omega
    have hm1 : min (T + 1) 20 = T + 1 := by omega
    rw [hm] at a5 ⊢
    have ne : ¬ nI T = (20 : Int32) := fun e => by
      have := (nI_eq (a := T) (b := 20) (by omega) (by decide)).mp e
      omega
    rw [if_neg ne, j113_eq N1 mw hi hT a5 (a2.trans h2), hm1]
    refine ⟨_, rfl, ⟨?_, ?_, ?_, ?_⟩, ?_, ?_, fun x q1 q2 => ?_, fun e c q1 q2 => ?_, ?_, ?_, ?_⟩
    · rw [upd_o (by omega), upd_o (by omega), upd_o (by omega), upd_o (by omega)]; exact a0
    · rw [upd_o (by omega), upd_o (by omega), upd_o (by omega), upd_o (by omega)]; exact a1
    · rw [upd_o (by omega), upd_o (by omega), upd_o (by omega), upd_o (by omega)]; exact a2
    · rw [upd_o (by omega), upd_o (by omega), upd_o (by omega), upd_o (by omega)]; exact a3
    · rw [upd_o (by omega), upd_o (by omega), upd_o (by omega), upd_o (by omega)]; exact a4
    · rw [upd_s]
    · rw [upd_o (by omega), upd_o (by omega), upd_o (by omega), upd_o (by omega)]; exact a6 x q1 q2
    · rw [upd_o (by omega), upd_o (by omega), upd_o (by omega), upd_o (by omega), if_pos hT]; exact a7 _ (by omega)
    · rw [show T + 1 - 1 = T by omega, upd_o (by omega), upd_o (by omega), upd_o (by omega), upd_s]
    · rw [show T + 1 - 1 = T by omega, upd_o (by omega), upd_o (by omega), upd_s]
    · rw [show T + 1 - 1 = T by omega, upd_o (by omega), upd_s]
  · have hm : min T 20 = 20 := by omega
    have hm1 : min (T + 1) 20 = 20 := by omega
    have e20 : nI 20 = (20 : Int32) := rfl
    rw [hm] at a5 ⊢
    rw [if_pos e20, hm1]
    obtain ⟨⟨x, N2⟩, g, ⟨b1, b2, b3⟩, he⟩ := zloop_run (b_X8_notesStep_77 mw (nI i)) 57 (fun k s => s.1 = nI (54 + k) ∧ (∀ x, 54 ≤ x → x < 54 + k → s.2 x = N1 (x + 3)) ∧ ∀ x, (x < 54 ∨ 54 + k ≤ x) → s.2 x = N1 x) (by
      rintro k ⟨x, z⟩ hk ⟨h1, h2, h3⟩
      dsimp only at h1 h2 h3
      subst h1
      have q3 : nI (54 + k) + 3 = nI (54 + k + 3) := nI_add _ 3
      refine ⟨(nI (54 + (k + 1)), upd z (54 + k) (z (54 + k + 3))), ⟨rfl, fun x q1 q2 => ?_, fun x q => ?_⟩, fun rc => ?_⟩
      · show upd z (54 + k) _ x = _
        by_cases e : x = 54 + k
        · subst e; rw [upd_s]; exact h3 _ (by omega)
        · rw [upd_o e]; exact h2 x q1 (by omega)
      · show upd z (54 + k) _ x = _
        rw [upd_o (by omega)]; exact h3 x (by omega)
      · unfold b_X8_notesStep_77
        dsimp only
        have hne : ¬ (111 : Int32) ≤ nI (54 + k) := nI_ge (b := 111) (by omega) (by decide)
        rw [if_neg hne, q3, zin_n (i := 54 + k + 3) (n := 114) (by omega) (by decide), zin_n (i := 54 + k) (n := 114) (by omega) (by decide), zg_t, zg_t, zn_n (i := 54 + k + 3) (by omega), zn_n (i := 54 + k) (by omega), zlet_d, zlet_d, nI_1]
        rfl) 57 0 1000 (54, N1) (by omega) (by omega) ⟨rfl, fun x q1 q2 => absurd q1 (by omega), fun _ _ => rfl⟩
    dsimp only at b1 b2 b3
    rw [he]
    unfold b_X8_notesStep_77 j_X8_notesStep_103
    dsimp only
    have hle : (111 : Int32) ≤ x := by rw [b1]; decide
    have b5 : N2 5 = nI 20 := by rw [b3 5 (by omega)]; exact a5
    rw [if_pos hle, i5, zg_t, zg_t, k5, b5, nI_pred, zlet_d, j113_eq (upd N2 5 (nI 19)) mw hi (K := 19) (t := t) (by decide) (upd_s _ _ _) (by rw [upd_o (by decide), b3 2 (by omega), a2]; exact h2)]
    refine ⟨_, rfl, ⟨?_, ?_, ?_, ?_⟩, ?_, ?_, fun x q1 q2 => ?_, fun e c q1 q2 => ?_, ?_, ?_, ?_⟩
    · rw [upd_o (by omega), upd_o (by omega), upd_o (by omega), upd_o (by omega), upd_o (by omega), b3 _ (by omega)]; exact a0
    · rw [upd_o (by omega), upd_o (by omega), upd_o (by omega), upd_o (by omega), upd_o (by omega), b3 _ (by omega)]; exact a1
    · rw [upd_o (by omega), upd_o (by omega), upd_o (by omega), upd_o (by omega), upd_o (by omega), b3 _ (by omega)]; exact a2
    · rw [upd_o (by omega), upd_o (by omega), upd_o (by omega), upd_o (by omega), upd_o (by omega), b3 _ (by omega)]; exact a3
    · rw [upd_o (by omega), upd_o (by omega), upd_o (by omega), upd_o (by omega), upd_o (by omega), b3 _ (by omega)]; exact a4
    · rw [upd_s]
    · rw [upd_o (by omega), upd_o (by omega), upd_o (by omega), upd_o (by omega), upd_o (by omega), b3 _ (by omega)]; exact a6 x q1 q2
    · rw [upd_o (by omega), upd_o (by omega), upd_o (by omega), upd_o (by omega), upd_o (by omega), b2 _ (by omega) (by omega), if_neg hT, show 54 + 3 * (e + 1) + c = 54 + 3 * e + c + 3 by omega]
      exact a7 _ (by omega)
    · rw [upd_o (by omega), upd_o (by omega), upd_o (by omega), upd_s]
    · rw [upd_o (by omega), upd_o (by omega), upd_s]
    · rw [upd_o (by omega), upd_s]
theorem LG_add {T t i : Nat} {w w' : R2} {N N' : Nat → Int32} {way : Int32} (h : LG T w N) (hi : i < 4) (hway : way = 1 ∨ way = 2) (h5 : ∀ s, w' 5 s = if s = T % 20 then nI t else w 5 s) (h6 : ∀ s, w' 6 s = if s = T % 20 then nI i else w 6 s) (h7 : ∀ s, w' 7 s = if s = T % 20 then way else w 7 s) (hN5 : N' 5 = nI (min (T + 1) 20)) (hsh : ∀ e c, e + 1 < min (T + 1) 20 → c < 3 → N' (54 + 3 * e + c) = N (54 + 3 * (if T < 20 then e else e + 1) + c)) (n0 : N' (54 + 3 * (min (T + 1) 20 - 1)) = nI t) (n1 : N' (54 + 3 * (min (T + 1) 20 - 1) + 1) = nI i) (n2 : N' (54 + 3 * (min (T + 1) 20 - 1) + 2) = way) : LG (T + 1) w' N' := by
  refine ⟨hN5, fun q q1 q2 => ?_⟩
  rw [h5, h6, h7]
  by_cases e : q = T
  · subst e
    rw [if_pos rfl, if_pos rfl, if_pos rfl, show q + min (q + 1) 20 - (q + 1) = min (q + 1) 20 - 1 by omega]
    exact ⟨n0.symm, n1.symm, n2.symm, ⟨i, hi, rfl⟩, hway⟩
  · have ne : q % 20 ≠ T % 20 := by omega
    rw [if_neg ne, if_neg ne, if_neg ne]
    obtain ⟨a1, a2, a3, a4, a5⟩ := h.2 q (by omega) (by omega)
    have ei : (if T < 20 then q + min (T + 1) 20 - (T + 1) else q + min (T + 1) 20 - (T + 1) + 1) = q + min T 20 - T := by
      by_cases c : T < 20
      · rw [if_pos c]; omega
      · rw [if_neg c]; omega
    have s0 : N' (54 + 3 * (q + min (T + 1) 20 - (T + 1))) = N (54 + 3 * (q + min T 20 - T)) := by rw [← ei]; exact hsh _ 0 (by omega) (by decide)
    have s1 : N' (54 + 3 * (q + min (T + 1) 20 - (T + 1)) + 1) = N (54 + 3 * (q + min T 20 - T) + 1) := by rw [← ei]; exact hsh _ 1 (by omega) (by decide)
    have s2 : N' (54 + 3 * (q + min (T + 1) 20 - (T + 1)) + 2) = N (54 + 3 * (q + min T 20 - T) + 2) := by rw [← ei]; exact hsh _ 2 (by omega) (by decide)
    rw [s0, s1, s2]
    exact ⟨a1, a2, a3, a4, a5⟩
/-- what holds within a tick -/
def TQ (n t T : Nat) (w : R2) (N : Nat → Int32) : Prop := (1 ≤ n ∧ n ≤ 4) ∧ (w 9 0 = nI n ∧ N 0 = nI n) ∧ (w 9 2 = nI t ∧ N 2 = nI t ∧ w 8 0 = nI T ∧ N 3 = nI T) ∧ w 9 1 = N 1 ∧ w 8 1 = N 4 ∧ LG T w N ∧ FR n w N
theorem TQ_st {n t T : Nat} {v : R2} {M : Nat → Int32} {x : Int32} {i k : Nat} (h : TQ n t T v M) (hi : i < n) (hk : k < 12) : TQ n t T (z2 v i k x) (upd M (6 + 12 * i + pm k) x) := by
  obtain ⟨h1, ⟨h2, h3⟩, ⟨h6, h7, h8, h9⟩, h10, h12, ⟨h13, h14⟩, h15⟩ := h
  have hp := pm_lt hk
  refine ⟨h1, ⟨by rw [z2_r (by omega)]; exact h2, by rw [upd_o (by omega)]; exact h3⟩, ⟨by rw [z2_r (by omega)]; exact h6, by rw [upd_o (by omega)]; exact h7, by rw [z2_r (by omega)]; exact h8, by rw [upd_o (by omega)]; exact h9⟩, by rw [z2_r (by omega), upd_o (by omega)]; exact h10, by rw [z2_r (by omega), upd_o (by omega)]; exact h12, ⟨by rw [upd_o (by omega)]; exact h13, fun q hq hT => ?_⟩, fun j hj c hc => ?_⟩
  · rw [z2_r (by omega), z2_r (by omega), z2_r (by omega), upd_o (by omega), upd_o (by omega), upd_o (by omega)]
    exact h14 q hq hT
  · have hpc := pm_lt hc
    by_cases e : j = i ∧ c = k
    · obtain ⟨rfl, rfl⟩ := e
      rw [z2_s, upd_s]
    · rw [z2_e, if_neg e, upd_o (fun z => e ?_)]
      · exact h15 j hj c hc
      · have e1 : j = i := by omega
        subst e1
        exact ⟨rfl, pm_inj c hc k hk (by omega)⟩
theorem zpLg_o {v : R2} {lt lg lw : Nat → Int32} {lo lb : Int32} {r : Nat} (h5 : r ≠ 5) (h6 : r ≠ 6) (h7 : r ≠ 7) (h8 : r ≠ 8) : zpLg v lt lg lw lo lb r = v r := by
  unfold zpLg
  rw [vau_o h8, vau_o h7, vau_o h6, vau_o h5]
theorem zpLg_5 {v : R2} {lt lg lw : Nat → Int32} {lo lb : Int32} : zpLg v lt lg lw lo lb 5 = lt := by
  unfold zpLg
  rw [vau_o (by decide), vau_o (by decide), vau_o (by decide), vau_s]
theorem zpLg_6 {v : R2} {lt lg lw : Nat → Int32} {lo lb : Int32} : zpLg v lt lg lw lo lb 6 = lg := by
  unfold zpLg
  rw [vau_o (by decide), vau_o (by decide), vau_s]
theorem zpLg_7 {v : R2} {lt lg lw : Nat → Int32} {lo lb : Int32} : zpLg v lt lg lw lo lb 7 = lw := by
  unfold zpLg
  rw [vau_o (by decide), vau_s]
theorem zpLg_80 {v : R2} {lt lg lw : Nat → Int32} {lo lb : Int32} : zpLg v lt lg lw lo lb 8 0 = lo := by
  unfold zpLg
  rw [vau_s, upd_o (by decide), upd_s]
theorem zpLg_81 {v : R2} {lt lg lw : Nat → Int32} {lo lb : Int32} : zpLg v lt lg lw lo lb 8 1 = lb := by
  unfold zpLg
  rw [vau_s, upd_s]
def dirF (g : Nat → Int32) : Int32 := if wF g = 1 then 1 else -1
theorem heed_eq {n t T : Nat} {w : R2} {N : Nat → Int32} (hq : TQ n t T w N) (hT : T ≤ 50000) {i : Nat} (hi : i < n) (mw : Nat → Int32) (hw : mw i = wF (w i)) (hc : ¬ cF (w i) = 0) (hl : inI (w i 10) 0 2) : ∃ w' N', f_X1_heedCall w (nI i) = some w' ∧ f_X8_notesStep (upd N (6 + 12 * i + 7) (w i 7 + dirF (w i))) mw (nI i) = some N' ∧ TQ n t (T + 1) w' (upd (upd N' (6 + 12 * i + 9) 0) (6 + 12 * i + 10) 0) ∧ w' i = upd (upd (upd (upd (w i) 7 (w i 7 + dirF (w i))) 10 (wF (w i))) 8 0) 9 0 ∧ (∀ j, j < 5 → j ≠ i → w' j = w j) ∧ w' 9 1 = w 9 1 := by
  have i4 : i < 4 := by have := hq.1; omega
  have hway : wF (w i) = 1 ∨ wF (w i) = 2 := by
    rcases wF_in (w i) with h | h | h
    · exfalso
      apply hc
      unfold cF
      rw [h]
      split <;> rfl
    · exact Or.inl h
    · exact Or.inr h
  have hc' : f_X4_canAsItWants (w i) = some (cF (w i)) := cF_eq _
  have hw' : f_X4_wants (w i) = some (wF (w i)) := wF_eq _
  generalize hW : wF (w i) = W at *
  have hd : dirF (w i) = if W = 1 then 1 else -1 := by unfold dirF; rw [hW]
  generalize dirF (w i) = d at *
  have q1 : TQ n t T (z2 w i 7 (w i 7 + d)) (upd N (6 + 12 * i + 7) (w i 7 + d)) := TQ_st (k := 7) hq hi (by decide)
  generalize hN7 : upd N (6 + 12 * i + 7) (w i 7 + d) = N7 at *
  generalize hW1 : z2 w i 7 (w i 7 + d) = W1 at *
  have w1i : W1 i = upd (w i) 7 (w i 7 + d) := by rw [← hW1]; exact vau_s _ _ _
  have w1o : ∀ j, j ≠ i → W1 j = w j := fun j hj => by rw [← hW1]; exact z2_row j hj
  obtain ⟨g1, ⟨g2, g3⟩, ⟨g4, g5, g6, g7⟩, g8, g9, g10, g11⟩ := q1
  obtain ⟨N', p1, ⟨p2, p3, p4, p5⟩, p6, p7, p8, p9, p10, p11, p12⟩ := notesStep_eq N7 mw i4 g5 g7 g10.1
  have hlast : N7 (6 + 12 * i + 11) = w i 10 := by
    have := g11 i hi 10 (by decide)
    rw [w1i, upd_o (by decide)] at this
    exact this.symm
  rw [hlast, hw] at p6
  have er : nI T - nI T / 20 * 20 = nI (T % 20) := pk_rem (a := T) (d := 20) (by omega) (by decide) (by decide)
  have hm : T % 20 < 20 := Nat.mod_lt _ (by decide)
  obtain ⟨W2, hW2⟩ : ∃ W2, W2 = zpLg W1 (upd (W1 5) (T % 20) (nI t)) (upd (W1 6) (T % 20) (nI i)) (upd (W1 7) (T % 20) W) (nI (T + 1)) (W1 8 1) := ⟨_, rfl⟩
  have W2o : ∀ r, r ≠ 5 → r ≠ 6 → r ≠ 7 → r ≠ 8 → W2 r = W1 r := fun r a b c d => by rw [hW2]; exact zpLg_o a b c d
  obtain ⟨W3, c1, c2, c3, c4⟩ : ∃ W3 : R2, f_X1_heedCall w (nI i) = j_X1_heedCall_79 (nI i) W W3 ∧ (∀ r, r ≠ 8 → W3 r = W2 r) ∧ W3 8 0 = nI (T + 1) ∧ W3 8 1 = N' 4 := by
    have hj34 : f_X1_heedCall w (nI i) = j_X1_heedCall_34 w (nI i) W d := by
      unfold f_X1_heedCall
      rw [z4 i4, zg_t, n4 i4, hc', zbd_s, if_neg hc, hw', zbd_s, hd]
      split <;> rfl
    have w2i : W2 i 10 = w i 10 := by rw [W2o i (by omega) (by omega) (by omega) (by omega), w1i, upd_o (by decide)]
    have w281 : W2 8 1 = N7 4 := by rw [hW2, zpLg_81]; exact g9
    have w280 : W2 8 0 = nI (T + 1) := by rw [hW2, zpLg_80]
    have hadd : f_X1_heedCall w (nI i) = if W2 i 10 = 0 then j_X1_heedCall_79 (nI i) W W2 else if W2 i 10 = W then j_X1_heedCall_79 (nI i) W W2 else j_X1_heedCall_79 (nI i) W (z2 W2 8 1 (W2 8 1 + 1)) := by
      rw [hj34]
      unfold j_X1_heedCall_34 f_X5_add
      simp only [zlet_d]
      rw [n4 i4, hW1, g6, g4, er, zin_n hm (by decide), zn_n (i := T % 20) (by omega)]
      simp only [zg_t, zbd_s]
      rw [nI_1, ← hW2]
    rw [hadd, w2i]
    by_cases k0 : w i 10 = 0
    · refine ⟨W2, if_pos k0, fun _ _ => rfl, w280, ?_⟩
      rw [p6, w281, if_pos (by rw [k0]; exact Int32.le_refl _), Int32.add_zero]
    · have k0' : ¬ w i 10 ≤ 0 := fun q => k0 (by
        have h1 := Int32.le_iff_toInt_le.mp q
        have h0 : (0 : Int32).toInt = 0 := by decide
        rw [h0] at h1
        refine Int32.toInt_inj.mp ?_
        rw [h0]
        have := hl.1
        omega)
      rw [if_neg k0]
      by_cases k1 : w i 10 = W
      · refine ⟨W2, if_pos k1, fun _ _ => rfl, w280, ?_⟩
        rw [p6, w281, if_neg k0', if_pos k1, Int32.add_zero]
      · refine ⟨z2 W2 8 1 (W2 8 1 + 1), if_neg k1, fun r hr => funext fun _ => z2_r hr, ?_, ?_⟩
        · rw [z2_c (by decide)]; exact w280
        · rw [z2_s, p6, w281, if_neg k0', if_neg k1]
  have hfin : f_X1_heedCall w (nI i) = some (z2 (z2 (z2 W3 i 10 W) i 8 0) i 9 0) := by
    rw [c1]
    unfold j_X1_heedCall_79 j_X1_heedCall_84
    rw [n4 i4, zlet_d, zlet_d, zlet_d]
  have W3o : ∀ r, r ≠ 5 → r ≠ 6 → r ≠ 7 → r ≠ 8 → W3 r = W1 r := fun r a b c d => (c2 r d).trans (W2o r a b c d)
  have q4 : TQ n t (T + 1) (z2 W3 i 10 W) N' := by
    refine ⟨g1, ⟨?_, p2.trans g3⟩, ⟨?_, p4.trans g5, ?_, p5⟩, ?_, ?_, ?_, fun j hj c hc2 => ?_⟩
    · rw [z2_r (by omega), W3o 9 (by decide) (by decide) (by decide) (by decide)]; exact g2
    · rw [z2_r (by omega), W3o 9 (by decide) (by decide) (by decide) (by decide)]; exact g4
    · rw [z2_r (by omega)]; exact c3
    · rw [z2_r (by omega), W3o 9 (by decide) (by decide) (by decide) (by decide), p3]; exact g8
    · rw [z2_r (by omega)]; exact c4
    · refine LG_add (t := t) (i := i) g10 i4 hway (fun s => ?_) (fun s => ?_) (fun s => ?_) p7 p9 p10 p11 (p12.trans hw)
      · rw [z2_r (by omega), c2 5 (by decide), hW2, zpLg_5]; rfl
      · rw [z2_r (by omega), c2 6 (by decide), hW2, zpLg_6]; rfl
      · rw [z2_r (by omega), c2 7 (by decide), hW2, zpLg_7]; rfl
    · have hpc := pm_lt hc2
      rw [p8 _ (by omega) (by omega), z2_e]
      by_cases e : j = i ∧ c = 10
      · obtain ⟨rfl, rfl⟩ := e
        rw [if_pos ⟨rfl, rfl⟩, if_pos (show 6 + 12 * j + pm 10 = 6 + 12 * j + 11 from rfl)]
        exact hw.symm
      · rw [if_neg e, if_neg (fun z => e ?_), W3o j (by omega) (by omega) (by omega) (by omega)]
        · exact g11 j hj c hc2
        · have e1 : j = i := by omega
          subst e1
          refine ⟨rfl, pm_inj c hc2 10 (by decide) ?_⟩
          show pm c = 11
          omega
  refine ⟨_, N', hfin, p1, ?_, ?_, fun j hj hji => ?_, ?_⟩
  · exact TQ_st (k := 9) (TQ_st (k := 8) q4 hi (by decide)) hi (by decide)
  · show va_up _ i _ i = _
    rw [vau_s]
    show upd (va_up (z2 W3 i 10 W) i _ i) 9 0 = _
    rw [vau_s]
    show upd (upd (va_up W3 i _ i) 8 0) 9 0 = _
    rw [vau_s, W3o i (by omega) (by omega) (by omega) (by omega), w1i]
  · rw [z2_row j hji, z2_row j hji, z2_row j hji, W3o j (by omega) (by omega) (by omega) (by omega), w1o j hji]
  · rw [z2_r (by omega), z2_r (by omega), z2_r (by omega), W3o 9 (by decide) (by decide) (by decide) (by decide), w1o 9 (by omega)]
