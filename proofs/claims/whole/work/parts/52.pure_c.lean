/-! ===== pure: what class and reference share of a line ===== -/
def pm (k : Nat) : Nat := if k < 8 then k else if k = 11 then 8 else k + 1
def FR (n : Nat) (v : R2) (M : Nat → Int32) : Prop := ∀ i, i < n → ∀ k, k < 12 → v i k = M (6 + 12 * i + pm k)
def inI (x : Int32) (a b : Int) : Prop := a ≤ x.toInt ∧ x.toInt ≤ b
def RG (n : Nat) (v : R2) : Prop := ∀ i, i < n → inI (v i 0) 1 50 ∧ inI (v i 1) 800 1200 ∧ inI (v i 2) 1 99 ∧ inI (v i 3) 1 9 ∧ inI (v i 4) 0 2 ∧ inI (v i 5) (-50) 50 ∧ inI (v i 6) 0 9 ∧ inI (v i 7) (-5) 5 ∧ inI (v i 8) 0 9 ∧ inI (v i 9) 0 2 ∧ inI (v i 10) 0 2
def SB (v : R2) : Prop := ∀ i, i < 4 → v i 11 = 0 ∨ v i 11 = 1
def LG (T : Nat) (v : R2) (M : Nat → Int32) : Prop := M 5 = nI (min T 20) ∧ ∀ q, q < T → T ≤ q + 20 → v 5 (q % 20) = M (54 + 3 * (q + min T 20 - T)) ∧ v 6 (q % 20) = M (54 + 3 * (q + min T 20 - T) + 1) ∧ v 7 (q % 20) = M (54 + 3 * (q + min T 20 - T) + 2) ∧ (∃ j, j < 4 ∧ v 6 (q % 20) = nI j) ∧ (v 7 (q % 20) = 1 ∨ v 7 (q % 20) = 2)
def LR (n t T : Nat) (v : R2) (M : Nat → Int32) : Prop := (1 ≤ n ∧ n ≤ 4) ∧ (v 9 0 = nI n ∧ M 0 = nI n) ∧ (t ≤ 10400 ∧ T ≤ 4 * t ∧ v 9 2 = nI t ∧ M 2 = nI t ∧ v 8 0 = nI T ∧ M 3 = nI T) ∧ (v 9 1 = M 1 ∧ inI (v 9 1) 800 1200) ∧ v 8 1 = M 4 ∧ LG T v M ∧ FR n v M ∧ CR n v ∧ RG n v ∧ SB v
/-- two lines with the same numbers -/
def EQL (w v : R2) : Prop := (∀ i, i < 4 → ∀ c, c < 15 → w i c = v i c) ∧ (∀ c, c < 20 → w 5 c = v 5 c ∧ w 6 c = v 6 c ∧ w 7 c = v 7 c) ∧ (w 8 0 = v 8 0 ∧ w 8 1 = v 8 1) ∧ (w 9 0 = v 9 0 ∧ w 9 1 = v 9 1 ∧ w 9 2 = v 9 2)
theorem LR_v {n t T : Nat} {v w : R2} {M : Nat → Int32} (e : EQL w v) (h : LR n t T v M) : LR n t T w M := by
  obtain ⟨e1, e2, ⟨e3, e4⟩, e5, e6, e7⟩ := e
  obtain ⟨h1, ⟨h2, h3⟩, ⟨h4, h5, h6, h7, h8, h9⟩, ⟨h10, h11⟩, h12, ⟨h13, h14⟩, h15, ⟨h16, h17, h18, h19⟩, h20, h21⟩ := h
  refine ⟨h1, ⟨by rw [e5]; exact h2, h3⟩, ⟨h4, h5, by rw [e7]; exact h6, h7, by rw [e3]; exact h8, h9⟩, ⟨by rw [e6]; exact h10, by rw [e6]; exact h11⟩, by rw [e4]; exact h12, ⟨h13, fun q hq hT => ?_⟩, fun i hi k hk => ?_, ⟨fun i hi => ?_, fun hz => ?_, fun i hi => ?_, fun i hi => ?_⟩, fun i hi => ?_, fun i hi => ?_⟩
  · obtain ⟨a1, a2, a3⟩ := e2 (q % 20) (Nat.mod_lt _ (by decide))
    rw [a1, a2, a3]
    exact h14 q hq hT
  · rw [e1 i (by omega) k (by omega)]
    exact h15 i hi k hk
  · rw [e1 i (by omega) 12 (by decide), e1 i (by omega) 5 (by decide)]
    by_cases h : i + 1 < n
    · rw [if_pos h, e1 (i + 1) (by omega) 12 (by decide), h16 i hi, if_pos h]
    · rw [if_neg h, h16 i hi, if_neg h]
  · rw [e1 0 (by decide) 13 (by decide), e6]
    exact h17 hz
  · rw [e1 i (by omega) 14 (by decide), e1 i (by omega) 13 (by decide), e1 i (by omega) 7 (by decide), e1 i (by omega) 0 (by decide)]
    exact h18 i hi
  · rw [e1 (i + 1) (by omega) 13 (by decide), e1 i (by omega) 14 (by decide), e1 i (by omega) 6 (by decide), e1 (i + 1) (by omega) 12 (by decide)]
    exact h19 i hi
  · have := h20 i hi
    rw [e1 i (by omega) 0 (by decide), e1 i (by omega) 1 (by decide), e1 i (by omega) 2 (by decide), e1 i (by omega) 3 (by decide), e1 i (by omega) 4 (by decide), e1 i (by omega) 5 (by decide), e1 i (by omega) 6 (by decide), e1 i (by omega) 7 (by decide), e1 i (by omega) 8 (by decide), e1 i (by omega) 9 (by decide), e1 i (by omega) 10 (by decide)]
    exact this
  · rw [e1 i hi 11 (by decide)]
    exact h21 i hi
theorem pm_lt {k : Nat} (h : k < 12) : pm k < 12 := by
  unfold pm
  split
  · omega
  · split <;> omega
theorem LR_M {n t T : Nat} {v : R2} {M N : Nat → Int32} (e : ∀ j, j < 114 → N j = M j) (h : LR n t T v M) : LR n t T v N := by
  obtain ⟨h1, ⟨h2, h3⟩, ⟨h4, h5, h6, h7, h8, h9⟩, ⟨h10, h11⟩, h12, ⟨h13, h14⟩, h15, h16, h20, h21⟩ := h
  refine ⟨h1, ⟨h2, by rw [e 0 (by decide)]; exact h3⟩, ⟨h4, h5, h6, by rw [e 2 (by decide)]; exact h7, h8, by rw [e 3 (by decide)]; exact h9⟩, ⟨by rw [e 1 (by decide)]; exact h10, h11⟩, by rw [e 4 (by decide)]; exact h12, ⟨by rw [e 5 (by decide)]; exact h13, fun q hq hT => ?_⟩, fun i hi k hk => ?_, h16, h20, h21⟩
  · have hm : min T 20 ≤ 20 := Nat.min_le_right _ _
    rw [e (54 + 3 * (q + min T 20 - T)) (by omega), e (54 + 3 * (q + min T 20 - T) + 1) (by omega), e (54 + 3 * (q + min T 20 - T) + 2) (by omega)]
    exact h14 q hq hT
  · have := pm_lt hk
    rw [e (6 + 12 * i + pm k) (by omega)]
    exact h15 i hi k hk
/-! copying -/
theorem stcopy_eq (g g2 : Nat → Int32) (h : g2 11 = 0 ∨ g2 11 = 1) : ∃ w, f_X4_copyFrom g g2 = some w ∧ ∀ c, c < 15 → w c = g2 c := by
  unfold f_X4_copyFrom
  simp only [zlet_d]
  have hz : zbo (g2 11) = true := decide_eq_true h
  rw [hz, zg_t]
  refine ⟨_, rfl, fun c hc => ?_⟩
  match c, hc with
  | 0, _ => rfl
  | 1, _ => rfl
  | 2, _ => rfl
  | 3, _ => rfl
  | 4, _ => rfl
  | 5, _ => rfl
  | 6, _ => rfl
  | 7, _ => rfl
  | 8, _ => rfl
  | 9, _ => rfl
  | 10, _ => rfl
  | 11, _ => rfl
  | 12, _ => rfl
  | 13, _ => rfl
  | 14, _ => rfl
  | c + 15, h => exact absurd h (by omega)
theorem copy_eq (v u : R2) (hu : SB u) : ∃ w, f_X1_copyFrom v u = some w ∧ EQL w u := by
  unfold f_X1_copyFrom
  refine zloop_inv (b_X1_copyFrom_2 u) 4 (fun i s => s.1 = nI i ∧ ∀ j, j < i → ∀ c, c < 15 → s.2 j c = u j c) _ ?_ ?_ 4 0 1000 _ (by omega) (by omega) ?_
  · rintro ⟨x, w⟩ rc ⟨h1, h2⟩
    dsimp only at h1 h2
    unfold b_X1_copyFrom_2
    dsimp only
    rw [h1, if_pos (by decide)]
    unfold j_X1_copyFrom_28 f_X5_copyFrom
    simp only [zlet_d, zbd_s]
    refine ⟨_, rfl, ⟨fun i hi c hc => ?_, fun c hc => ?_, ⟨?_, ?_⟩, ?_, ?_, ?_⟩⟩
    · rw [z2_r (by omega), z2_r (by omega), z2_r (by omega)]
      unfold zpLg
      rw [vau_o (by omega), vau_o (by omega), vau_o (by omega), vau_o (by omega)]
      exact h2 i hi c hc
    · have k0 : zn 0 = 0 := by decide
      have k20 : zn 20 = 20 := by decide
      rw [z2_r (by decide), z2_r (by decide), z2_r (by decide), z2_r (by decide), z2_r (by decide), z2_r (by decide), z2_r (by decide), z2_r (by decide), z2_r (by decide)]
      unfold zpLg
      rw [vau_o (by decide), vau_o (by decide), vau_o (by decide), vau_s, vau_o (by decide), vau_o (by decide), vau_s, vau_o (by decide), vau_s, k0, k20]
      exact ⟨sb_cpy0 hc, sb_cpy0 hc, sb_cpy0 hc⟩
    · rw [z2_r (by decide), z2_r (by decide), z2_r (by decide)]
      rfl
    · rw [z2_r (by decide), z2_r (by decide), z2_r (by decide)]
      rfl
    · rw [z2_c (by decide), z2_c (by decide), z2_s]
    · rw [z2_c (by decide), z2_s]
    · rw [z2_s]
  · rintro i ⟨x, w⟩ hi ⟨h1, h2⟩
    dsimp only at h1 h2
    subst h1
    obtain ⟨g, e1, e2⟩ := stcopy_eq (w i) (u i) (hu i hi)
    refine ⟨(nI (i + 1), va_up w i g), ⟨rfl, fun j hj c hc => ?_⟩, fun rc => ?_⟩
    · show va_up w i g j c = u j c
      by_cases hji : j = i
      · subst hji
        rw [vau_s]
        exact e2 c hc
      · rw [vau_o hji]
        exact h2 j (by omega) c hc
    · unfold b_X1_copyFrom_2
      dsimp only
      have hne : ¬ (4 : Int32) ≤ nI i := nI_ge (b := 4) hi (by decide)
      rw [if_neg hne, z4 hi, zg_t, zg_t, n4 hi, e1, zbd_s, nI_1]
      rfl
  · exact ⟨nI_0.symm, fun j h => absurd h (by omega)⟩
/-! what was, to be brought back -/
def RP (P q : Nat) (pn pz : Int32) (pl : Nat → R2) (m2 : Int32) (mp : Nat → Int32) : Prop := P ≤ 6 ∧ q < 6 ∧ pn = nI q ∧ pz = nI P ∧ m2 = nI P ∧ ∀ k, k < P → ∃ n t T, t ≤ 9999 ∧ LR n t T (pl ((q + 6 - P + k) % 6)) (fun j => mp (114 * k + j))
theorem notes51_eq (ms mp : Nat → Int32) {P : Nat} (hP : P < 6) : ∃ o, zloop (b_X8_notes_51 ms (nI P)) 1000 (0, mp) = some o ∧ o.1 = nI (P + 1) ∧ (∀ j, j < 114 → o.2 (114 * P + j) = ms j) ∧ ∀ j, j < 114 * P → o.2 j = mp j := by
  refine zloop_inv (b_X8_notes_51 ms (nI P)) 114 (fun i s => s.1 = nI i ∧ (∀ j, j < i → s.2 (114 * P + j) = ms j) ∧ ∀ j, j < 114 * P → s.2 j = mp j) _ ?_ ?_ 114 0 1000 _ (by omega) (by omega) ?_
  · rintro ⟨x, w⟩ rc ⟨h1, h2, h3⟩
    dsimp only at h1 h2 h3
    unfold b_X8_notes_51
    dsimp only
    rw [h1, if_pos (by decide)]
    unfold j_X8_notes_83
    rw [zlet_d, nI_1]
    exact ⟨_, rfl, rfl, h2, h3⟩
  · rintro i ⟨x, w⟩ hi ⟨h1, h2, h3⟩
    dsimp only at h1 h2 h3
    subst h1
    have e : 114 * nI P + nI i = nI (114 * P + i) := by
      show nI 114 * nI P + nI i = _
      rw [pk_mul, nI_add]
    refine ⟨(nI (i + 1), upd w (114 * P + i) (ms i)), ⟨rfl, fun j hj => ?_, fun j hj => ?_⟩, fun rc => ?_⟩
    · show upd w (114 * P + i) (ms i) (114 * P + j) = ms j
      by_cases hji : j = i
      · subst hji; rw [upd_s]
      · rw [upd_o (by omega)]; exact h2 j (by omega)
    · show upd w (114 * P + i) (ms i) j = mp j
      rw [upd_o (by omega)]; exact h3 j hj
    · unfold b_X8_notes_51
      dsimp only
      have hne : ¬ (114 : Int32) ≤ nI i := nI_ge (b := 114) hi (by decide)
      rw [if_neg hne, e, zin_n (i := i) (n := 114) hi (by decide), zin_n (i := 114 * P + i) (n := 684) (by omega) (by decide), zg_t, zg_t, zn_n (i := i) (by omega), zn_n (i := 114 * P + i) (by omega), zlet_d, zlet_d, nI_1]
  · exact ⟨nI_0.symm, fun j h => absurd h (by omega), fun _ _ => rfl⟩
theorem notes_eq (ms mp : Nat → Int32) {P : Nat} (hP : P ≤ 6) : ∃ o, f_X8_notes (nI P) ms mp = some o ∧ o.1 = nI (min (P + 1) 6) ∧ (∀ j, j < 114 → o.2 (114 * (min (P + 1) 6 - 1) + j) = ms j) ∧ ∀ k j, k + 1 < min (P + 1) 6 → j < 114 → o.2 (114 * k + j) = mp (114 * (if P = 6 then k + 1 else k) + j) := by
  unfold f_X8_notes
  by_cases h : P = 6
  · subst h
    have h6 : nI 6 = (6 : Int32) := rfl
    rw [if_pos h6]
    refine zloop_inv (b_X8_notes_11 (nI 6) ms) 570 (fun i s => s.1 = nI i ∧ (∀ j, j < i → s.2 j = mp (j + 114)) ∧ ∀ j, i ≤ j → s.2 j = mp j) _ ?_ ?_ 570 0 1000 _ (by omega) (by omega) ?_
    · rintro ⟨x, w⟩ rc ⟨h1, h2, h3⟩
      dsimp only at h1 h2 h3
      unfold b_X8_notes_11
      dsimp only
      rw [h1, if_pos (by decide)]
      unfold j_X8_notes_39
      rw [zlet_d, show nI 6 - 1 = nI 5 from by decide]
      unfold j_X8_notes_49
      obtain ⟨o, a1, a2, a3, a4⟩ := notes51_eq ms w (P := 5) (by decide)
      refine ⟨o, a1, a2, a3, fun k j hk hj => ?_⟩
      rw [if_pos rfl, a4 _ (by omega), h2 _ (by omega), show 114 * (k + 1) + j = 114 * k + j + 114 by omega]
    · rintro i ⟨x, w⟩ hi ⟨h1, h2, h3⟩
      dsimp only at h1 h2 h3
      subst h1
      have e : nI i + 114 = nI (i + 114) := nI_add i 114
      refine ⟨(nI (i + 1), upd w i (w (i + 114))), ⟨rfl, fun j hj => ?_, fun j hj => ?_⟩, fun rc => ?_⟩
      · show upd w i _ j = mp (j + 114)
        by_cases hji : j = i
        · subst hji; rw [upd_s]; exact h3 _ (by omega)
        · rw [upd_o hji]; exact h2 j (by omega)
      · show upd w i _ j = mp j
        rw [upd_o (by omega)]; exact h3 j (by omega)
      · unfold b_X8_notes_11
        dsimp only
        have hne : ¬ (570 : Int32) ≤ nI i := nI_ge (b := 570) hi (by decide)
        rw [if_neg hne, e, zin_n (i := i + 114) (n := 684) (by omega) (by decide), zin_n (i := i) (n := 684) (by omega) (by decide), zg_t, zg_t, zn_n (i := i + 114) (by omega), zn_n (i := i) (by omega), zlet_d, zlet_d, nI_1]
    · exact ⟨nI_0.symm, fun j h => absurd h (by omega), fun _ _ => rfl⟩
  · have hne : ¬ nI P = (6 : Int32) := fun e => h ((nI_eq (a := P) (b := 6) (by omega) (by decide)).mp e)
    rw [if_neg hne]
    unfold j_X8_notes_49
    obtain ⟨o, a1, a2, a3, a4⟩ := notes51_eq ms mp (P := P) (by omega)
    have hm : min (P + 1) 6 = P + 1 := by omega
    rw [hm]
    refine ⟨o, a1, a2, a3, fun k j hk hj => ?_⟩
    rw [if_neg h]
    exact a4 _ (by omega)
theorem keep_eq {n t T : Nat} {v : R2} {ms : Nat → Int32} {P q : Nat} {pn pz : Int32} {pl : Nat → R2} {m2 : Int32} {mp : Nat → Int32} (hv : LR n t T v ms) (ht : t ≤ 9999) (hp : RP P q pn pz pl m2 mp) : ∃ o o', f_X2_keep pn pz pl v = some o ∧ f_X8_notes m2 ms mp = some o' ∧ RP (min (P + 1) 6) ((q + 1) % 6) o.1 o.2.1 o.2.2 o'.1 o'.2 := by
  obtain ⟨p1, p2, rfl, rfl, rfl, p6⟩ := hp
  obtain ⟨o', a1, a2, a3, a4⟩ := notes_eq ms mp p1
  obtain ⟨w, b1, b2⟩ := copy_eq (pl q) v hv.2.2.2.2.2.2.2.2.2
  have e6 : zin (nI q) 6 = true := zin_n p2 (by decide)
  have eq : zn (nI q) = q := zn_n (by omega)
  have er : nI (q + 1) - nI (q + 1) / 6 * 6 = nI ((q + 1) % 6) := pk_rem (a := q + 1) (d := 6) (by omega) (by decide) (by decide)
  have em : zmin (nI (P + 1)) 6 = nI (min (P + 1) 6) := by
    show (if (6 : Int32) < nI (P + 1) then (6 : Int32) else nI (P + 1)) = _
    by_cases h : 6 < P + 1
    · have h1 : (6 : Int32) < nI (P + 1) := nI_lt (a := 6) h (by omega)
      rw [if_pos h1, show min (P + 1) 6 = 6 by omega]
      rfl
    · have h1 : ¬ (6 : Int32) < nI (P + 1) := nI_nlt (a := 6) (b := P + 1) (by omega) (by decide)
      rw [if_neg h1, show min (P + 1) 6 = P + 1 by omega]
  refine ⟨(nI ((q + 1) % 6), nI (min (P + 1) 6), va_up pl q w), o', ?_, a1, by omega, by omega, rfl, rfl, a2, fun k hk => ?_⟩
  · unfold f_X2_keep
    rw [e6, zg_t, eq, b1, zbd_s, zlet_d, zlet_d, zlet_d, nI_1, nI_1, er, em]
  · by_cases hk1 : k + 1 = min (P + 1) 6
    · refine ⟨n, t, T, ht, ?_⟩
      show LR n t T (va_up pl q w ((((q + 1) % 6) + 6 - min (P + 1) 6 + k) % 6)) _
      rw [show (((q + 1) % 6) + 6 - min (P + 1) 6 + k) % 6 = q by omega, vau_s]
      refine LR_M (M := ms) (fun j hj => ?_) (LR_v b2 hv)
      show o'.2 (114 * k + j) = ms j
      rw [← a3 j hj, show 114 * (min (P + 1) 6 - 1) + j = 114 * k + j by omega]
    · obtain ⟨n', t', T', g1, g2⟩ := p6 (if P = 6 then k + 1 else k) (by split <;> omega)
      refine ⟨n', t', T', g1, ?_⟩
      show LR n' t' T' (va_up pl q w ((((q + 1) % 6) + 6 - min (P + 1) 6 + k) % 6)) _
      have ei : (((q + 1) % 6) + 6 - min (P + 1) 6 + k) % 6 = (q + 6 - P + (if P = 6 then k + 1 else k)) % 6 := by
        by_cases h : P = 6
        · rw [if_pos h]; omega
        · rw [if_neg h]; omega
      have en : (q + 6 - P + (if P = 6 then k + 1 else k)) % 6 ≠ q := by
        by_cases h : P = 6
        · rw [if_pos h]; omega
        · rw [if_neg h]; omega
      rw [ei, vau_o en]
      exact LR_M (fun j hj => a4 k j (by omega) hj) g2
