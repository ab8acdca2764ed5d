/-! ===== pure: the best taps, by the reference ===== -/
theorem flow_same {n : Nat} {v w : R2} (hv : CR n v) (hw : CR n w) (h5 : ∀ j, j < n → w j 5 = v j 5) : ∀ (k i : Nat), i + k + 1 = n → w i 12 = v i 12 := by
  intro k
  induction k with
  | zero =>
    intro i hi
    rw [hv.1 i (by omega), hw.1 i (by omega), if_neg (by omega), if_neg (by omega), h5 i (by omega)]
  | succ k ih =>
    intro i hi
    rw [hv.1 i (by omega), hw.1 i (by omega), if_pos (by omega), if_pos (by omega), h5 i (by omega), ih (i + 1) (by omega)]
theorem EF_congr {v : R2} {n : Nat} {τ τ' : Nat → Int32} : ∀ (k i : Nat) (x a : Int32), (∀ j, i ≤ j → j < i + k → τ j = τ' j) → EF v n k i x a τ = EF v n k i x a τ' := by
  intro k
  induction k with
  | zero => intro i x a _; rfl
  | succ k ih =>
    intro i x a h
    show EF v n k (i + 1) (otF v i x (τ i) - lstF v n i) (afF v i a x (τ i)) τ = EF v n k (i + 1) (otF v i x (τ' i) - lstF v n i) (afF v i a x (τ' i)) τ'
    rw [h i (Nat.le_refl i) (by omega)]
    exact ih (i + 1) _ _ (fun j h1 h2 => h j (by omega) (by omega))
/-- the reference's row with other taps -/
def ODr (n t T : Nat) (v : R2) (τ N : Nat → Int32) : Prop := ∃ w, LQ n t T w N ∧ (∀ j, j < n → w j 7 = τ j) ∧ (∀ j, j < n → ∀ c, c < 12 → c ≠ 7 → w j c = v j c) ∧ w 9 1 = v 9 1
theorem OD_upd {n t T : Nat} {v : R2} {τ N : Nat → Int32} {i : Nat} {x : Int32} (h : ODr n t T v τ N) (hi : i < n) (hx : inI x (-5) 5) : ODr n t T v (upd τ i x) (upd N (6 + 12 * i + 7) x) := by
  obtain ⟨w, h1, h2, h3, h4⟩ := h
  refine ⟨z2 w i 7 x, LQ_st (k := 7) h1 hi (by decide) (RG_7 h1.2.2.2.2.2.2.2.1 hx) (SB_z2 h1.2.2.2.2.2.2.2.2 (by decide)), fun j hj => ?_, fun j hj c hc h7 => ?_, ?_⟩
  · by_cases e : j = i
    · subst e; rw [z2_s, upd_s]
    · rw [z2_r e, upd_o e]; exact h2 j hj
  · rw [z2_e, if_neg (fun q => h7 q.2)]; exact h3 j hj c hc h7
  · rw [z2_r (by have := h1.1; omega)]; exact h4
theorem OD_0 {n t T : Nat} {v : R2} {τ N : Nat → Int32} (h : ODr n t T v τ N) : N 0 = nI n := by
  obtain ⟨w, h1, -, -, -⟩ := h
  exact h1.2.1.2
theorem OD_7 {n t T : Nat} {v : R2} {τ N : Nat → Int32} (h : ODr n t T v τ N) {j : Nat} (hj : j < n) : N (6 + 12 * j + 7) = τ j ∧ inI (τ j) (-5) 5 := by
  obtain ⟨w, h1, h2, -, -⟩ := h
  have := h1.2.2.2.2.2.2.1 j hj 7 (by decide)
  have h7 := (h1.2.2.2.2.2.2.2.1 j hj).2.2.2.2.2.2.2.1
  rw [h2 j hj] at this h7
  exact ⟨this.symm, h7⟩
theorem OD_8 {n t T : Nat} {v : R2} {τ N : Nat → Int32} (h : ODr n t T v τ N) {j : Nat} (hj : j < n) : N (6 + 12 * j + 8) = v j 11 := by
  obtain ⟨w, h1, -, h3, -⟩ := h
  have := h1.2.2.2.2.2.2.1 j hj 11 (by decide)
  rw [h3 j hj 11 (by decide) (by decide)] at this
  exact this.symm
theorem od_eval {n t T : Nat} {v : R2} {τ N : Nat → Int32} (hC : CR n v) (h : ODr n t T v τ N) (mf mi mo mw mn : Nat → Int32) : ∃ o, f_X8_lays N mf mi mo mw mn = some o ∧ f_X8_offOf N o.2.2.1 = some (EF v n n 0 (v 9 1) 0 τ) := by
  obtain ⟨w, h1, h2, h3, h4⟩ := h
  obtain ⟨w', -, hL⟩ := reckon_LR h1
  have hFw := h1.2.2.2.2.2.2.1
  have hF := hL.2.2.2.2.2.2.1
  have hCw := hL.2.2.2.2.2.2.2.1
  have hsame : ∀ j, j < n → ∀ c, c < 12 → w' j c = w j c := fun j hj c hc => (hF j hj c hc).trans (hFw j hj c hc).symm
  have hv : ∀ j, j < n → ∀ c, c < 12 → c ≠ 7 → w' j c = v j c := fun j hj c hc h7 => (hsame j hj c hc).trans (h3 j hj c hc h7)
  obtain ⟨o, p1, p2⟩ := lays_eq mf mi mo mw mn hL.1 hL.2.1.2 hL.2.2.2.1.1 hF hCw hL.2.2.2.2.2.2.2.2.1
  refine ⟨o, p1, ?_⟩
  rw [offM_eq w' N o.2.2.1 hL.1.2 hL.2.1.2 hF (fun i hi => (p2 i hi).2.2.1)]
  have e1 := off_EF (v := v) hCw (fun j hj => ⟨hv j hj 0 (by decide) (by decide), hv j hj 1 (by decide) (by decide), hv j hj 6 (by decide) (by decide), flow_same hC hCw (fun j hj => hv j hj 5 (by decide) (by decide)) (n - j - 1) j (by omega)⟩) n 0 0 (by omega)
  have hn := hL.1
  have e2 : w' 0 13 = v 9 1 := by rw [hCw.2.1 (by omega), hL.2.2.2.1.1, ← h1.2.2.2.1.1]; exact h4
  rw [e1, e2, EF_congr (τ := fun j => w' j 7) (τ' := τ) n 0 _ _ (fun j _ hj => (hsame j (by omega) 7 (by decide)).trans (h2 j (by omega)))]
def NX (v : R2) : Nat → (Nat → Int32) → Int32 × (Nat → Int32)
  | 0, τ => (0, τ)
  | j + 1, τ => if v j 11 = 0 then (if 5 ≤ τ j then NX v j (upd τ j (-5)) else (1, upd τ j (τ j + 1))) else NX v j τ
theorem next_eq {n t T : Nat} {v : R2} (hn : n ≤ 4) : ∀ (j f : Nat) (τ N : Nat → Int32), j ≤ n → j < f → ODr n t T v τ N → ∃ N', zloop b_X8_nextTaps_9 f (nI j - 1, N) = some ((NX v j τ).1, N') ∧ ODr n t T v (NX v j τ).2 N' := by
  intro j
  induction j with
  | zero =>
    intro f τ N hj hf h
    obtain ⟨f, rfl⟩ : ∃ g, f = g + 1 := ⟨f - 1, by omega⟩
    refine ⟨N, ?_, h⟩
    show b_X8_nextTaps_9 (zloop b_X8_nextTaps_9 f) (nI 0 - 1, N) = _
    unfold b_X8_nextTaps_9
    dsimp only
    rw [if_pos (by decide)]
    rfl
  | succ j ih =>
    intro f τ N hj hf h
    obtain ⟨f, rfl⟩ : ∃ g, f = g + 1 := ⟨f - 1, by omega⟩
    have j4 : j < 4 := by omega
    obtain ⟨e7, r7⟩ := OD_7 h (show j < n by omega)
    have e8 := OD_8 h (show j < n by omega)
    have em : nI j + (-1) = nI j - 1 := (Int32.sub_eq_add_neg _ _).symm
    have hb : b_X8_nextTaps_9 (zloop b_X8_nextTaps_9 f) (nI (j + 1) - 1, N) = if v j 11 = 0 then (if 5 ≤ τ j then zloop b_X8_nextTaps_9 f (nI j - 1, upd N (6 + 12 * j + 7) (-5)) else some (1, upd N (6 + 12 * j + 7) (τ j + 1))) else zloop b_X8_nextTaps_9 f (nI j - 1, N) := by
      generalize zloop b_X8_nextTaps_9 f = rc
      unfold b_X8_nextTaps_9 j_X8_nextTaps_34 j_X8_nextTaps_61
      dsimp only
      rw [nI_pred, if_neg (nI_pos (by omega)), of_8 N j4, zbd_s, e8, of_7 N j4, zbd_s, zbd_s, e7, puts_7 N j4, puts_7 N j4, zbd_s, zbd_s, zlet_d, zlet_d, em]
    show ∃ N', b_X8_nextTaps_9 (zloop b_X8_nextTaps_9 f) (nI (j + 1) - 1, N) = some ((if v j 11 = 0 then (if 5 ≤ τ j then NX v j (upd τ j (-5)) else (1, upd τ j (τ j + 1))) else NX v j τ).1, N') ∧ ODr n t T v (if v j 11 = 0 then (if 5 ≤ τ j then NX v j (upd τ j (-5)) else (1, upd τ j (τ j + 1))) else NX v j τ).2 N'
    rw [hb]
    by_cases c1 : v j 11 = 0
    · rw [if_pos c1, if_pos c1]
      by_cases c2 : 5 ≤ τ j
      · rw [if_pos c2, if_pos c2]
        exact ih f _ _ (by omega) (by omega) (OD_upd h (by omega) ⟨by decide, by decide⟩)
      · rw [if_neg c2, if_neg c2]
        refine ⟨_, rfl, OD_upd h (by omega) ?_⟩
        have c3 := Int32.lt_iff_toInt_lt.mp (Int32.not_le.mp c2)
        have k5 : (5 : Int32).toInt = 5 := by decide
        have k1 : (1 : Int32).toInt = 1 := by decide
        rw [k5] at c3
        unfold inI at r7 ⊢
        rw [tI_add (by rw [k1]; omega) (by rw [k1]; omega), k1]
        omega
    · rw [if_neg c1, if_neg c1]
      exact ih f _ _ (by omega) (by omega) h
theorem nextTaps_eq {n t T : Nat} {v : R2} (hn : n ≤ 4) {τ N : Nat → Int32} (h : ODr n t T v τ N) : ∃ N', f_X8_nextTaps N = some ((NX v n τ).1, N') ∧ ODr n t T v (NX v n τ).2 N' := by
  obtain ⟨N', h1, h2⟩ := next_eq (v := v) hn n 1000 τ N (Nat.le_refl n) (by omega) h
  refine ⟨N', ?_, h2⟩
  unfold f_X8_nextTaps
  rw [z0i, zg_t, z0k, OD_0 h, zlet_d]
  exact h1
def cpT (τ : Nat → Int32) : Nat → (Nat → Int32) → Nat → Int32
  | 0, me => me
  | k + 1, me => upd (cpT τ k me) k (τ k)
theorem cpT_at (τ me : Nat → Int32) : ∀ (k j : Nat), j < k → cpT τ k me j = τ j := by
  intro k
  induction k with
  | zero => intro j h; exact absurd h (by omega)
  | succ k ih =>
    intro j h
    show upd (cpT τ k me) k (τ k) j = τ j
    by_cases e : j = k
    · subst e; rw [upd_s]
    · rw [upd_o e]; exact ih j (by omega)
theorem b109_eq {n t T : Nat} {v : R2} (hn : n ≤ 4) {τ N : Nat → Int32} (h : ODr n t T v τ N) (rc : (Int32 × Int32 × (Nat → Int32) × (Nat → Int32) × (Nat → Int32) × (Nat → Int32) × (Nat → Int32) × (Nat → Int32) × (Nat → Int32)) → Option (Int32 × (Nat → Int32) × (Nat → Int32) × (Nat → Int32) × (Nat → Int32) × (Nat → Int32) × (Nat → Int32) × (Nat → Int32) × (Nat → Int32))) (s : Int32 × Int32 × (Nat → Int32) × (Nat → Int32) × (Nat → Int32) × (Nat → Int32) × (Nat → Int32) × (Nat → Int32) × (Nat → Int32)) (hs : s.2.2.1 = N) (mf mi mo mw mn : Nat → Int32) (m : Int32) (me : Nat → Int32) : ∀ (k i f : Nat), i + k = n → k < f → zloop (b_X8_findsBest_109 rc s mf mi mo mw mn m) f (nI i, cpT τ i me) = j_X8_findsBest_138 rc s mf mi mo mw mn m (cpT τ n me) := by
  have h0 := OD_0 h
  intro k
  induction k with
  | zero =>
    intro i f hi hf
    obtain ⟨f, rfl⟩ : ∃ g, f = g + 1 := ⟨f - 1, by omega⟩
    obtain rfl : i = n := by omega
    show b_X8_findsBest_109 rc s mf mi mo mw mn m (zloop (b_X8_findsBest_109 rc s mf mi mo mw mn m) f) (nI i, cpT τ i me) = _
    unfold b_X8_findsBest_109
    dsimp only
    rw [z0i, zg_t, z0k, hs, h0, if_pos (Int32.le_refl _)]
  | succ k ih =>
    intro i f hi hf
    obtain ⟨f, rfl⟩ : ∃ g, f = g + 1 := ⟨f - 1, by omega⟩
    have i4 : i < 4 := by omega
    have hb : b_X8_findsBest_109 rc s mf mi mo mw mn m (zloop (b_X8_findsBest_109 rc s mf mi mo mw mn m) f) (nI i, cpT τ i me) = zloop (b_X8_findsBest_109 rc s mf mi mo mw mn m) f (nI (i + 1), cpT τ (i + 1) me) := by
      generalize zloop (b_X8_findsBest_109 rc s mf mi mo mw mn m) f = rc2
      unfold b_X8_findsBest_109
      dsimp only
      rw [z0i, zg_t, z0k, hs, h0, if_neg (nI_ge (show i < n by omega) (by omega)), of_7 N i4, zbd_s, (OD_7 h (show i < n by omega)).1, z4 i4, zg_t, n4 i4, zlet_d, zlet_d, nI_1]
      rfl
    exact hb.trans (ih (i + 1) f (by omega) (by omega))
def B2 (n : Nat) (b : Int32) (me : Nat → Int32) (st : Int32 × (Nat → Int32)) : Prop := b = st.1 ∧ 0 ≤ b.toInt ∧ ∀ j, j < n → me j = st.2 j
def BRr (n : Nat) (b : Int32) (me : Nat → Int32) (st : Int32 × (Nat → Int32)) : Prop := (b = -4 ∧ st.1 = 1000000) ∨ B2 n b me st
theorem b71_eq {n t T : Nat} {v : R2} (hn : n ≤ 4) (hC : CR n v) {τ N : Nat → Int32} (h : ODr n t T v τ N) (mz mf mi mo mw mn me : Nat → Int32) (b : Int32) (st : Int32 × (Nat → Int32)) (hb : BRr n b me st) {off : Int32} (ho : EF v n n 0 (v 9 1) 0 τ = off) (hr : inI off 0 60000) : ∃ (b' : Int32) (N' mf' mi' mo' mw' mn' me' : Nat → Int32), (∀ rc : (Int32 × Int32 × (Nat → Int32) × (Nat → Int32) × (Nat → Int32) × (Nat → Int32) × (Nat → Int32) × (Nat → Int32) × (Nat → Int32)) → Option (Int32 × (Nat → Int32) × (Nat → Int32) × (Nat → Int32) × (Nat → Int32) × (Nat → Int32) × (Nat → Int32) × (Nat → Int32) × (Nat → Int32)), b_X8_findsBest_71 mz rc (1, b, N, mf, mi, mo, mw, mn, me) = rc ((NX v n τ).1, b', N', mf', mi', mo', mw', mn', me')) ∧ ODr n t T v (NX v n τ).2 N' ∧ B2 n b' me' (if off < st.1 then (off, τ) else st) := by
  obtain ⟨o4, p1, p2⟩ := od_eval hC h mf mi mo mw mn
  rw [ho] at p2
  obtain ⟨N', q1, q2⟩ := nextTaps_eq (v := v) hn h
  have j138 : ∀ (rc : (Int32 × Int32 × (Nat → Int32) × (Nat → Int32) × (Nat → Int32) × (Nat → Int32) × (Nat → Int32) × (Nat → Int32) × (Nat → Int32)) → Option (Int32 × (Nat → Int32) × (Nat → Int32) × (Nat → Int32) × (Nat → Int32) × (Nat → Int32) × (Nat → Int32) × (Nat → Int32) × (Nat → Int32))) (m : Int32) (me' : Nat → Int32), j_X8_findsBest_138 rc (1, b, N, mf, mi, mo, mw, mn, me) o4.1 o4.2.1 o4.2.2.1 o4.2.2.2.1 o4.2.2.2.2 m me' = rc ((NX v n τ).1, m, N', o4.1, o4.2.1, o4.2.2.1, o4.2.2.2.1, o4.2.2.2.2, me') := fun rc m me' => by
    unfold j_X8_findsBest_138
    dsimp only
    rw [q1, zbd_s]
  have j99 : ∀ rc : (Int32 × Int32 × (Nat → Int32) × (Nat → Int32) × (Nat → Int32) × (Nat → Int32) × (Nat → Int32) × (Nat → Int32) × (Nat → Int32)) → Option (Int32 × (Nat → Int32) × (Nat → Int32) × (Nat → Int32) × (Nat → Int32) × (Nat → Int32) × (Nat → Int32) × (Nat → Int32) × (Nat → Int32)), j_X8_findsBest_99 rc (1, b, N, mf, mi, mo, mw, mn, me) o4.1 o4.2.1 o4.2.2.1 o4.2.2.2.1 o4.2.2.2.2 = rc ((NX v n τ).1, off, N', o4.1, o4.2.1, o4.2.2.1, o4.2.2.2.1, o4.2.2.2.2, cpT τ n me) := fun rc => by
    unfold j_X8_findsBest_99
    dsimp only
    rw [p2, zbd_s, zlet_d]
    have := b109_eq (v := v) hn h rc (1, b, N, mf, mi, mo, mw, mn, me) rfl o4.1 o4.2.1 o4.2.2.1 o4.2.2.2.1 o4.2.2.2.2 off me n 0 20000 (by omega) (by omega)
    rw [nI_0] at this
    exact this.trans (j138 rc off _)
  have hyes : (∀ rc : (Int32 × Int32 × (Nat → Int32) × (Nat → Int32) × (Nat → Int32) × (Nat → Int32) × (Nat → Int32) × (Nat → Int32) × (Nat → Int32)) → Option (Int32 × (Nat → Int32) × (Nat → Int32) × (Nat → Int32) × (Nat → Int32) × (Nat → Int32) × (Nat → Int32) × (Nat → Int32) × (Nat → Int32)), b_X8_findsBest_71 mz rc (1, b, N, mf, mi, mo, mw, mn, me) = j_X8_findsBest_99 rc (1, b, N, mf, mi, mo, mw, mn, me) o4.1 o4.2.1 o4.2.2.1 o4.2.2.2.1 o4.2.2.2.2) → off < st.1 → ∃ (b' : Int32) (N' mf' mi' mo' mw' mn' me' : Nat → Int32), (∀ rc : (Int32 × Int32 × (Nat → Int32) × (Nat → Int32) × (Nat → Int32) × (Nat → Int32) × (Nat → Int32) × (Nat → Int32) × (Nat → Int32)) → Option (Int32 × (Nat → Int32) × (Nat → Int32) × (Nat → Int32) × (Nat → Int32) × (Nat → Int32) × (Nat → Int32) × (Nat → Int32) × (Nat → Int32)), b_X8_findsBest_71 mz rc (1, b, N, mf, mi, mo, mw, mn, me) = rc ((NX v n τ).1, b', N', mf', mi', mo', mw', mn', me')) ∧ ODr n t T v (NX v n τ).2 N' ∧ B2 n b' me' (if off < st.1 then (off, τ) else st) := fun hq hlt => by
    refine ⟨off, N', o4.1, o4.2.1, o4.2.2.1, o4.2.2.2.1, o4.2.2.2.2, cpT τ n me, fun rc => (hq rc).trans (j99 rc), q2, ?_⟩
    rw [if_pos hlt]
    exact ⟨rfl, hr.1, fun j hj => cpT_at τ me n j hj⟩
  have hbody : ∀ rc : (Int32 × Int32 × (Nat → Int32) × (Nat → Int32) × (Nat → Int32) × (Nat → Int32) × (Nat → Int32) × (Nat → Int32) × (Nat → Int32)) → Option (Int32 × (Nat → Int32) × (Nat → Int32) × (Nat → Int32) × (Nat → Int32) × (Nat → Int32) × (Nat → Int32) × (Nat → Int32) × (Nat → Int32)), b_X8_findsBest_71 mz rc (1, b, N, mf, mi, mo, mw, mn, me) = if b = -4 then j_X8_findsBest_99 rc (1, b, N, mf, mi, mo, mw, mn, me) o4.1 o4.2.1 o4.2.2.1 o4.2.2.2.1 o4.2.2.2.2 else if b ≤ off then j_X8_findsBest_138 rc (1, b, N, mf, mi, mo, mw, mn, me) o4.1 o4.2.1 o4.2.2.1 o4.2.2.2.1 o4.2.2.2.2 b me else j_X8_findsBest_99 rc (1, b, N, mf, mi, mo, mw, mn, me) o4.1 o4.2.1 o4.2.2.1 o4.2.2.2.1 o4.2.2.2.2 := fun rc => by
    unfold b_X8_findsBest_71
    dsimp only
    rw [if_neg ne10, p1, zbd_s]
    simp only [zlet_d]
    rw [p2, zbd_s]
  have hmax : off < 1000000 := Int32.lt_iff_toInt_lt.mpr (by
    have km : (1000000 : Int32).toInt = 1000000 := by decide
    rw [km]
    have := hr.2
    omega)
  rcases hb with ⟨e1, e2⟩ | ⟨e1, e2, e3⟩
  · refine hyes (fun rc => ?_) (by rw [e2]; exact hmax)
    rw [hbody, if_pos e1]
  · have hne : ¬ b = -4 := fun q => by
      rw [q] at e2
      exact absurd e2 (by decide)
    by_cases c : b ≤ off
    · refine ⟨b, N', o4.1, o4.2.1, o4.2.2.1, o4.2.2.2.1, o4.2.2.2.2, me, fun rc => ?_, q2, ?_⟩
      · rw [hbody, if_neg hne, if_pos c]
        exact j138 rc b me
      · rw [if_neg (show ¬ off < st.1 by rw [← e1]; exact Int32.not_lt.mpr c)]
        exact ⟨e1, e2, e3⟩
    · refine hyes (fun rc => ?_) (by rw [← e1]; exact Int32.not_le.mp c)
      rw [hbody, if_neg hne, if_neg c]
theorem upd_upd (τ : Nat → Int32) (i : Nat) (x y : Int32) : upd (upd τ i x) i y = upd τ i y := funext fun j => by
  by_cases e : j = i
  · subst e; rw [upd_s, upd_s]
  · rw [upd_o e, upd_o e, upd_o e]
theorem upd_self {τ : Nat → Int32} {i : Nat} {x : Int32} (h : τ i = x) : upd τ i x = τ := funext fun j => by
  by_cases e : j = i
  · subst e; rw [upd_s, h]
  · rw [upd_o e]
theorem odo_eq {n t T : Nat} {v : R2} (hn : n ≤ 4) (hC : CR n v) (hR : RG n v) (mz : Nat → Int32) : ∀ (k i : Nat) (τ N mf mi mo mw mn me : Nat → Int32) (b : Int32) (st : Int32 × (Nat → Int32)) (x a : Int32) (f : Nat), i + k = n → (∀ j, i ≤ j → j < n → τ j = loT v j) → ODr n t T v τ N → BRr n b me st → BnF i x a → (∀ τ', (∀ j, j < i → τ' j = τ j) → EF v n n 0 (v 9 1) 0 τ' = EF v n k i x a τ') → 11 ^ k ≤ f → ∃ (g : Nat) (b' : Int32) (N' mf' mi' mo' mw' mn' me' : Nat → Int32), f ≤ g + 11 ^ k ∧ zloop (b_X8_findsBest_71 mz) f (1, b, N, mf, mi, mo, mw, mn, me) = zloop (b_X8_findsBest_71 mz) g ((NX v i τ).1, b', N', mf', mi', mo', mw', mn', me') ∧ ODr n t T v (NX v i τ).2 N' ∧ B2 n b' me' (SF v n k i x a τ st) := by
  intro k
  induction k with
  | zero =>
    intro i τ N mf mi mo mw mn me b st x a f hi hlo hO hb hB hE hf
    obtain ⟨f, rfl⟩ : ∃ g, f = g + 1 := ⟨f - 1, by rw [Nat.pow_zero] at hf; omega⟩
    obtain rfl : i = n := by omega
    have he : EF v i i 0 (v 9 1) 0 τ = a := hE τ (fun _ _ => rfl)
    have hr : inI a 0 60000 := by
      have := hB.2
      unfold inI at *
      omega
    obtain ⟨b', N', mf', mi', mo', mw', mn', me', q1, q2, q3⟩ := b71_eq hn hC hO mz mf mi mo mw mn me b st hb he hr
    exact ⟨f, b', N', mf', mi', mo', mw', mn', me', by rw [Nat.pow_zero]; omega, q1 _, q2, q3⟩
  | succ k ih =>
    intro i τ0 N mf mi mo mw mn me b st x a f hi hlo hO hb hB hE hf
    have hin : i < n := by omega
    have hstep : ∀ (tap : Int32), inI tap (-5) 5 → ∀ τ', (∀ j, j < i + 1 → τ' j = upd τ0 i tap j) → EF v n n 0 (v 9 1) 0 τ' = EF v n k (i + 1) (otF v i x tap - lstF v n i) (afF v i a x tap) τ' := fun tap _ τ' h => by
      rw [hE τ' (fun j hj => by rw [h j (by omega), upd_o (by omega)])]
      show EF v n k (i + 1) (otF v i x (τ' i) - lstF v n i) (afF v i a x (τ' i)) τ' = _
      rw [h i (by omega), upd_s]
    have hpow : 11 ^ (k + 1) = 11 * 11 ^ k := by rw [Nat.pow_succ]; omega
    rw [hpow] at hf ⊢
    by_cases hst : v i 11 = 0
    · have h5 : τ0 i = -5 := by rw [hlo i (Nat.le_refl i) hin]; unfold loT; rw [if_pos hst]
      have hcn : cnT v i = 11 := by unfold cnT; rw [if_pos hst]
      have hl5 : loT v i = -5 := by unfold loT; rw [if_pos hst]
      have inner : ∀ (c : Nat) (tap : Int32) (N mf mi mo mw mn me : Nat → Int32) (b : Int32) (st : Int32 × (Nat → Int32)) (f : Nat), tap.toInt + (c + 1 : Nat) = 5 + 1 → -5 ≤ tap.toInt → ODr n t T v (upd τ0 i tap) N → BRr n b me st → (c + 1) * 11 ^ k ≤ f → ∃ (g : Nat) (b' : Int32) (N' mf' mi' mo' mw' mn' me' : Nat → Int32), f ≤ g + (c + 1) * 11 ^ k ∧ zloop (b_X8_findsBest_71 mz) f (1, b, N, mf, mi, mo, mw, mn, me) = zloop (b_X8_findsBest_71 mz) g ((NX v i τ0).1, b', N', mf', mi', mo', mw', mn', me') ∧ ODr n t T v (NX v i τ0).2 N' ∧ B2 n b' me' (foldF (fun tap s => SF v n k (i + 1) (otF v i x tap - lstF v n i) (afF v i a x tap) (upd τ0 i tap) s) (c + 1) tap st) := by
        intro c
        induction c with
        | zero =>
          intro tap N mf mi mo mw mn me b st f g1 g2 hO hb hf
          have ht : inI tap (-5) 5 := by unfold inI; omega
          have hs := Bn_step hn hC hR hin ht hB
          obtain ⟨g, b', N', mf', mi', mo', mw', mn', me', r1, r2, r3, r4⟩ := ih (i + 1) (upd τ0 i tap) N mf mi mo mw mn me b st _ _ f (by omega) (fun j h1 h2 => by rw [upd_o (by omega)]; exact hlo j (by omega) h2) hO hb hs.1 (hstep tap ht) (by omega)
          have k5 : (5 : Int32).toInt = 5 := by decide
          have hge : 5 ≤ tap := Int32.le_iff_toInt_le.mpr (by rw [k5]; omega)
          have hNX : NX v (i + 1) (upd τ0 i tap) = NX v i τ0 := by
            show (if v i 11 = 0 then (if 5 ≤ upd τ0 i tap i then NX v i (upd (upd τ0 i tap) i (-5)) else (1, upd (upd τ0 i tap) i (upd τ0 i tap i + 1))) else NX v i (upd τ0 i tap)) = _
            rw [if_pos hst, upd_s, if_pos hge, upd_upd, upd_self h5]
          rw [hNX] at r2 r3
          exact ⟨g, b', N', mf', mi', mo', mw', mn', me', by omega, r2, r3, r4⟩
        | succ c ihc =>
          intro tap N mf mi mo mw mn me b st f g1 g2 hO hb hf
          have ht : inI tap (-5) 5 := by unfold inI; omega
          have hs := Bn_step hn hC hR hin ht hB
          have hmul : (c + 1 + 1) * 11 ^ k = (c + 1) * 11 ^ k + 11 ^ k := by rw [Nat.add_mul (c + 1) 1, Nat.one_mul]
          rw [hmul] at hf ⊢
          obtain ⟨g, b', N', mf', mi', mo', mw', mn', me', r1, r2, r3, r4⟩ := ih (i + 1) (upd τ0 i tap) N mf mi mo mw mn me b st _ _ f (by omega) (fun j h1 h2 => by rw [upd_o (by omega)]; exact hlo j (by omega) h2) hO hb hs.1 (hstep tap ht) (by omega)
          have k5 : (5 : Int32).toInt = 5 := by decide
          have hge : ¬ 5 ≤ tap := fun q => by
            have := Int32.le_iff_toInt_le.mp q
            rw [k5] at this
            omega
          have hNX : NX v (i + 1) (upd τ0 i tap) = (1, upd τ0 i (tap + 1)) := by
            show (if v i 11 = 0 then (if 5 ≤ upd τ0 i tap i then NX v i (upd (upd τ0 i tap) i (-5)) else (1, upd (upd τ0 i tap) i (upd τ0 i tap i + 1))) else NX v i (upd τ0 i tap)) = _
            rw [if_pos hst, upd_s, if_neg hge, upd_upd]
          rw [hNX] at r2 r3
          have hn1 := tap_next (c := c + 1) (hi := 5) g1 g2 (by decide)
          obtain ⟨g', b2, N2, a1, a2, a3, a4, a5, a6, s1, s2, s3, s4⟩ := ihc (tap + 1) N' mf' mi' mo' mw' mn' me' b' (SF v n k (i + 1) (otF v i x tap - lstF v n i) (afF v i a x tap) (upd τ0 i tap) st) g (by omega) (by omega) r3 (Or.inr r4) (by omega)
          exact ⟨g', b2, N2, a1, a2, a3, a4, a5, a6, by omega, r2.trans s2, s3, s4⟩
      have hO' : ODr n t T v (upd τ0 i (-5)) N := by rw [upd_self h5]; exact hO
      have hres := inner 10 (-5) N mf mi mo mw mn me b st f (by decide) (by decide) hO' hb hf
      have hSF : SF v n (k + 1) i x a τ0 st = foldF (fun tap s => SF v n k (i + 1) (otF v i x tap - lstF v n i) (afF v i a x tap) (upd τ0 i tap) s) (10 + 1) (-5) st := by
        show foldF _ (cnT v i) (loT v i) st = _
        rw [hcn, hl5]
      rw [hSF]
      exact hres
    · have h7 : τ0 i = v i 7 := by rw [hlo i (Nat.le_refl i) hin]; unfold loT; rw [if_neg hst]
      have hcn : cnT v i = 1 := by unfold cnT; rw [if_neg hst]
      have hl7 : loT v i = v i 7 := by unfold loT; rw [if_neg hst]
      have ht : inI (v i 7) (-5) 5 := (hR i hin).2.2.2.2.2.2.2.1
      have hs := Bn_step hn hC hR hin ht hB
      have hu : upd τ0 i (v i 7) = τ0 := upd_self h7
      obtain ⟨g, b', N', mf', mi', mo', mw', mn', me', r1, r2, r3, r4⟩ := ih (i + 1) τ0 N mf mi mo mw mn me b st _ _ f (by omega) (fun j h1 h2 => hlo j (by omega) h2) hO hb hs.1 (fun τ' h => hstep (v i 7) ht τ' (fun j hj => by rw [hu]; exact h j hj)) (by omega)
      have hNX : NX v (i + 1) τ0 = NX v i τ0 := by
        show (if v i 11 = 0 then _ else NX v i τ0) = _
        rw [if_neg hst]
      have hSF : SF v n (k + 1) i x a τ0 st = SF v n k (i + 1) (otF v i x (v i 7) - lstF v n i) (afF v i a x (v i 7)) τ0 st := by
        show foldF _ (cnT v i) (loT v i) st = _
        rw [hcn, hl7]
        show SF v n k (i + 1) (otF v i x (v i 7) - lstF v n i) (afF v i a x (v i 7)) (upd τ0 i (v i 7)) st = _
        rw [hu]
      rw [hNX] at r2 r3
      rw [hSF]
      exact ⟨g, b', N', mf', mi', mo', mw', mn', me', by omega, r2, r3, r4⟩
theorem rest146_eq (mz : Nat → Int32) (m : Int32) (N mf mi mo mw mn me : Nat → Int32) : ∃ o, j_X8_findsBest_146 mz m N mf mi mo mw mn me = some o ∧ o.1 = m ∧ (∀ j, j < 114 → o.2.1 j = mz j) ∧ o.2.2.2.2.2.2.2.2 = me := by
  unfold j_X8_findsBest_146
  refine zloop_inv (b_X8_findsBest_148 mz m mf mi mo mw mn me) 114 (fun i s => s.1 = nI i ∧ ∀ j, j < i → s.2 j = mz j) _ ?_ ?_ 114 0 20000 _ (by omega) (by omega) ?_
  · rintro ⟨x, w⟩ rc ⟨h1, h2⟩
    dsimp only at h1 h2
    unfold b_X8_findsBest_148
    dsimp only
    rw [h1, if_pos (by decide)]
    exact ⟨_, rfl, rfl, h2, rfl⟩
  · rintro i ⟨x, w⟩ hi ⟨h1, h2⟩
    dsimp only at h1 h2
    subst h1
    refine ⟨(nI (i + 1), upd w i (mz i)), ⟨rfl, fun j hj => ?_⟩, fun rc => ?_⟩
    · show upd w i _ j = mz j
      by_cases e : j = i
      · subst e; rw [upd_s]
      · rw [upd_o e]; exact h2 j (by omega)
    · unfold b_X8_findsBest_148
      dsimp only
      have hne : ¬ (114 : Int32) ≤ nI i := nI_ge (b := 114) hi (by decide)
      rw [if_neg hne, zin_n (i := i) (n := 114) hi (by decide), zg_t, zg_t, zn_n (i := i) (by omega), zlet_d, zlet_d, nI_1]
  · exact ⟨nI_0.symm, fun j h => absurd h (by omega)⟩
theorem zloop_succ {σ ρ : Type} (b : (σ → Option ρ) → σ → Option ρ) (f : Nat) (s : σ) : zloop b (f + 1) s = b (zloop b f) s := rfl
theorem b71_end (mz : Nat → Int32) (rc : (Int32 × Int32 × (Nat → Int32) × (Nat → Int32) × (Nat → Int32) × (Nat → Int32) × (Nat → Int32) × (Nat → Int32) × (Nat → Int32)) → Option (Int32 × (Nat → Int32) × (Nat → Int32) × (Nat → Int32) × (Nat → Int32) × (Nat → Int32) × (Nat → Int32) × (Nat → Int32) × (Nat → Int32))) (b : Int32) (N mf mi mo mw mn me : Nat → Int32) : b_X8_findsBest_71 mz rc (0, b, N, mf, mi, mo, mw, mn, me) = j_X8_findsBest_146 mz b N mf mi mo mw mn me := by
  unfold b_X8_findsBest_71
  dsimp only
  rw [if_pos rfl]
theorem b2_end (ms mf mi mo mw mn me : Nat → Int32) (rc : Int32 × (Nat → Int32) → Option (Int32 × (Nat → Int32) × (Nat → Int32) × (Nat → Int32) × (Nat → Int32) × (Nat → Int32) × (Nat → Int32) × (Nat → Int32) × (Nat → Int32))) {x : Int32} (mz : Nat → Int32) (h : 114 ≤ x) : b_X8_findsBest_2 ms mf mi mo mw mn me rc (x, mz) = zloop (b_X8_findsBest_28 mf mi mo mw mn me mz) 20000 (0, ms) := by
  unfold b_X8_findsBest_2
  dsimp only
  rw [if_pos h]
  unfold j_X8_findsBest_26
  rfl
theorem b28_end (mf mi mo mw mn me mz : Nat → Int32) (rc : Int32 × (Nat → Int32) → Option (Int32 × (Nat → Int32) × (Nat → Int32) × (Nat → Int32) × (Nat → Int32) × (Nat → Int32) × (Nat → Int32) × (Nat → Int32) × (Nat → Int32))) {y : Int32} (N : Nat → Int32) (h : N 0 ≤ y) : b_X8_findsBest_28 mf mi mo mw mn me mz rc (y, N) = zloop (b_X8_findsBest_71 mz) 20000 (1, -4, N, mf, mi, mo, mw, mn, me) := by
  unfold b_X8_findsBest_28
  dsimp only
  rw [z0i, zg_t, z0k, if_pos h]
  unfold j_X8_findsBest_63
  rw [zlet_d]
theorem findsBest_eq {n t T : Nat} {v : R2} {ms : Nat → Int32} (hL : LR n t T v ms) (mf mi mo mw mn mz me sq : Nat → Int32) : ∃ (o : Int32 × (Nat → Int32) × (Nat → Int32) × (Nat → Int32) × (Nat → Int32) × (Nat → Int32) × (Nat → Int32) × (Nat → Int32) × (Nat → Int32)) (τ0 : Nat → Int32), f_X8_findsBest ms mf mi mo mw mn mz me = some o ∧ B2 n o.1 o.2.2.2.2.2.2.2.2 (SF v n n 0 (v 9 1) 0 τ0 (1000000, sq)) ∧ ∀ j, j < 114 → o.2.1 j = ms j := by
  have hn := hL.1
  have hC := hL.2.2.2.2.2.2.2.1
  have hR := hL.2.2.2.2.2.2.2.2.1
  obtain ⟨⟨x', mz'⟩, g, ⟨d1, d2⟩, he⟩ := zloop_run (b_X8_findsBest_2 ms mf mi mo mw mn me) 114 (fun i s => s.1 = nI i ∧ ∀ j, j < i → s.2 j = ms j) (by
    rintro i ⟨y, z⟩ hi ⟨g1, g2⟩
    dsimp only at g1 g2
    subst g1
    refine ⟨(nI (i + 1), upd z i (ms i)), ⟨rfl, fun j hj => ?_⟩, fun rc => ?_⟩
    · show upd z i _ j = ms j
      by_cases e : j = i
      · subst e; rw [upd_s]
      · rw [upd_o e]; exact g2 j (by omega)
    · unfold b_X8_findsBest_2
      dsimp only
      have hne : ¬ (114 : Int32) ≤ nI i := nI_ge (b := 114) hi (by decide)
      rw [if_neg hne, zin_n (i := i) (n := 114) hi (by decide), zg_t, zg_t, zn_n (i := i) (by omega), zlet_d, zlet_d, nI_1]) 114 0 20000 (0, mz) (by omega) (by omega) ⟨nI_0.symm, fun j hj => absurd hj (by omega)⟩
  dsimp only at d1 d2
  have hle : (114 : Int32) ≤ x' := by rw [d1]; decide
  have e1 : f_X8_findsBest ms mf mi mo mw mn mz me = zloop (b_X8_findsBest_28 mf mi mo mw mn me mz') 20000 (0, ms) := by
    unfold f_X8_findsBest
    rw [he, b2_end ms mf mi mo mw mn me _ mz' hle]
  have hO0 : ODr n t T v (fun j => if j < 0 then loT v j else v j 7) ms := ⟨v, LR_LQ hL, fun j _ => rfl, fun _ _ _ _ _ => rfl, rfl⟩
  obtain ⟨⟨y', N0⟩, g', ⟨f1, f2⟩, he2⟩ := zloop_run (b_X8_findsBest_28 mf mi mo mw mn me mz') n (fun i s => s.1 = nI i ∧ ODr n t T v (fun j => if j < i then loT v j else v j 7) s.2) (by
    rintro i ⟨y, z⟩ hi ⟨g1, g2⟩
    dsimp only at g1 g2
    subst g1
    have i4 : i < 4 := by omega
    have e8 := OD_8 g2 hi
    by_cases c : v i 11 = 0
    · refine ⟨(nI (i + 1), upd z (6 + 12 * i + 7) (-5)), ⟨rfl, ?_⟩, fun rc => ?_⟩
      · have := OD_upd g2 hi (x := -5) ⟨by decide, by decide⟩
        have ef : upd (fun j => if j < i then loT v j else v j 7) i (-5) = fun j => if j < i + 1 then loT v j else v j 7 := funext fun j => by
          by_cases e : j = i
          · subst e
            rw [upd_s, if_pos (by omega)]
            unfold loT
            rw [if_pos c]
          · rw [upd_o e]
            by_cases e2 : j < i
            · rw [if_pos e2, if_pos (by omega)]
            · rw [if_neg e2, if_neg (by omega)]
        rw [ef] at this
        exact this
      · unfold b_X8_findsBest_28 j_X8_findsBest_57
        dsimp only
        rw [z0i, zg_t, z0k, if_neg (show ¬ z 0 ≤ nI i by rw [OD_0 g2]; exact nI_ge hi (by omega)), of_8 z i4, zbd_s, e8, if_pos c, puts_7 z i4, zbd_s, zlet_d, nI_1]
    · refine ⟨(nI (i + 1), z), ⟨rfl, ?_⟩, fun rc => ?_⟩
      · have ef : (fun j => if j < i then loT v j else v j 7) = fun j => if j < i + 1 then loT v j else v j 7 := funext fun j => by
          by_cases e : j = i
          · subst e
            rw [if_neg (by omega), if_pos (by omega)]
            unfold loT
            rw [if_neg c]
          · by_cases e2 : j < i
            · rw [if_pos e2, if_pos (by omega)]
            · rw [if_neg e2, if_neg (by omega)]
        rw [ef] at g2
        exact g2
      · unfold b_X8_findsBest_28 j_X8_findsBest_57
        dsimp only
        rw [z0i, zg_t, z0k, if_neg (show ¬ z 0 ≤ nI i by rw [OD_0 g2]; exact nI_ge hi (by omega)), of_8 z i4, zbd_s, e8, if_neg c, zlet_d, nI_1]) n 0 20000 (0, ms) (by omega) (by omega) ⟨nI_0.symm, hO0⟩
  dsimp only at f1 f2
  have e2 : f_X8_findsBest ms mf mi mo mw mn mz me = zloop (b_X8_findsBest_71 mz') 20000 (1, -4, N0, mf, mi, mo, mw, mn, me) := by
    rw [e1, he2, b28_end mf mi mo mw mn me mz' _ N0 (show N0 0 ≤ y' by rw [OD_0 f2, f1]; exact Int32.le_refl _)]
  have hB0 : BnF 0 (v 9 1) 0 := ⟨inI_aB hL.2.2.2.1.2 (by decide) (by decide), ⟨by decide, by decide⟩⟩
  have hp : 11 ^ n ≤ 11 ^ 4 := Nat.pow_le_pow_right (by decide) hn.2
  have hp4 : (11 : Nat) ^ 4 = 14641 := by decide
  rw [hp4] at hp
  obtain ⟨gg, b', N', a1, a2, a3, a4, a5, me', r1, r2, r3, r4⟩ := odo_eq hn.2 hC hR mz' n 0 (fun j => if j < n then loT v j else v j 7) N0 mf mi mo mw mn me (-4) (1000000, sq) (v 9 1) 0 20000 (by omega) (fun j _ hj => if_pos hj) f2 (Or.inl ⟨rfl, rfl⟩) hB0 (fun _ _ => rfl) (by omega)
  obtain ⟨gg, rfl⟩ : ∃ g, gg = g + 1 := ⟨gg - 1, by omega⟩
  have hz : (NX v 0 (fun j => if j < n then loT v j else v j 7)).1 = 0 := rfl
  rw [hz] at r2
  obtain ⟨o, q1, q2, q3, q4⟩ := rest146_eq mz' b' N' a1 a2 a3 a4 a5 me'
  refine ⟨o, (fun j => if j < n then loT v j else v j 7), ?_, ?_, fun j hj => (q3 j hj).trans (d2 j hj)⟩
  · rw [e2, r2, zloop_succ, b71_end]
    exact q1
  · rw [q2, q4]
    exact r4
theorem st_best {tl : Nat → Int32} {tn pn pz : Int32} {pl : Nat → R2} {v u : R2} {m1 m2 : Int32} {mb ms mp : Nat → Int32} (h : RR tl tn pn pz pl v u m1 m2 mb ms mp) (sp sq : Nat → Int32) (sk m9 : Int32) (mf mi mo mw mn mz me : Nat → Int32) (x : Int32) : ∃ o o', f_X7_best sp sq sk v x = some o ∧ f_X8_best m9 ms mf mi mo mw mn mz me x = some o' ∧ o.1 = o'.1 ∧ RR tl tn pn pz pl v u m1 m2 mb o'.2.2.2.1 mp := by
  obtain ⟨h1, ⟨n, t, T, ht, hL⟩, h3, h4⟩ := id h
  have hn := hL.1
  have hC := hL.2.2.2.2.2.2.2.1
  have hR := hL.2.2.2.2.2.2.2.2.1
  obtain ⟨o', τ0, e1, ⟨e2, -, e4⟩, e5⟩ := findsBest_eq hL mf mi mo mw mn mz me sq
  have hB0 : BnF 0 (v 9 1) 0 := ⟨inI_aB hL.2.2.2.1.2 (by decide) (by decide), ⟨by decide, by decide⟩⟩
  obtain ⟨o, d1, -, d3, d4⟩ := try_eq hn.2 hL.2.1.1 hC hR n 0 5 (v 9 1) 0 1000000 sp sq τ0 (1000000, sq) (by omega) (by omega) hB0 (by decide) (fun j hj => absurd hj (by omega)) rfl (fun _ _ => rfl)
  rw [nI_0] at d1
  have hst : f_X3_start sp sq v = some (o.1, o.2.1, o.2.2) := by
    unfold f_X3_start
    rw [zlet_d, d1, zbd_s]
  have hN : RR tl tn pn pz pl v u m1 m2 mb o'.2.1 mp := ⟨h1, ⟨n, t, T, ht, LR_M e5 hL⟩, h3, h4⟩
  have hval : o.2.2 = o'.1 := d3.symm.trans e2.symm
  have htap : ∀ j, j < n → o.2.1 j = o'.2.2.2.2.2.2.2.2 j := fun j hj => (d4 j hj).symm.trans (e4 j hj).symm
  unfold f_X7_best f_X8_best j_X7_best_18 j_X8_best_20
  simp only [zlet_d]
  rw [hst, e1, zbd_s, zbd_s]
  by_cases c0 : x = -1
  · have hneg : ¬ (0 : Int32) ≤ x := by rw [c0]; decide
    rw [if_pos c0, if_pos c0, if_pos c0, if_neg hneg]
    exact ⟨_, _, rfl, rfl, hval, hN⟩
  · rw [if_neg c0, if_neg c0, if_neg c0]
    rcases has_eq v hL.1.2 hL.2.1.1 x with ⟨i, hi, rfl, e⟩ | ⟨hx, e⟩
    · have i4 : i < 4 := by omega
      rw [e, isStage_yes ms hL.1.2 hL.2.1.2 hi, zbd_s, zbd_s, if_neg ne10, if_neg ne10, z4 i4, zg_t, n4 i4, if_pos (nI_pos' (by omega)), zg_t]
      exact ⟨_, _, rfl, rfl, congrArg (· + 1000) (htap i hi), hN⟩
    · rw [e, isStage_no ms hL.1 hL.2.1.2 hx, zbd_s, zbd_s, if_pos rfl, if_pos rfl]
      exact ⟨_, _, rfl, rfl, rfl, h⟩
