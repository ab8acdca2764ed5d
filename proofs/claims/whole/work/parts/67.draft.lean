/-! ===== pure: the best taps, by the reference ===== -/
theorem flow_same {n : Nat} {v w : R2} (hv : CR n v) (hw : CR n w) (h5 : ∀ j, j < n → w j 5 = v j 5) : ∀ (k i : Nat), i + k + 1 = n → w i 12 = v i 12 := by
  intro k
  induction k with
  | zero =>
    intro i hi
    rw [hv.1 i (by omega), hw.1 i (by omega), if_neg (by omega), if_neg (by omega), h5 i (by omega)]
  | succ k ih =>
    intro i hi
    rw [hv.1 i (by omega), hw.1 i (by omega), if_pos (by omega), if_pos (by omega), h5 i (by omega), ih (i + 1) (by omega)]
theorem EF_congr {v : R2} {n : Nat} {τ τ' : Nat → Int32} : ∀ (k i : Nat) (x a : Int32), (∀ j, i ≤ j → j < i + k → τ j = τ' j) → EF v n k i x a τ = EF v n k i x a τ' := by
  intro k
  induction k with
  | zero => intro i x a _; rfl
  | succ k ih =>
    intro i x a h
    show EF v n k (i + 1) (otF v i x (τ i) - lstF v n i) (afF v i a x (τ i)) τ = EF v n k (i + 1) (otF v i x (τ' i) - lstF v n i) (afF v i a x (τ' i)) τ'
    rw [h i (Nat.le_refl i) (by omega)]
    exact ih (i + 1) _ _ (fun j h1 h2 => h j (by omega) (by omega))
/-- the reference's row with other taps -/
def ODr (n t T : Nat) (v : R2) (τ N : Nat → Int32) : Prop := ∃ w, LQ n t T w N ∧ (∀ j, j < n → w j 7 = τ j) ∧ (∀ j, j < n → ∀ c, c < 12 → c ≠ 7 → w j c = v j c) ∧ w 9 1 = v 9 1
theorem OD_upd {n t T : Nat} {v : R2} {τ N : Nat → Int32} {i : Nat} {x : Int32} (h : ODr n t T v τ N) (hi : i < n) (hx : inI x (-5) 5) : ODr n t T v (upd τ i x) (upd N (6 + 12 * i + 7) x) := by
  obtain ⟨w, h1, h2, h3, h4⟩ := h
  refine ⟨z2 w i 7 x, LQ_st (k := 7) h1 hi (by decide) (RG_7 h1.2.2.2.2.2.2.2.1 hx) (SB_z2 h1.2.2.2.2.2.2.2.2 (by decide)), fun j hj => ?_, fun j hj c hc h7 => ?_, ?_⟩
  · by_cases e : j = i
    · subst e; rw [z2_s, upd_s]
    · rw [z2_r e, upd_o e]; exact h2 j hj
  · rw [z2_e, if_neg (fun q => h7 q.2)]; exact h3 j hj c hc h7
  · rw [z2_r (by have := h1.1; omega)]; exact h4
theorem OD_0 {n t T : Nat} {v : R2} {τ N : Nat → Int32} (h : ODr n t T v τ N) : N 0 = nI n := by
  obtain ⟨w, h1, -, -, -⟩ := h
  exact h1.2.1.2
theorem OD_7 {n t T : Nat} {v : R2} {τ N : Nat → Int32} (h : ODr n t T v τ N) {j : Nat} (hj : j < n) : N (6 + 12 * j + 7) = τ j ∧ inI (τ j) (-5) 5 := by
  obtain ⟨w, h1, h2, -, -⟩ := h
  have := h1.2.2.2.2.2.2.1 j hj 7 (by decide)
  have h7 := (h1.2.2.2.2.2.2.2.1 j hj).2.2.2.2.2.2.2.1
  rw [h2 j hj] at this h7
  exact ⟨this.symm, h7⟩
theorem OD_8 {n t T : Nat} {v : R2} {τ N : Nat → Int32} (h : ODr n t T v τ N) {j : Nat} (hj : j < n) : N (6 + 12 * j + 8) = v j 11 := by
  obtain ⟨w, h1, -, h3, -⟩ := h
  have := h1.2.2.2.2.2.2.1 j hj 11 (by decide)
  rw [h3 j hj 11 (by decide) (by decide)] at this
  exact this.symm
theorem od_eval {n t T : Nat} {v : R2} {τ N : Nat → Int32} (hC : CR n v) (h : ODr n t T v τ N) (mf mi mo mw mn : Nat → Int32) : ∃ o, f_X8_lays N mf mi mo mw mn = some o ∧ f_X8_offOf N o.2.2.1 = some (EF v n n 0 (v 9 1) 0 τ) := by
  obtain ⟨w, h1, h2, h3, h4⟩ := h
  obtain ⟨w', -, hL⟩ := reckon_LR h1
  have hFw := h1.2.2.2.2.2.2.1
  have hF := hL.2.2.2.2.2.2.1
  have hCw := hL.2.2.2.2.2.2.2.1
  have hsame : ∀ j, j < n → ∀ c, c < 12 → w' j c = w j c := fun j hj c hc => (hF j hj c hc).trans (hFw j hj c hc).symm
  have hv : ∀ j, j < n → ∀ c, c < 12 → c ≠ 7 → w' j c = v j c := fun j hj c hc h7 => (hsame j hj c hc).trans (h3 j hj c hc h7)
  obtain ⟨o, p1, p2⟩ := lays_eq mf mi mo mw mn hL.1 hL.2.1.2 hL.2.2.2.1.1 hF hCw hL.2.2.2.2.2.2.2.2.1
  refine ⟨o, p1, ?_⟩
  rw [offM_eq w' N o.2.2.1 hL.1.2 hL.2.1.2 hF (fun i hi => (p2 i hi).2.2.1)]
  have e1 := off_EF (v := v) hCw (fun j hj => ⟨hv j hj 0 (by decide) (by decide), hv j hj 1 (by decide) (by decide), hv j hj 6 (by decide) (by decide), flow_same hC hCw (fun j hj => hv j hj 5 (by decide) (by decide)) (n - j - 1) j (by omega)⟩) n 0 0 (by omega)
  have hn := hL.1
  have e2 : w' 0 13 = v 9 1 := by rw [hCw.2.1 (by omega), hL.2.2.2.1.1, ← h1.2.2.2.1.1]; exact h4
  rw [e1, e2, EF_congr (τ := fun j => w' j 7) (τ' := τ) n 0 _ _ (fun j _ hj => (hsame j (by omega) 7 (by decide)).trans (h2 j (by omega)))]
def NX (v : R2) : Nat → (Nat → Int32) → Int32 × (Nat → Int32)
  | 0, τ => (0, τ)
  | j + 1, τ => if v j 11 = 0 then (if 5 ≤ τ j then NX v j (upd τ j (-5)) else (1, upd τ j (τ j + 1))) else NX v j τ
theorem next_eq {n t T : Nat} {v : R2} (hn : n ≤ 4) : ∀ (j f : Nat) (τ N : Nat → Int32), j ≤ n → j < f → ODr n t T v τ N → ∃ N', zloop b_X8_nextTaps_9 f (nI j - 1, N) = some ((NX v j τ).1, N') ∧ ODr n t T v (NX v j τ).2 N' := by
  intro j
  induction j with
  | zero =>
    intro f τ N hj hf h
    obtain ⟨f, rfl⟩ : ∃ g, f = g + 1 := ⟨f - 1, by omega⟩
    refine ⟨N, ?_, h⟩
    show b_X8_nextTaps_9 (zloop b_X8_nextTaps_9 f) (nI 0 - 1, N) = _
    unfold b_X8_nextTaps_9
    dsimp only
    rw [if_pos (by decide)]
    rfl
  | succ j ih =>
    intro f τ N hj hf h
    obtain ⟨f, rfl⟩ : ∃ g, f = g + 1 := ⟨f - 1, by omega⟩
    have j4 : j < 4 := by omega
    obtain ⟨e7, r7⟩ := OD_7 h (show j < n by omega)
    have e8 := OD_8 h (show j < n by omega)
    have em : nI j + (-1) = nI j - 1 := (Int32.sub_eq_add_neg _ _).symm
    have hb : b_X8_nextTaps_9 (zloop b_X8_nextTaps_9 f) (nI (j + 1) - 1, N) = if v j 11 = 0 then (if 5 ≤ τ j then zloop b_X8_nextTaps_9 f (nI j - 1, upd N (6 + 12 * j + 7) (-5)) else some (1, upd N (6 + 12 * j + 7) (τ j + 1))) else zloop b_X8_nextTaps_9 f (nI j - 1, N) := by
      generalize zloop b_X8_nextTaps_9 f = rc
      unfold b_X8_nextTaps_9 j_X8_nextTaps_34 j_X8_nextTaps_61
      dsimp only
      rw [nI_pred, if_neg (nI_pos (by omega)), of_8 N j4, zbd_s, e8, of_7 N j4, zbd_s, zbd_s, e7, puts_7 N j4, puts_7 N j4, zbd_s, zbd_s, zlet_d, zlet_d, em]
    show ∃ N', b_X8_nextTaps_9 (zloop b_X8_nextTaps_9 f) (nI (j + 1) - 1, N) = some ((if v j 11 = 0 then (if 5 ≤ τ j then NX v j (upd τ j (-5)) else (1, upd τ j (τ j + 1))) else NX v j τ).1, N') ∧ ODr n t T v (if v j 11 = 0 then (if 5 ≤ τ j then NX v j (upd τ j (-5)) else (1, upd τ j (τ j + 1))) else NX v j τ).2 N'
    rw [hb]
    by_cases c1 : v j 11 = 0
    · rw [if_pos c1, if_pos c1]
      by_cases c2 : 5 ≤ τ j
      · rw [if_pos c2, if_pos c2]
        exact ih f _ _ (by omega) (by omega) (OD_upd h (by omega) ⟨by decide, by decide⟩)
      · rw [if_neg c2, if_neg c2]
        refine ⟨_, rfl, OD_upd h (by omega) ?_⟩
        have c3 := Int32.lt_iff_toInt_lt.mp (Int32.not_le.mp c2)
        have k5 : (5 : Int32).toInt = 5 := by decide
        have k1 : (1 : Int32).toInt = 1 := by decide
        rw [k5] at c3
        unfold inI at r7 ⊢
        rw [tI_add (by rw [k1]; omega) (by rw [k1]; omega), k1]
        omega
    · rw [if_neg c1, if_neg c1]
      exact ih f _ _ (by omega) (by omega) h
theorem nextTaps_eq {n t T : Nat} {v : R2} (hn : n ≤ 4) {τ N : Nat → Int32} (h : ODr n t T v τ N) : ∃ N', f_X8_nextTaps N = some ((NX v n τ).1, N') ∧ ODr n t T v (NX v n τ).2 N' := by
  obtain ⟨N', h1, h2⟩ := next_eq (v := v) hn n 1000 τ N (Nat.le_refl n) (by omega) h
  refine ⟨N', ?_, h2⟩
  unfold f_X8_nextTaps
  rw [z0i, zg_t, z0k, OD_0 h, zlet_d]
  exact h1
def cpT (τ : Nat → Int32) : Nat → (Nat → Int32) → Nat → Int32
  | 0, me => me
  | k + 1, me => upd (cpT τ k me) k (τ k)
theorem cpT_at (τ me : Nat → Int32) : ∀ (k j : Nat), j < k → cpT τ k me j = τ j := by
  intro k
  induction k with
  | zero => intro j h; exact absurd h (by omega)
  | succ k ih =>
    intro j h
    show upd (cpT τ k me) k (τ k) j = τ j
    by_cases e : j = k
    · subst e; rw [upd_s]
    · rw [upd_o e]; exact ih j (by omega)
theorem b109_eq {n t T : Nat} {v : R2} (hn : n ≤ 4) {τ N : Nat → Int32} (h : ODr n t T v τ N) (rc : (Int32 × Int32 × (Nat → Int32) × (Nat → Int32) × (Nat → Int32) × (Nat → Int32) × (Nat → Int32) × (Nat → Int32) × (Nat → Int32)) → Option (Int32 × (Nat → Int32) × (Nat → Int32) × (Nat → Int32) × (Nat → Int32) × (Nat → Int32) × (Nat → Int32) × (Nat → Int32) × (Nat → Int32))) (s : Int32 × Int32 × (Nat → Int32) × (Nat → Int32) × (Nat → Int32) × (Nat → Int32) × (Nat → Int32) × (Nat → Int32) × (Nat → Int32)) (hs : s.2.2.1 = N) (mf mi mo mw mn : Nat → Int32) (m : Int32) (me : Nat → Int32) : ∀ (k i f : Nat), i + k = n → k < f → zloop (b_X8_findsBest_109 rc s mf mi mo mw mn m) f (nI i, cpT τ i me) = j_X8_findsBest_138 rc s mf mi mo mw mn m (cpT τ n me) := by
  have h0 := OD_0 h
  intro k
  induction k with
  | zero =>
    intro i f hi hf
    obtain ⟨f, rfl⟩ : ∃ g, f = g + 1 := ⟨f - 1, by omega⟩
    obtain rfl : i = n := by omega
    show b_X8_findsBest_109 rc s mf mi mo mw mn m (zloop (b_X8_findsBest_109 rc s mf mi mo mw mn m) f) (nI i, cpT τ i me) = _
    unfold b_X8_findsBest_109
    dsimp only
    rw [z0i, zg_t, z0k, hs, h0, if_pos (Int32.le_refl _)]
  | succ k ih =>
    intro i f hi hf
    obtain ⟨f, rfl⟩ : ∃ g, f = g + 1 := ⟨f - 1, by omega⟩
    have i4 : i < 4 := by omega
    have hb : b_X8_findsBest_109 rc s mf mi mo mw mn m (zloop (b_X8_findsBest_109 rc s mf mi mo mw mn m) f) (nI i, cpT τ i me) = zloop (b_X8_findsBest_109 rc s mf mi mo mw mn m) f (nI (i + 1), cpT τ (i + 1) me) := by
      generalize zloop (b_X8_findsBest_109 rc s mf mi mo mw mn m) f = rc2
      unfold b_X8_findsBest_109
      dsimp only
      rw [z0i, zg_t, z0k, hs, h0, if_neg (nI_ge (show i < n by omega) (by omega)), of_7 N i4, zbd_s, (OD_7 h (show i < n by omega)).1, z4 i4, zg_t, n4 i4, zlet_d, zlet_d, nI_1]
      rfl
    exact hb.trans (ih (i + 1) f (by omega) (by omega))
def B2 (n : Nat) (b : Int32) (me : Nat → Int32) (st : Int32 × (Nat → Int32)) : Prop := b = st.1 ∧ 0 ≤ b.toInt ∧ ∀ j, j < n → me j = st.2 j
def BRr (n : Nat) (b : Int32) (me : Nat → Int32) (st : Int32 × (Nat → Int32)) : Prop := (b = -4 ∧ st.1 = 2147483647) ∨ B2 n b me st
theorem b71_eq {n t T : Nat} {v : R2} (hn : n ≤ 4) (hC : CR n v) {τ N : Nat → Int32} (h : ODr n t T v τ N) (mz mf mi mo mw mn me : Nat → Int32) (b : Int32) (st : Int32 × (Nat → Int32)) (hb : BRr n b me st) {off : Int32} (ho : EF v n n 0 (v 9 1) 0 τ = off) (hr : inI off 0 60000) : ∃ (b' : Int32) (N' mf' mi' mo' mw' mn' me' : Nat → Int32), (∀ rc : (Int32 × Int32 × (Nat → Int32) × (Nat → Int32) × (Nat → Int32) × (Nat → Int32) × (Nat → Int32) × (Nat → Int32) × (Nat → Int32)) → Option (Int32 × (Nat → Int32) × (Nat → Int32) × (Nat → Int32) × (Nat → Int32) × (Nat → Int32) × (Nat → Int32) × (Nat → Int32) × (Nat → Int32)), b_X8_findsBest_71 mz rc (1, b, N, mf, mi, mo, mw, mn, me) = rc ((NX v n τ).1, b', N', mf', mi', mo', mw', mn', me')) ∧ ODr n t T v (NX v n τ).2 N' ∧ B2 n b' me' (if off < st.1 then (off, τ) else st) := by
  obtain ⟨o4, p1, p2⟩ := od_eval hC h mf mi mo mw mn
  rw [ho] at p2
  obtain ⟨N', q1, q2⟩ := nextTaps_eq (v := v) hn h
  have j138 : ∀ (rc : (Int32 × Int32 × (Nat → Int32) × (Nat → Int32) × (Nat → Int32) × (Nat → Int32) × (Nat → Int32) × (Nat → Int32) × (Nat → Int32)) → Option (Int32 × (Nat → Int32) × (Nat → Int32) × (Nat → Int32) × (Nat → Int32) × (Nat → Int32) × (Nat → Int32) × (Nat → Int32) × (Nat → Int32))) (m : Int32) (me' : Nat → Int32), j_X8_findsBest_138 rc (1, b, N, mf, mi, mo, mw, mn, me) o4.1 o4.2.1 o4.2.2.1 o4.2.2.2.1 o4.2.2.2.2 m me' = rc ((NX v n τ).1, m, N', o4.1, o4.2.1, o4.2.2.1, o4.2.2.2.1, o4.2.2.2.2, me') := fun rc m me' => by
    unfold j_X8_findsBest_138
    dsimp only
    rw [q1, zbd_s]
  have j99 : ∀ rc : (Int32 × Int32 × (Nat → Int32) × (Nat → Int32) × (Nat → Int32) × (Nat → Int32) × (Nat → Int32) × (Nat → Int32) × (Nat → Int32)) → Option (Int32 × (Nat → Int32) × (Nat → Int32) × (Nat → Int32) × (Nat → Int32) × (Nat → Int32) × (Nat → Int32) × (Nat → Int32) × (Nat → Int32)), j_X8_findsBest_99 rc (1, b, N, mf, mi, mo, mw, mn, me) o4.1 o4.2.1 o4.2.2.1 o4.2.2.2.1 o4.2.2.2.2 = rc ((NX v n τ).1, off, N', o4.1, o4.2.1, o4.2.2.1, o4.2.2.2.1, o4.2.2.2.2, cpT τ n me) := fun rc => by
    unfold j_X8_findsBest_99
    dsimp only
    rw [p2, zbd_s, zlet_d]
    have := b109_eq (v := v) hn h rc (1, b, N, mf, mi, mo, mw, mn, me) rfl o4.1 o4.2.1 o4.2.2.1 o4.2.2.2.1 o4.2.2.2.2 off me n 0 20000 (by omega) (by omega)
    rw [nI_0] at this
    exact this.trans (j138 rc off _)
  have hyes : (∀ rc : (Int32 × Int32 × (Nat → Int32) × (Nat → Int32) × (Nat → Int32) × (Nat → Int32) × (Nat → Int32) × (Nat → Int32) × (Nat → Int32)) → Option (Int32 × (Nat → Int32) × (Nat → Int32) × (Nat → Int32) × (Nat → Int32) × (Nat → Int32) × (Nat → Int32) × (Nat → Int32) × (Nat → Int32)), b_X8_findsBest_71 mz rc (1, b, N, mf, mi, mo, mw, mn, me) = j_X8_findsBest_99 rc (1, b, N, mf, mi, mo, mw, mn, me) o4.1 o4.2.1 o4.2.2.1 o4.2.2.2.1 o4.2.2.2.2) → off < st.1 → ∃ (b' : Int32) (N' mf' mi' mo' mw' mn' me' : Nat → Int32), (∀ rc : (Int32 × Int32 × (Nat → Int32) × (Nat → Int32) × (Nat → Int32) × (Nat → Int32) × (Nat → Int32) × (Nat → Int32) × (Nat → Int32)) → Option (Int32 × (Nat → Int32) × (Nat → Int32) × (Nat → Int32) × (Nat → Int32) × (Nat → Int32) × (Nat → Int32) × (Nat → Int32) × (Nat → Int32)), b_X8_findsBest_71 mz rc (1, b, N, mf, mi, mo, mw, mn, me) = rc ((NX v n τ).1, b', N', mf', mi', mo', mw', mn', me')) ∧ ODr n t T v (NX v n τ).2 N' ∧ B2 n b' me' (if off < st.1 then (off, τ) else st) := fun hq hlt => by
    refine ⟨off, N', o4.1, o4.2.1, o4.2.2.1, o4.2.2.2.1, o4.2.2.2.2, cpT τ n me, fun rc => (hq rc).trans (j99 rc), q2, ?_⟩
    rw [if_pos hlt]
    exact ⟨rfl, hr.1, fun j hj => cpT_at τ me n j hj⟩
  have hbody : ∀ rc : (Int32 × Int32 × (Nat → Int32) × (Nat → Int32) × (Nat → Int32) × (Nat → Int32) × (Nat → Int32) × (Nat → Int32) × (Nat → Int32)) → Option (Int32 × (Nat → Int32) × (Nat → Int32) × (Nat → Int32) × (Nat → Int32) × (Nat → Int32) × (Nat → Int32) × (Nat → Int32) × (Nat → Int32)), b_X8_findsBest_71 mz rc (1, b, N, mf, mi, mo, mw, mn, me) = if b = -4 then j_X8_findsBest_99 rc (1, b, N, mf, mi, mo, mw, mn, me) o4.1 o4.2.1 o4.2.2.1 o4.2.2.2.1 o4.2.2.2.2 else if b ≤ off then j_X8_findsBest_138 rc (1, b, N, mf, mi, mo, mw, mn, me) o4.1 o4.2.1 o4.2.2.1 o4.2.2.2.1 o4.2.2.2.2 b me else j_X8_findsBest_99 rc (1, b, N, mf, mi, mo, mw, mn, me) o4.1 o4.2.1 o4.2.2.1 o4.2.2.2.1 o4.2.2.2.2 := fun rc => by
    unfold b_X8_findsBest_71
    dsimp only
    rw [if_neg ne10, p1, zbd_s]
    simp only [zlet_d]
    rw [p2, zbd_s]
  have hmax : off < 2147483647 := Int32.lt_iff_toInt_lt.mpr (by
    have km : (2147483647 : Int32).toInt = 2147483647 := by decide
    rw [km]
    have := hr.2
    omega)
  rcases hb with ⟨e1, e2⟩ | ⟨e1, e2, e3⟩
  · refine hyes (fun rc => ?_) (by rw [e2]; exact hmax)
    rw [hbody, if_pos e1]
  · have hne : ¬ b = -4 := fun q => by
      rw [q] at e2
      exact absurd e2 (by decide)
    by_cases c : b ≤ off
    · refine ⟨b, N', o4.1, o4.2.1, o4.2.2.1, o4.2.2.2.1, o4.2.2.2.2, me, fun rc => ?_, q2, ?_⟩
      · rw [hbody, if_neg hne, if_pos c]
        exact j138 rc b me
      · rw [if_neg (show ¬ off < st.1 by rw [← e1]; exact Int32.not_lt.mpr c)]
        exact ⟨e1, e2, e3⟩
    · refine hyes (fun rc => ?_) (by rw [← e1]; exact Int32.not_le.mp c)
      rw [hbody, if_neg hne, if_neg c]
theorem upd_upd (τ : Nat → Int32) (i : Nat) (x y : Int32) : upd (upd τ i x) i y = upd τ i y := funext fun j => by
  by_cases e : j = i
  · subst e; rw [upd_s, upd_s]
  · rw [upd_o e, upd_o e, upd_o e]
theorem upd_self {τ : Nat → Int32} {i : Nat} {x : Int32} (h : τ i = x) : upd τ i x = τ := funext fun j => by
  by_cases e : j = i
  · subst e; rw [upd_s, h]
  · rw [upd_o e]
theorem odo_eq {n t T : Nat} {v : R2} (hn : n ≤ 4) (hC : CR n v) (hR : RG n v) (mz : Nat → Int32) : ∀ (k i : Nat) (τ N mf mi mo mw mn me : Nat → Int32) (b : Int32) (st : Int32 × (Nat → Int32)) (x a : Int32) (f : Nat), i + k = n → (∀ j, i ≤ j → j < n → τ j = loT v j) → ODr n t T v τ N → BRr n b me st → BnF i x a → (∀ τ', (∀ j, j < i → τ' j = τ j) → EF v n n 0 (v 9 1) 0 τ' = EF v n k i x a τ') → 11 ^ k ≤ f → ∃ (g : Nat) (b' : Int32) (N' mf' mi' mo' mw' mn' me' : Nat → Int32), f ≤ g + 11 ^ k ∧ zloop (b_X8_findsBest_71 mz) f (1, b, N, mf, mi, mo, mw, mn, me) = zloop (b_X8_findsBest_71 mz) g ((NX v i τ).1, b', N', mf', mi', mo', mw', mn', me') ∧ ODr n t T v (NX v i τ).2 N' ∧ B2 n b' me' (SF v n k i x a τ st) := by
  intro k
  induction k with
  | zero =>
    intro i τ N mf mi mo mw mn me b st x a f hi hlo hO hb hB hE hf
    obtain ⟨f, rfl⟩ : ∃ g, f = g + 1 := ⟨f - 1, by rw [Nat.pow_zero] at hf; omega⟩
    obtain rfl : i = n := by omega
    have he : EF v i i 0 (v 9 1) 0 τ = a := hE τ (fun _ _ => rfl)
    have hr : inI a 0 60000 := by
      have := hB.2
      unfold inI at *
      omega
    obtain ⟨b', N', mf', mi', mo', mw', mn', me', q1, q2, q3⟩ := b71_eq hn hC hO mz mf mi mo mw mn me b st hb he hr
    exact ⟨f, b', N', mf', mi', mo', mw', mn', me', by rw [Nat.pow_zero]; omega, q1 _, q2, q3⟩
  | succ k ih =>
    intro i τ0 N mf mi mo mw mn me b st x a f hi hlo hO hb hB hE hf
    have hin : i < n := by omega
    have hstep : ∀ (tap : Int32), inI tap (-5) 5 → ∀ τ', (∀ j, j < i + 1 → τ' j = upd τ0 i tap j) → EF v n n 0 (v 9 1) 0 τ' = EF v n k (i + 1) (otF v i x tap - lstF v n i) (afF v i a x tap) τ' := fun tap _ τ' h => by
      rw [hE τ' (fun j hj => by rw [h j (by omega), upd_o (by omega)])]
      show EF v n k (i + 1) (otF v i x (τ' i) - lstF v n i) (afF v i a x (τ' i)) τ' = _
      rw [h i (by omega), upd_s]
    have hpow : 11 ^ (k + 1) = 11 * 11 ^ k := by rw [Nat.pow_succ]; omega
    rw [hpow] at hf ⊢
    by_cases hst : v i 11 = 0
    · have h5 : τ0 i = -5 := by rw [hlo i (Nat.le_refl i) hin]; unfold loT; rw [if_pos hst]
      have hcn : cnT v i = 11 := by unfold cnT; rw [if_pos hst]
      have hl5 : loT v i = -5 := by unfold loT; rw [if_pos hst]
      have inner : ∀ (c : Nat) (tap : Int32) (N mf mi mo mw mn me : Nat → Int32) (b : Int32) (st : Int32 × (Nat → Int32)) (f : Nat), tap.toInt + (c + 1 : Nat) = 5 + 1 → -5 ≤ tap.toInt → ODr n t T v (upd τ0 i tap) N → BRr n b me st → (c + 1) * 11 ^ k ≤ f → ∃ (g : Nat) (b' : Int32) (N' mf' mi' mo' mw' mn' me' : Nat → Int32), f ≤ g + (c + 1) * 11 ^ k ∧ zloop (b_X8_findsBest_71 mz) f (1, b, N, mf, mi, mo, mw, mn, me) = zloop (b_X8_findsBest_71 mz) g ((NX v i τ0).1, b', N', mf', mi', mo', mw', mn', me') ∧ ODr n t T v (NX v i τ0).2 N' ∧ B2 n b' me' (foldF (fun tap s => SF v n k (i + 1) (otF v i x tap - lstF v n i) (afF v i a x tap) (upd τ0 i tap) s) (c + 1) tap st) := by
        intro c
        induction c with
        | zero =>
          intro tap N mf mi mo mw mn me b st f g1 g2 hO hb hf
          have ht : inI tap (-5) 5 := by unfold inI; omega
          have hs := Bn_step hn hC hR hin ht hB
          obtain ⟨g, b', N', mf', mi', mo', mw', mn', me', r1, r2, r3, r4⟩ := ih (i + 1) (upd τ0 i tap) N mf mi mo mw mn me b st _ _ f (by omega) (fun j h1 h2 => by rw [upd_o (by omega)]; exact hlo j (by omega) h2) hO hb hs.1 (hstep tap ht) (by omega)
          have k5 : (5 : Int32).toInt = 5 := by decide
          have hge : 5 ≤ tap := Int32.le_iff_toInt_le.mpr (by rw [k5]; omega)
          have hNX : NX v (i + 1) (upd τ0 i tap) = NX v i τ0 := by
            show (if v i 11 = 0 then (if 5 ≤ upd τ0 i tap i then NX v i (upd (upd τ0 i tap) i (-5)) else (1, upd (upd τ0 i tap) i (upd τ0 i tap i + 1))) else NX v i (upd τ0 i tap)) = _
            rw [if_pos hst, upd_s, if_pos hge, upd_upd, upd_self h5]
          rw [hNX] at r2 r3
          exact ⟨g, b', N', mf', mi', mo', mw', mn', me', by omega, r2, r3, r4⟩
        | succ c ihc =>
          intro tap N mf mi mo mw mn me b st f g1 g2 hO hb hf
          have ht : inI tap (-5) 5 := by unfold inI; omega
          have hs := Bn_step hn hC hR hin ht hB
          have hmul : (c + 1 + 1) * 11 ^ k = (c + 1) * 11 ^ k + 11 ^ k := by rw [Nat.add_mul (c + 1) 1, Nat.one_mul]
          rw [hmul] at hf ⊢
          obtain ⟨g, b', N', mf', mi', mo', mw', mn', me', r1, r2, r3, r4⟩ := ih (i + 1) (upd τ0 i tap) N mf mi mo mw mn me b st _ _ f (by omega) (fun j h1 h2 => by rw [upd_o (by omega)]; exact hlo j (by omega) h2) hO hb hs.1 (hstep tap ht) (by omega)
          have k5 : (5 : Int32).toInt = 5 := by decide
          have hge : ¬ 5 ≤ tap := fun q => by
            have := Int32.le_iff_toInt_le.mp q
            rw [k5] at this
            omega
          have hNX : NX v (i + 1) (upd τ0 i tap) = (1, upd τ0 i (tap + 1)) := by
            show (if v i 11 = 0 then (if 5 ≤ upd τ0 i tap i then NX v i (upd (upd τ0 i tap) i (-5)) else (1, upd (upd τ0 i tap) i (upd τ0 i tap i + 1))) else NX v i (upd τ0 i tap)) = _
            rw [if_pos hst, upd_s, if_neg hge, upd_upd]
          rw [hNX] at r2 r3
          have hn1 := tap_next (c := c + 1) (hi := 5) g1 g2 (by decide)
          obtain ⟨g', b2, N2, a1, a2, a3, a4, a5, a6, s1, s2, s3, s4⟩ := ihc (tap + 1) N' mf' mi' mo' mw' mn' me' b' (SF v n k (i + 1) (otF v i x tap - lstF v n i) (afF v i a x tap) (upd τ0 i tap) st) g (by omega) (by omega) r3 (Or.inr r4) (by omega)
          exact ⟨g', b2, N2, a1, a2, a3, a4, a5, a6, by omega, r2.trans s2, s3, s4⟩
      have hO' : ODr n t T v (upd τ0 i (-5)) N := by rw [upd_self h5]; exact hO
      have hres := inner 10 (-5) N mf mi mo mw mn me b st f (by decide) (by decide) hO' hb hf
      have hSF : SF v n (k + 1) i x a τ0 st = foldF (fun tap s => SF v n k (i + 1) (otF v i x tap - lstF v n i) (afF v i a x tap) (upd τ0 i tap) s) (10 + 1) (-5) st := by
        show foldF _ (cnT v i) (loT v i) st = _
        rw [hcn, hl5]
      rw [hSF]
      exact hres
    · have h7 : τ0 i = v i 7 := by rw [hlo i (Nat.le_refl i) hin]; unfold loT; rw [if_neg hst]
      have hcn : cnT v i = 1 := by unfold cnT; rw [if_neg hst]
      have hl7 : loT v i = v i 7 := by unfold loT; rw [if_neg hst]
      have ht : inI (v i 7) (-5) 5 := (hR i hin).2.2.2.2.2.2.2.1
      have hs := Bn_step hn hC hR hin ht hB
      have hu : upd τ0 i (v i 7) = τ0 := upd_self h7
      obtain ⟨g, b', N', mf', mi', mo', mw', mn', me', r1, r2, r3, r4⟩ := ih (i + 1) τ0 N mf mi mo mw mn me b st _ _ f (by omega) (fun j h1 h2 => hlo j (by omega) h2) hO hb hs.1 (fun τ' h => hstep (v i 7) ht τ' (fun j hj => by rw [hu]; exact h j hj)) (by omega)
      have hNX : NX v (i + 1) τ0 = NX v i τ0 := by
        show (if v i 11 = 0 then _ else NX v i τ0) = _
        rw [if_neg hst]
      have hSF : SF v n (k + 1) i x a τ0 st = SF v n k (i + 1) (otF v i x (v i 7) - lstF v n i) (afF v i a x (v i 7)) τ0 st := by
        show foldF _ (cnT v i) (loT v i) st = _
        rw [hcn, hl7]
        show SF v n k (i + 1) (otF v i x (v i 7) - lstF v n i) (afF v i a x (v i 7)) (upd τ0 i (v i 7)) st = _
        rw [hu]
      rw [hNX] at r2 r3
      rw [hSF]
      exact ⟨g, b', N', mf', mi', mo', mw', mn', me', by omega, r2, r3, r4⟩
theorem rest146_eq (mz : Nat → Int32) (m : Int32) (N mf mi mo mw mn me : Nat → Int32) : ∃ o, j_X8_findsBest_146 mz m N mf mi mo mw mn me = some o ∧ o.1 = m ∧ (∀ j, j < 114 → o.2.1 j = mz j) ∧ o.2.2.2.2.2.2.2.2 = me := by
  unfold j_X8_findsBest_146
  refine zloop_inv (b_X8_findsBest_148 mz m mf mi mo mw mn me) 114 (fun i s => s.1 = nI i ∧ ∀ j, j < i → s.2 j = mz j) _ ?_ ?_ 114 0 20000 _ (by omega) (by omega) ?_
  · rintro ⟨x, w⟩ rc ⟨h1, h2⟩
    dsimp only at h1 h2
    unfold b_X8_findsBest_148
    dsimp only
    rw [h1, if_pos (by decide)]
    exact ⟨_, rfl, rfl, h2, rfl⟩
  · rintro i ⟨x, w⟩ hi ⟨h1, h2⟩
    dsimp only at h1 h2
    subst h1
    refine ⟨(nI (i + 1), upd w i (mz i)), ⟨rfl, fun j hj => ?_⟩, fun rc => ?_⟩
    · show upd w i _ j = mz j
      by_cases e : j = i
      · subst e; rw [upd_s]
      · rw [upd_o e]; exact h2 j (by omega)
    · unfold b_X8_findsBest_148
      dsimp only
      have hne : ¬ (114 : Int32) ≤ nI i := nI_ge (b := 114) hi (by decide)
      rw [if_neg hne, zin_n (i := i) (n := 114) hi (by decide), zg_t, zg_t, zn_n (i := i) (by omega), zlet_d, zlet_d, nI_1]
  · exact ⟨nI_0.symm, fun j h => absurd h (by omega)⟩
theorem findsBest_eq {n t T : Nat} {v : R2} {ms : Nat → Int32} (hL : LR n t T v ms) (mf mi mo mw mn mz me sq : Nat → Int32) : ∃ (o : Int32 × (Nat → Int32) × (Nat → Int32) × (Nat → Int32) × (Nat → Int32) × (Nat → Int32) × (Nat → Int32) × (Nat → Int32) × (Nat → Int32)) (τ0 : Nat → Int32), f_X8_findsBest ms mf mi mo mw mn mz me = some o ∧ B2 n o.1 o.2.2.2.2.2.2.2.2 (SF v n n 0 (v 9 1) 0 τ0 (2147483647, sq)) ∧ ∀ j, j < 114 → o.2.1 j = ms j := by
  have hn := hL.1
  have hC := hL.2.2.2.2.2.2.2.1
  have hR := hL.2.2.2.2.2.2.2.2.1
  obtain ⟨⟨x', mz'⟩, g, ⟨d1, d2⟩, he⟩ := zloop_run (b_X8_findsBest_2 ms mf mi mo mw mn me) 114 (fun i s => s.1 = nI i ∧ ∀ j, j < i → s.2 j = ms j) (by
    rintro i ⟨y, z⟩ hi ⟨g1, g2⟩
    dsimp only at g1 g2
    subst g1
    refine ⟨(nI (i + 1), upd z i (ms i)), ⟨rfl, fun j hj => ?_⟩, fun rc => ?_⟩
    · show upd z i _ j = ms j
      by_cases e : j = i
      · subst e; rw [upd_s]
      · rw [upd_o e]; exact g2 j (by omega)
    · unfold b_X8_findsBest_2
      dsimp only
      have hne : ¬ (114 : Int32) ≤ nI i := nI_ge (b := 114) hi (by decide)
      rw [if_neg hne, zin_n (i := i) (n := 114) hi (by decide), zg_t, zg_t, zn_n (i := i) (by omega), zlet_d, zlet_d, nI_1]) 114 0 20000 (0, mz) (by omega) (by omega) ⟨nI_0.symm, fun j hj => absurd hj (by omega)⟩
  dsimp only at d1 d2
  have hle : (114 : Int32) ≤ x' := by rw [d1]; decide
  have e1 : f_X8_findsBest ms mf mi mo mw mn mz me = zloop (b_X8_findsBest_28 mf mi mo mw mn me mz') 20000 (0, ms) := by
    unfold f_X8_findsBest
    rw [he]
    unfold b_X8_findsBest_2 j_X8_findsBest_26
    dsimp only
    rw [if_pos hle]
  have hO0 : ODr n t T v (fun j => if j < 0 then loT v j else v j 7) ms := ⟨v, LR_LQ hL, fun j _ => rfl, fun _ _ _ _ _ => rfl, rfl⟩
  obtain ⟨⟨y', N0⟩, g', ⟨f1, f2⟩, he2⟩ := zloop_run (b_X8_findsBest_28 mf mi mo mw mn me mz') n (fun i s => s.1 = nI i ∧ ODr n t T v (fun j => if j < i then loT v j else v j 7) s.2) (by
    rintro i ⟨y, z⟩ hi ⟨g1, g2⟩
    dsimp only at g1 g2
    subst g1
    have i4 : i < 4 := by omega
    have e8 := OD_8 g2 hi
    by_cases c : v i 11 = 0
    · refine ⟨(nI (i + 1), upd z (6 + 12 * i + 7) (-5)), ⟨rfl, ?_⟩, fun rc => ?_⟩
      · have := OD_upd g2 hi (x := -5) ⟨by decide, by decide⟩
        have ef : upd (fun j => if j < i then loT v j else v j 7) i (-5) = fun j => if j < i + 1 then loT v j else v j 7 := funext fun j => by
          by_cases e : j = i
          · subst e
            rw [upd_s, if_pos (by omega)]
            unfold loT
            rw [if_pos c]
          · rw [upd_o e]
            by_cases e2 : j < i
            · rw [if_pos e2, if_pos (by omega)]
            · rw [if_neg e2, if_neg (by omega)]
        rw [ef] at this
        exact this
      · unfold b_X8_findsBest_28 j_X8_findsBest_57
        dsimp only
        rw [z0i, zg_t, z0k, if_neg (show ¬ z 0 ≤ nI i by rw [OD_0 g2]; exact nI_ge hi (by omega)), of_8 z i4, zbd_s, e8, if_pos c, puts_7 z i4, zbd_s, zlet_d, nI_1]
    · refine ⟨(nI (i + 1), z), ⟨rfl, ?_⟩, fun rc => ?_⟩
      · have ef : (fun j => if j < i then loT v j else v j 7) = fun j => if j < i + 1 then loT v j else v j 7 := funext fun j => by
          by_cases e : j = i
          · subst e
            rw [if_neg (by omega), if_pos (by omega)]
            unfold loT
            rw [if_neg c]
          · by_cases e2 : j < i
            · rw [if_pos e2, if_pos (by omega)]
            · rw [if_neg e2, if_neg (by omega)]
        rw [ef] at g2
        exact g2
      · unfold b_X8_findsBest_28 j_X8_findsBest_57
        dsimp only
        rw [z0i, zg_t, z0k, if_neg (show ¬ z 0 ≤ nI i by rw [OD_0 g2]; exact nI_ge hi (by omega)), of_8 z i4, zbd_s, e8, if_neg c, zlet_d, nI_1]) n 0 20000 (0, ms) (by omega) (by omega) ⟨nI_0.symm, hO0⟩
  dsimp only at f1 f2
  have e2 : f_X8_findsBest ms mf mi mo mw mn mz me = zloop (b_X8_findsBest_71 mz') 20000 (1, -4, N0, mf, mi, mo, mw, mn, me) := by
    rw [e1, he2]
    unfold b_X8_findsBest_28 j_X8_findsBest_63
    dsimp only
    rw [z0i, zg_t, z0k, if_pos (show N0 0 ≤ y' by rw [OD_0 f2, f1]; exact Int32.le_refl _), zlet_d]
  have hB0 : BnF 0 (v 9 1) 0 := ⟨inI_aB hL.2.2.2.1.2 (by decide) (by decide), ⟨by decide, by decide⟩⟩
  have hp : 11 ^ n ≤ 11 ^ 4 := Nat.pow_le_pow_right (by decide) hn.2
  have hp4 : (11 : Nat) ^ 4 = 14641 := by decide
  rw [hp4] at hp
  obtain ⟨gg, b', N', a1, a2, a3, a4, a5, me', r1, r2, r3, r4⟩ := odo_eq hn.2 hC hR mz' n 0 (fun j => if j < n then loT v j else v j 7) N0 mf mi mo mw mn me (-4) (2147483647, sq) (v 9 1) 0 20000 (by omega) (fun j _ hj => if_pos hj) f2 (Or.inl ⟨rfl, rfl⟩) hB0 (fun _ _ => rfl) (by omega)
  obtain ⟨gg, rfl⟩ : ∃ g, gg = g + 1 := ⟨gg - 1, by omega⟩
  obtain ⟨o, q1, q2, q3, q4⟩ := rest146_eq mz' b' N' a1 a2 a3 a4 a5 me'
  refine ⟨o, (fun j => if j < n then loT v j else v j 7), ?_, ?_, fun j hj => (q3 j hj).trans (d2 j hj)⟩
  · rw [e2, r2]
    show b_X8_findsBest_71 mz' (zloop (b_X8_findsBest_71 mz') gg) (0, b', N', a1, a2, a3, a4, a5, me') = _
    unfold b_X8_findsBest_71
    dsimp only
    rw [if_pos rfl]
    exact q1
  · rw [q2, q4]
    exact r4
theorem st_best {tl : Nat → Int32} {tn pn pz : Int32} {pl : Nat → R2} {v u : R2} {m1 m2 : Int32} {mb ms mp : Nat → Int32} (h : RR tl tn pn pz pl v u m1 m2 mb ms mp) (sp sq : Nat → Int32) (sk m9 : Int32) (mf mi mo mw mn mz me : Nat → Int32) (x : Int32) : ∃ o o', f_X7_best sp sq sk v x = some o ∧ f_X8_best m9 ms mf mi mo mw mn mz me x = some o' ∧ o.1 = o'.1 ∧ RR tl tn pn pz pl v u m1 m2 mb o'.2.2.2.1 mp := by
  obtain ⟨h1, ⟨n, t, T, ht, hL⟩, h3, h4⟩ := id h
  have hn := hL.1
  have hC := hL.2.2.2.2.2.2.2.1
  have hR := hL.2.2.2.2.2.2.2.2.1
  obtain ⟨o', τ0, e1, ⟨e2, -, e4⟩, e5⟩ := findsBest_eq hL mf mi mo mw mn mz me sq
  have hB0 : BnF 0 (v 9 1) 0 := ⟨inI_aB hL.2.2.2.1.2 (by decide) (by decide), ⟨by decide, by decide⟩⟩
  obtain ⟨o, d1, -, d3, d4⟩ := try_eq hn.2 hL.2.1.1 hC hR n 0 5 (v 9 1) 0 2147483647 sp sq τ0 (2147483647, sq) (by omega) (by omega) hB0 (by decide) (fun j hj => absurd hj (by omega)) rfl (fun _ _ => rfl)
  rw [nI_0] at d1
  have hst : f_X3_start sp sq v = some (o.1, o.2.1, o.2.2) := by
    unfold f_X3_start
    rw [zlet_d, d1, zbd_s]
  have hN : RR tl tn pn pz pl v u m1 m2 mb o'.2.1 mp := ⟨h1, ⟨n, t, T, ht, LR_M e5 hL⟩, h3, h4⟩
  have hval : o.2.2 = o'.1 := d3.symm.trans e2.symm
  have htap : ∀ j, j < n → o.2.1 j = o'.2.2.2.2.2.2.2.2 j := fun j hj => (d4 j hj).symm.trans (e4 j hj).symm
  unfold f_X7_best f_X8_best j_X7_best_18 j_X8_best_20
  simp only [zlet_d]
  rw [hst, e1, zbd_s, zbd_s]
  by_cases c0 : x = -1
  · have hneg : ¬ (0 : Int32) ≤ x := by rw [c0]; decide
    rw [if_pos c0, if_pos c0, if_pos c0, if_neg hneg]
    exact ⟨_, _, rfl, rfl, hval, hN⟩
  · rw [if_neg c0, if_neg c0]
    rcases has_eq v hL.1.2 hL.2.1.1 x with ⟨i, hi, rfl, e⟩ | ⟨hx, e⟩
    · have i4 : i < 4 := by omega
      rw [e, isStage_yes ms hL.1.2 hL.2.1.2 hi, zbd_s, zbd_s, if_neg ne10, if_neg ne10, if_neg c0, z4 i4, zg_t, n4 i4, if_pos (nI_pos' (by omega)), zg_t]
      exact ⟨_, _, rfl, rfl, congrArg (· + 1000) (htap i hi), hN⟩
    · rw [e, isStage_no ms hL.1 hL.2.1.2 hx, zbd_s, zbd_s, if_pos rfl, if_pos rfl]
      exact ⟨_, _, rfl, rfl, rfl, h⟩
/-! ===== pure: the text ===== -/
/-- letter ch stands at p -/
def HR (tl : Nat → Int32) (K p : Nat) (ch : Int32) : Prop := p < K ∧ tl p = ch
def TXE (K : Nat) (tl mb : Nat → Int32) : Prop := K ≤ 200 ∧ ∀ k, k < K → tl k = mb k
theorem take_yes {tl : Nat → Int32} {K p : Nat} {ch : Int32} (hK : K ≤ 200) (h : HR tl K p ch) : f_X6_take tl (nI K) (nI p) ch = some (1, nI (p + 1)) := by
  obtain ⟨h1, h2⟩ := h
  unfold f_X6_take
  rw [if_neg (nI_ge h1 (by omega)), zin_n (i := p) (n := 200) (by omega) (by decide), zg_t, zn_n (i := p) (by omega), if_pos h2, zlet_d, nI_1]
theorem take_no {tl : Nat → Int32} {K p : Nat} {ch : Int32} (hK : K ≤ 200) (hp : p ≤ K) (h : ¬ HR tl K p ch) : f_X6_take tl (nI K) (nI p) ch = some (0, nI p) := by
  unfold f_X6_take
  by_cases c : p < K
  · rw [if_neg (nI_ge c (by omega)), zin_n (i := p) (n := 200) (by omega) (by decide), zg_t, zn_n (i := p) (by omega), if_neg (fun q => h ⟨c, q⟩)]
  · rw [if_pos (nI_le (by omega) (by omega))]
theorem here_yes {tl mb : Nat → Int32} {K p : Nat} {ch : Int32} (hT : TXE K tl mb) (h : HR tl K p ch) : f_X8_isHere (nI K) (nI p) mb ch = some 1 := by
  obtain ⟨h1, h2⟩ := h
  have hK := hT.1
  rw [hT.2 p h1] at h2
  unfold f_X8_isHere
  rw [if_neg (nI_ge h1 (by omega)), zin_n (i := p) (n := 200) (by omega) (by decide), zg_t, zn_n (i := p) (by omega), if_pos h2]
theorem here_no {tl mb : Nat → Int32} {K p : Nat} {ch : Int32} (hT : TXE K tl mb) (hp : p ≤ K) (h : ¬ HR tl K p ch) : f_X8_isHere (nI K) (nI p) mb ch = some 0 := by
  have hK := hT.1
  unfold f_X8_isHere
  by_cases c : p < K
  · have h2 : ¬ mb p = ch := fun q => h ⟨c, by rw [hT.2 p c]; exact q⟩
    rw [if_neg (nI_ge c (by omega)), zin_n (i := p) (n := 200) (by omega) (by decide), zg_t, zn_n (i := p) (by omega), if_neg h2]
  · rw [if_pos (nI_le (by omega) (by omega))]
theorem takes_yes {tl mb : Nat → Int32} {K p : Nat} {ch : Int32} (hT : TXE K tl mb) (h : HR tl K p ch) (m4 : Int32) : f_X8_takes (nI K) (nI p) m4 mb ch = some (nI (p + 1), m4) := by
  unfold f_X8_takes
  rw [here_yes hT h, zbd_s, if_neg ne10, zlet_d, nI_1]
theorem zbo0 : zbo 0 = true := by decide
theorem zbo1 : zbo 1 = true := by decide
theorem takes_no {tl mb : Nat → Int32} {K p : Nat} {ch : Int32} (hT : TXE K tl mb) (hp : p ≤ K) (h : ¬ HR tl K p ch) (m4 : Int32) : f_X8_takes (nI K) (nI p) m4 mb ch = some (nI p, 0) := by
  unfold f_X8_takes
  rw [here_no hT hp h, zbd_s, if_pos rfl, zbo0, zg_t, zlet_d]
theorem digits_eq {tl mb : Nat → Int32} {K : Nat} (hT : TXE K tl mb) (lo hi t m4 : Int32) : ∀ (r fg p f f' : Nat) (vl : Int32), fg + r = 4 → p ≤ K → r < f → r < f' → ∃ (fg' p' : Nat) (vl' : Int32), p ≤ p' ∧ p' ≤ K ∧ fg' ≤ 4 ∧ zloop (b_X6_readNumber_25 tl (nI K) lo hi t) f (nI fg, vl, nI p) = j_X6_readNumber_74 lo hi t (nI fg') vl' (nI p') ∧ zloop (b_X8_takesNumber_43 (nI K) m4 mb lo hi t) f' (vl, nI fg, nI p) = j_X8_takesNumber_115 m4 lo hi t vl' (nI fg') (nI p') := by
  have hK := hT.1
  intro r
  induction r with
  | zero =>
    intro fg p f f' vl hf hp h1 h2
    obtain ⟨f, rfl⟩ : ∃ g, f = g + 1 := ⟨f - 1, by omega⟩
    obtain ⟨f', rfl⟩ : ∃ g, f' = g + 1 := ⟨f' - 1, by omega⟩
    obtain rfl : fg = 4 := by omega
    have e4 : (4 : Int32) ≤ nI 4 := by decide
    refine ⟨4, p, vl, Nat.le_refl p, hp, by omega, ?_, ?_⟩
    · show b_X6_readNumber_25 tl (nI K) lo hi t (zloop (b_X6_readNumber_25 tl (nI K) lo hi t) f) (nI 4, vl, nI p) = _
      unfold b_X6_readNumber_25
      dsimp only
      rw [if_pos e4]
    · show b_X8_takesNumber_43 (nI K) m4 mb lo hi t (zloop (b_X8_takesNumber_43 (nI K) m4 mb lo hi t) f') (vl, nI 4, nI p) = _
      unfold b_X8_takesNumber_43 f_X8_in
      dsimp only
      by_cases c : p < K
      · rw [if_neg (nI_ge c (by omega)), zin_n (i := p) (n := 200) (by omega) (by decide), zg_t, zn_n (i := p) (by omega)]
        by_cases d1 : mb p < 48
        · rw [if_pos d1, zbd_s, if_pos rfl]
        · rw [if_neg d1]
          by_cases d2 : 57 < mb p
          · rw [if_pos d2, zbd_s, if_pos rfl]
          · rw [if_neg d2, zbd_s, if_neg ne10, if_pos e4]
      · rw [if_pos (nI_le (by omega) (by omega))]
  | succ r ih =>
    intro fg p f f' vl hf hp h1 h2
    obtain ⟨f, rfl⟩ : ∃ g, f = g + 1 := ⟨f - 1, by omega⟩
    obtain ⟨f', rfl⟩ : ∃ g, f' = g + 1 := ⟨f' - 1, by omega⟩
    have e4 : ¬ (4 : Int32) ≤ nI fg := nI_ge (b := 4) (by omega) (by decide)
    show ∃ (fg' p' : Nat) (vl' : Int32), p ≤ p' ∧ p' ≤ K ∧ fg' ≤ 4 ∧ b_X6_readNumber_25 tl (nI K) lo hi t (zloop (b_X6_readNumber_25 tl (nI K) lo hi t) f) (nI fg, vl, nI p) = _ ∧ b_X8_takesNumber_43 (nI K) m4 mb lo hi t (zloop (b_X8_takesNumber_43 (nI K) m4 mb lo hi t) f') (vl, nI fg, nI p) = _
    generalize hrc : zloop (b_X6_readNumber_25 tl (nI K) lo hi t) f = rc
    generalize hrc' : zloop (b_X8_takesNumber_43 (nI K) m4 mb lo hi t) f' = rc'
    unfold b_X6_readNumber_25 b_X8_takesNumber_43 f_X8_in f_X6_isFigure
    dsimp only
    rw [if_neg e4]
    by_cases c : p < K
    · rw [if_neg (nI_ge c (by omega)), if_neg (nI_ge c (by omega)), zin_n (i := p) (n := 200) (by omega) (by decide), zg_t, zg_t, zg_t, zg_t, zg_t, zn_n (i := p) (by omega), ← hT.2 p c]
      by_cases d1 : tl p < 48
      · rw [if_pos d1, if_pos d1, zbd_s, zbd_s, if_pos rfl, if_pos rfl]
        exact ⟨fg, p, vl, Nat.le_refl p, hp, by omega, rfl, rfl⟩
      · rw [if_neg d1, if_neg d1]
        by_cases d2 : 57 < tl p
        · rw [if_pos d2, if_pos d2, zbd_s, zbd_s, if_pos rfl, if_pos rfl]
          exact ⟨fg, p, vl, Nat.le_refl p, hp, by omega, rfl, rfl⟩
        · rw [if_neg d2, if_neg d2, zbd_s, zbd_s, if_neg ne10, if_neg ne10, if_neg e4]
          simp only [zlet_d]
          rw [nI_1, nI_1, Int32.mul_comm 10 vl, ← hrc, ← hrc']
          obtain ⟨fg', p', vl', q1, q2, q3, q4, q5⟩ := ih (fg + 1) (p + 1) f f' (vl * 10 + tl p - 48) (by omega) (by omega) (by omega) (by omega)
          exact ⟨fg', p', vl', by omega, q2, q3, q4, q5⟩
    · rw [if_pos (nI_le (by omega) (by omega)), if_pos (nI_le (by omega) (by omega)), zbd_s, if_pos rfl]
      exact ⟨fg, p, vl, Nat.le_refl p, hp, by omega, rfl, rfl⟩
/-- what is made of the figures -/
theorem fin_eq (lo hi t vl : Int32) (P : Int32) {fg : Nat} (hf : fg ≤ 4) (ht : t = 0 ∨ t = 1) : ∃ r, (j_X6_readNumber_74 lo hi t (nI fg) vl P = some (r, P) ∧ j_X8_takesNumber_115 1 lo hi t vl (nI fg) P = some (r, P, 1) ∧ lo ≤ r ∧ r ≤ hi) ∨ (j_X6_readNumber_74 lo hi t (nI fg) vl P = some (10000, P) ∧ j_X8_takesNumber_115 1 lo hi t vl (nI fg) P = some (r, P, 0)) := by
  have key : ∀ y : Int32, ∃ r, (j_X6_readNumber_104 lo hi P y = some (r, P) ∧ j_X8_takesNumber_157 lo hi P 1 y = some (r, P, 1) ∧ lo ≤ r ∧ r ≤ hi) ∨ (j_X6_readNumber_104 lo hi P y = some (10000, P) ∧ j_X8_takesNumber_157 lo hi P 1 y = some (r, P, 0)) := fun y => by
    unfold j_X6_readNumber_104 j_X8_takesNumber_157 j_X6_readNumber_118 j_X8_takesNumber_181 j_X8_takesNumber_182 f_X8_in
    rw [if_neg ne10]
    by_cases c1 : y < lo
    · rw [if_pos c1, if_pos c1, zbd_s, if_pos rfl, zbo0, zg_t, zlet_d]
      exact ⟨y, Or.inr ⟨rfl, rfl⟩⟩
    · rw [if_neg c1, if_neg c1]
      by_cases c2 : y ≤ hi
      · rw [if_pos c2, if_neg (Int32.not_lt.mpr c2), zbd_s, if_neg ne10, zbo1, zg_t, zlet_d]
        exact ⟨y, Or.inl ⟨rfl, rfl, Int32.not_lt.mp c1, c2⟩⟩
      · rw [if_neg c2, if_pos (Int32.not_le.mp c2), zbd_s, if_pos rfl, zbo0, zg_t, zlet_d]
        exact ⟨y, Or.inr ⟨rfl, rfl⟩⟩
  have k0 : ∀ y : Int32, j_X8_takesNumber_157 lo hi P 0 y = some (y, P, 0) := fun y => by
    unfold j_X8_takesNumber_157 j_X8_takesNumber_181 j_X8_takesNumber_182
    rw [if_pos rfl, zbo0, zg_t, zlet_d]
  unfold j_X6_readNumber_74 j_X8_takesNumber_115 j_X8_takesNumber_137 j_X8_takesNumber_141 j_X8_takesNumber_142 j_X6_readNumber_92
  rw [zbo0, zbo1, zg_t, zg_t, zlet_d, zlet_d, if_neg ne10]
  rcases Nat.eq_zero_or_pos fg with h0 | h0
  · subst h0
    have e0 : nI 0 = (0 : Int32) := rfl
    have e1 : nI 0 ≤ (0 : Int32) := by decide
    rw [if_pos e0, if_pos e1, k0, k0]
    rcases ht with h | h
    · rw [if_pos h]; exact ⟨_, Or.inr ⟨rfl, rfl⟩⟩
    · rw [if_neg (by rw [h]; exact ne10)]; exact ⟨_, Or.inr ⟨rfl, rfl⟩⟩
  · rw [if_neg (nI_ne0 h0 (by omega)), if_neg (nI_nle h0 (by omega))]
    rcases ht with h | h
    · subst h
      rw [if_pos rfl, if_pos rfl, if_pos rfl]
      exact key vl
    · subst h
      rw [if_neg ne10, if_neg ne10, if_neg ne10]
      by_cases c : vl = 0
      · rw [if_pos c, if_pos c, k0]
        exact ⟨_, Or.inr ⟨rfl, rfl⟩⟩
      · rw [if_neg c, if_neg c]
        exact key (-vl)
theorem fin_0 (lo hi t vl : Int32) (P y : Int32) : ∃ r, j_X8_takesNumber_115 0 lo hi t vl y P = some (r, P, 0) := by
  unfold j_X8_takesNumber_115 j_X8_takesNumber_141 j_X8_takesNumber_142 j_X8_takesNumber_157 j_X8_takesNumber_181 j_X8_takesNumber_182
  rw [if_pos rfl, zbo0, zg_t, zlet_d, zg_t, zlet_d, if_pos rfl]
  by_cases c : t = 0
  · rw [if_pos c]; exact ⟨_, rfl⟩
  · rw [if_neg c, zg_t, zlet_d, if_pos rfl]; exact ⟨_, rfl⟩
/-- where a number's figures begin -/
theorem begin_eq {tl mb : Nat → Int32} {K p : Nat} (hT : TXE K tl mb) (hp : p ≤ K) (lo hi : Int32) : ∃ (t : Int32) (q : Nat), (t = 0 ∨ t = 1) ∧ p ≤ q ∧ q ≤ K ∧ f_X6_readNumber tl (nI K) (nI p) lo hi = zloop (b_X6_readNumber_25 tl (nI K) lo hi t) 1000 (nI 0, 0, nI q) ∧ ∀ m4, f_X8_takesNumber (nI K) (nI p) m4 mb lo hi = zloop (b_X8_takesNumber_43 (nI K) m4 mb lo hi t) 1000 (0, nI 0, nI q) := by
  have hK := hT.1
  unfold f_X6_readNumber f_X8_takesNumber j_X6_readNumber_17 j_X6_readNumber_18 j_X8_takesNumber_17 j_X8_takesNumber_18 j_X8_takesNumber_33
  by_cases c : 0 ≤ lo
  · refine ⟨0, p, Or.inl rfl, Nat.le_refl p, hp, ?_, fun m4 => ?_⟩
    · rw [if_pos c, nI_0]
    · rw [if_pos c, if_pos rfl, zlet_d, Int32.add_zero, nI_0]
  · by_cases h : HR tl K p 45
    · refine ⟨1, p + 1, Or.inr rfl, by omega, h.1, ?_, fun m4 => ?_⟩
      · rw [if_neg c, take_yes hK h, zbd_s, if_neg ne10, nI_0]
      · rw [if_neg c, here_yes hT h, zbd_s, if_neg ne10, if_neg ne10, zlet_d, nI_1, nI_0]
    · refine ⟨0, p, Or.inl rfl, Nat.le_refl p, hp, ?_, fun m4 => ?_⟩
      · rw [if_neg c, take_no hK hp h, zbd_s, if_pos rfl, nI_0]
      · rw [if_neg c, here_no hT hp h, zbd_s, if_pos rfl, if_pos rfl, zlet_d, Int32.add_zero, nI_0]
theorem num_eq {tl mb : Nat → Int32} {K p : Nat} (hT : TXE K tl mb) (hp : p ≤ K) (lo hi : Int32) : ∃ (q : Nat) (r : Int32), p ≤ q ∧ q ≤ K ∧ ((f_X6_readNumber tl (nI K) (nI p) lo hi = some (r, nI q) ∧ f_X8_takesNumber (nI K) (nI p) 1 mb lo hi = some (r, nI q, 1) ∧ lo ≤ r ∧ r ≤ hi) ∨ (f_X6_readNumber tl (nI K) (nI p) lo hi = some (10000, nI q) ∧ f_X8_takesNumber (nI K) (nI p) 1 mb lo hi = some (r, nI q, 0))) := by
  obtain ⟨t, q, h1, h2, h3, h4, h5⟩ := begin_eq hT hp lo hi
  obtain ⟨fg, q', vl, g1, g2, g3, g4, g5⟩ := digits_eq hT lo hi t 1 4 0 q 1000 1000 0 (by omega) h3 (by omega) (by omega)
  obtain ⟨r, hr⟩ := fin_eq lo hi t vl (nI q') g3 h1
  refine ⟨q', r, by omega, g2, ?_⟩
  rw [h4, h5 1, g4, g5]
  exact hr
theorem num_0 {tl mb : Nat → Int32} {K p : Nat} (hT : TXE K tl mb) (hp : p ≤ K) (lo hi : Int32) : ∃ (q : Nat) (r : Int32), p ≤ q ∧ q ≤ K ∧ f_X8_takesNumber (nI K) (nI p) 0 mb lo hi = some (r, nI q, 0) := by
  obtain ⟨t, q, h1, h2, h3, h4, h5⟩ := begin_eq hT hp lo hi
  obtain ⟨fg, q', vl, g1, g2, g3, g4, g5⟩ := digits_eq hT lo hi t 0 4 0 q 1000 1000 0 (by omega) h3 (by omega) (by omega)
  obtain ⟨r, hr⟩ := fin_0 lo hi t vl (nI q') (nI fg)
  exact ⟨q', r, by omega, g2, by rw [h5 0, g5]; exact hr⟩
/-! ===== pure: settle ===== -/
theorem inI_nI {x : Int32} {b : Nat} (h : inI x 0 b) (hb : b < 2 ^ 31) : ∃ j : Nat, j ≤ b ∧ x = nI j := by
  refine ⟨x.toInt.toNat, by unfold inI at h; omega, Int32.toInt_inj.mp ?_⟩
  rw [nI_toInt (by unfold inI at h; omega)]
  unfold inI at h
  omega
theorem tap5 {x : Int32} (h : inI x (-5) 5) : ∃ j : Nat, j ≤ 10 ∧ x + 5 = nI j := by
  have k5 : (5 : Int32).toInt = 5 := by decide
  have := tI_add (x := x) (y := 5) (by rw [k5]; unfold inI at h; omega) (by rw [k5]; unfold inI at h; omega)
  rw [k5] at this
  exact inI_nI (b := 10) (by unfold inI at h ⊢; omega) (by decide)
theorem l_shl {X k : Nat} (s : Int64) (hs : (s.toBitVec.smod 64).toNat = k) (h : X * 2 ^ k < 2 ^ 64) : lN X <<< s = lN (X * 2 ^ k) := by
  apply Int64.toBitVec_inj.mp
  apply BitVec.eq_of_toNat_eq
  have hX : X < 2 ^ 64 := Nat.lt_of_le_of_lt (Nat.le_mul_of_pos_right X (Nat.two_pow_pos k)) h
  have e : ∀ n, n < 2 ^ 64 → (lN n).toBitVec.toNat = n := fun n hn => by
    show (BitVec.ofNat 64 n).toNat = n
    rw [BitVec.toNat_ofNat, Nat.mod_eq_of_lt hn]
  have e1 : (lN X <<< s).toBitVec.toNat = (lN X).toBitVec.toNat * 2 ^ k % 2 ^ 64 := by
    show ((lN X).toBitVec <<< (s.toBitVec.smod 64).toNat).toNat = _
    rw [hs, BitVec.toNat_shiftLeft, Nat.shiftLeft_eq]
  rw [e1, e X hX, e _ h, Nat.mod_eq_of_lt h]
theorem l_or (A B : Nat) : lN A ||| lN B = lN (A ||| B) := by
  apply Int64.toBitVec_inj.mp
  show BitVec.ofNat 64 A ||| BitVec.ofNat 64 B = BitVec.ofNat 64 (A ||| B)
  exact BitVec.ofNat_or.symm
theorem sh4 : ((Int32.toInt64 4 &&& 63 : Int64).toBitVec.smod 64).toNat = 4 := by decide
theorem sh2 : ((Int32.toInt64 2 &&& 63 : Int64).toBitVec.smod 64).toNat = 2 := by decide
theorem pk_stepC {X a b c : Nat} (hX : X < 2 ^ 48) (ha : a < 16) (hb : b < 16) (hc : c < 4) : ((((lN X <<< (Int32.toInt64 4 &&& 63)) ||| lN a) <<< (Int32.toInt64 4 &&& 63) ||| lN b) <<< (Int32.toInt64 2 &&& 63)) ||| lN c = lN (X * 1024 + a * 64 + b * 4 + c) := by
  have o4 : ∀ Y d, d < 16 → Y * 2 ^ 4 ||| d = Y * 16 + d := fun Y d hd => by
    have := Nat.shiftLeft_add_eq_or_of_lt (i := 4) (b := d) hd Y
    rw [Nat.shiftLeft_eq] at this
    exact this.symm
  have o2 : ∀ Y d, d < 4 → Y * 2 ^ 2 ||| d = Y * 4 + d := fun Y d hd => by
    have := Nat.shiftLeft_add_eq_or_of_lt (i := 2) (b := d) hd Y
    rw [Nat.shiftLeft_eq] at this
    exact this.symm
  rw [l_shl _ sh4 (by omega), l_or, o4 _ _ ha, l_shl _ sh4 (by omega), l_or, o4 _ _ hb, l_shl _ sh2 (by omega), l_or, o2 _ _ hc]
  congr 1
  omega
def pkN (v : R2) : Nat → Nat → Nat → Nat
  | 0, _, X => X
  | k + 1, i, X => pkN v k (i + 1) (X * 1024 + zn (v i 7 + 5) * 64 + zn (v i 8) * 4 + zn (v i 9))
theorem pk_row {g : Nat → Int32} (h : RGr g) : (zn (g 7 + 5) ≤ 10 ∧ g 7 + 5 = nI (zn (g 7 + 5))) ∧ (zn (g 8) ≤ 9 ∧ g 8 = nI (zn (g 8))) ∧ (zn (g 9) ≤ 2 ∧ g 9 = nI (zn (g 9))) := by
  obtain ⟨a, a1, a2⟩ := tap5 h.2.2.2.2.2.2.2.1
  obtain ⟨b, b1, b2⟩ := inI_nI (b := 9) h.2.2.2.2.2.2.2.2.1 (by decide)
  obtain ⟨c, c1, c2⟩ := inI_nI (b := 2) h.2.2.2.2.2.2.2.2.2.1 (by decide)
  rw [a2, b2, c2, zn_n (i := a) (by omega), zn_n (i := b) (by omega), zn_n (i := c) (by omega)]
  exact ⟨⟨a1, rfl⟩, ⟨b1, rfl⟩, c1, rfl⟩
theorem packed_eq (v : R2) {n : Nat} (hn : n ≤ 4) (hv : v 9 0 = nI n) (hR : RG n v) : ∀ (k i f X : Nat), i + k = n → k < f → X < 1024 ^ i → zloop (b_X1_packed_4 v) f (lN X, nI i) = some (lN (pkN v k i X)) := by
  intro k
  induction k with
  | zero =>
    intro i f X hi hf hX
    obtain ⟨f, rfl⟩ : ∃ g, f = g + 1 := ⟨f - 1, by omega⟩
    show b_X1_packed_4 v (zloop (b_X1_packed_4 v) f) (lN X, nI i) = _
    unfold b_X1_packed_4
    dsimp only
    rw [hv, if_pos (nI_le (by omega) (by omega))]
    rfl
  | succ k ih =>
    intro i f X hi hf hX
    obtain ⟨f, rfl⟩ : ∃ g, f = g + 1 := ⟨f - 1, by omega⟩
    obtain ⟨⟨a1, a2⟩, ⟨b1, b2⟩, c1, c2⟩ := pk_row (hR i (by omega))
    have hX4 : X < 2 ^ 48 := Nat.lt_of_lt_of_le hX (Nat.le_trans (Nat.pow_le_pow_right (by decide) (show i ≤ 4 by omega)) (by decide))
    have h1 : b_X1_packed_4 v (zloop (b_X1_packed_4 v) f) (lN X, nI i) = zloop (b_X1_packed_4 v) f (lN (X * 1024 + zn (v i 7 + 5) * 64 + zn (v i 8) * 4 + zn (v i 9)), nI (i + 1)) := by
      generalize zloop (b_X1_packed_4 v) f = rc
      generalize zn (v i 7 + 5) = a at *
      generalize zn (v i 8) = b at *
      generalize zn (v i 9) = c at *
      unfold b_X1_packed_4
      dsimp only
      rw [hv, if_neg (nI_ge (show i < n by omega) (by omega)), z4 (show i < 4 by omega), zg_t, n4 (show i < 4 by omega)]
      simp only [zlet_d]
      rw [a2, b2, c2, nI_l (by omega), nI_l (by omega), nI_l (by omega), nI_1, pk_stepC hX4 (by omega) (by omega) (by omega)]
    refine h1.trans (ih (i + 1) f _ (by omega) (by omega) ?_)
    rw [Nat.pow_succ]
    omega
theorem codeOf_eq (v : R2) (ms : Nat → Int32) {n : Nat} (hn : n ≤ 4) (hM : ms 0 = nI n) (hF : FR n v ms) (hR : RG n v) : ∀ (k i f X : Nat), i + k = n → k < f → zloop (b_X8_codeOf_4 ms) f (lN X, nI i) = some (lN (pkN v k i X)) := by
  intro k
  induction k with
  | zero =>
    intro i f X hi hf
    obtain ⟨f, rfl⟩ : ∃ g, f = g + 1 := ⟨f - 1, by omega⟩
    show b_X8_codeOf_4 ms (zloop (b_X8_codeOf_4 ms) f) (lN X, nI i) = _
    unfold b_X8_codeOf_4
    dsimp only
    rw [z0i, zg_t, z0k, hM, if_pos (nI_le (by omega) (by omega))]
    rfl
  | succ k ih =>
    intro i f X hi hf
    obtain ⟨f, rfl⟩ : ∃ g, f = g + 1 := ⟨f - 1, by omega⟩
    obtain ⟨⟨a1, a2⟩, ⟨b1, b2⟩, c1, c2⟩ := pk_row (hR i (by omega))
    have h1 : b_X8_codeOf_4 ms (zloop (b_X8_codeOf_4 ms) f) (lN X, nI i) = zloop (b_X8_codeOf_4 ms) f (lN (X * 1024 + zn (v i 7 + 5) * 64 + zn (v i 8) * 4 + zn (v i 9)), nI (i + 1)) := by
      generalize zloop (b_X8_codeOf_4 ms) f = rc
      have f7 : ms (6 + 12 * i + 7) = v i 7 := (hF i (by omega) 7 (by decide)).symm
      have f9 : ms (6 + 12 * i + 9) = v i 8 := (hF i (by omega) 8 (by decide)).symm
      have f10 : ms (6 + 12 * i + 10) = v i 9 := (hF i (by omega) 9 (by decide)).symm
      generalize zn (v i 7 + 5) = a at *
      generalize zn (v i 8) = b at *
      generalize zn (v i 9) = c at *
      unfold b_X8_codeOf_4
      dsimp only
      rw [z0i, zg_t, z0k, hM, if_neg (nI_ge (show i < n by omega) (by omega)), of_7 ms (show i < 4 by omega), zbd_s, of_9 ms (show i < 4 by omega), zbd_s, of_10 ms (show i < 4 by omega), zbd_s, f7, f9, f10]
      simp only [zlet_d]
      have e1 : nI a * 64 = nI (a * 64) := pk_mul a 64
      have e2 : nI b * 4 = nI (b * 4) := pk_mul b 4
      rw [a2, b2, c2, e1, e2, nI_l (by omega), nI_l (by omega), nI_l (by omega), nI_1, show (1024 : Int64) = lN 1024 from rfl, lN_mul, lN_add, lN_add, lN_add]
    exact h1.trans (ih (i + 1) f _ (by omega) (by omega))
/-- the first place from m on that is like place k -/
def flF (a : Nat → Int64) (k : Nat) : Nat → Nat → Nat
  | 0, m => m
  | r + 1, m => if a m = a k then m else flF a k r (m + 1)
theorem flF_le (a : Nat → Int64) (k : Nat) : ∀ r m, m + r = k → flF a k r m ≤ k := by
  intro r
  induction r with
  | zero => intro m h; show m ≤ k; omega
  | succ r ih =>
    intro m h
    show (if a m = a k then m else flF a k r (m + 1)) ≤ k
    split
    · omega
    · exact ih (m + 1) (by omega)
theorem flF_eqv {a b : Nat → Int64} {k : Nat} (h : ∀ m, m ≤ k → a m = b m) : ∀ r m, m + r = k → flF a k r m = flF b k r m := by
  intro r
  induction r with
  | zero => intro m _; rfl
  | succ r ih =>
    intro m hm
    show (if a m = a k then m else flF a k r (m + 1)) = (if b m = b k then m else flF b k r (m + 1))
    rw [h m (by omega), h k (Nat.le_refl k), ih (m + 1) (by omega)]
theorem firstLike_eq (sn : Nat → Int64) {k : Nat} (hk : k ≤ 300) : ∀ (r m f : Nat), m + r = k → r < f → zloop (b_X0_firstLike_2 sn (nI k)) f (nI m) = some (nI (flF sn k r m)) := by
  intro r
  induction r with
  | zero =>
    intro m f hm hf
    obtain ⟨f, rfl⟩ : ∃ g, f = g + 1 := ⟨f - 1, by omega⟩
    obtain rfl : m = k := by omega
    show b_X0_firstLike_2 sn (nI m) (zloop (b_X0_firstLike_2 sn (nI m)) f) (nI m) = _
    unfold b_X0_firstLike_2
    rw [if_pos (Int32.le_refl _)]
    rfl
  | succ r ih =>
    intro m f hm hf
    obtain ⟨f, rfl⟩ : ∃ g, f = g + 1 := ⟨f - 1, by omega⟩
    have h1 : b_X0_firstLike_2 sn (nI k) (zloop (b_X0_firstLike_2 sn (nI k)) f) (nI m) = if sn m = sn k then some (nI m) else zloop (b_X0_firstLike_2 sn (nI k)) f (nI (m + 1)) := by
      generalize zloop (b_X0_firstLike_2 sn (nI k)) f = rc
      unfold b_X0_firstLike_2
      rw [if_neg (nI_ge (show m < k by omega) (by omega)), zin_n (i := m) (n := 301) (by omega) (by decide), zin_n (i := k) (n := 301) (by omega) (by decide), zg_t, zg_t, zn_n (i := m) (by omega), zn_n (i := k) (by omega), zlet_d, nI_1]
      by_cases c : sn m = sn k
      · rw [if_pos c, if_pos ((lg_cmp_eq _ _).mpr c)]
      · rw [if_neg c, if_neg (fun q => c ((lg_cmp_eq _ _).mp q))]
    show b_X0_firstLike_2 sn (nI k) (zloop (b_X0_firstLike_2 sn (nI k)) f) (nI m) = _
    rw [h1]
    show _ = some (nI (if sn m = sn k then m else flF sn k r (m + 1)))
    by_cases c : sn m = sn k
    · rw [if_pos c, if_pos c]
    · rw [if_neg c, if_neg c]
      exact ih (m + 1) f (by omega) (by omega)
theorem nI_nm4 {k : Nat} (h : k < 2 ^ 31) : ¬ nI k = (-4 : Int32) := fun e => nI_pos h (by rw [e]; decide)
theorem in117_eq (rc : (Int32 × Int32 × Int32 × Int32 × Int32 × (Nat → Int32) × (Nat → Int32) × (Nat → Int32) × (Nat → Int32) × (Nat → Int32) × (Nat → Int32) × (Nat → Int32) × (Nat → Int64) × (Nat → Int32)) → Option (Int32 × Int32 × Int32 × Int32 × (Nat → Int32) × (Nat → Int32) × (Nat → Int32) × (Nat → Int32) × (Nat → Int32) × (Nat → Int32) × (Nat → Int32) × (Nat → Int64) × (Nat → Int32) × (Nat → Int32))) (s : Int32 × Int32 × Int32 × Int32 × Int32 × (Nat → Int32) × (Nat → Int32) × (Nat → Int32) × (Nat → Int32) × (Nat → Int32) × (Nat → Int32) × (Nat → Int32) × (Nat → Int64) × (Nat → Int32)) (N mk mf mi mo mw mn : Nat → Int32) (mt : Nat → Int64) (mq : Nat → Int32) {k : Nat} (hk : k ≤ 300) (hs : s.1 = nI k) : ∀ (r m f : Nat) (c d : Int32), m + r = k → r + 1 < f → zloop (b_X8_settles_117 rc s N mk mf mi mo mw mn (-4) mt mq) f (nI m, -4, c, d) = if flF mt k r m < k then j_X8_settles_191 rc s N mk mf mi mo mw mn (-4) mt mq (nI (flF mt k r m)) (nI k - nI (flF mt k r m)) (mq k - mq (flF mt k r m)) else j_X8_settles_191 rc s N mk mf mi mo mw mn (-4) mt mq (-4) c d := by
  intro r
  induction r with
  | zero =>
    intro m f c d hm hf
    obtain ⟨f, rfl⟩ : ∃ g, f = g + 1 := ⟨f - 1, by omega⟩
    obtain rfl : m = k := by omega
    show b_X8_settles_117 rc s N mk mf mi mo mw mn (-4) mt mq (zloop (b_X8_settles_117 rc s N mk mf mi mo mw mn (-4) mt mq) f) (nI m, -4, c, d) = _
    unfold b_X8_settles_117
    dsimp only
    rw [hs, if_pos (Int32.le_refl _), if_neg (show ¬ flF mt m 0 m < m from by show ¬ m < m; omega)]
  | succ r ih =>
    intro m f c d hm hf
    obtain ⟨f, rfl⟩ : ∃ g, f = g + 1 := ⟨f - 1, by omega⟩
    have h1 : b_X8_settles_117 rc s N mk mf mi mo mw mn (-4) mt mq (zloop (b_X8_settles_117 rc s N mk mf mi mo mw mn (-4) mt mq) f) (nI m, -4, c, d) = if mt m = mt k then zloop (b_X8_settles_117 rc s N mk mf mi mo mw mn (-4) mt mq) f (nI (m + 1), nI m, nI k - nI m, mq k - mq m) else zloop (b_X8_settles_117 rc s N mk mf mi mo mw mn (-4) mt mq) f (nI (m + 1), -4, c, d) := by
      generalize zloop (b_X8_settles_117 rc s N mk mf mi mo mw mn (-4) mt mq) f = rc2
      unfold b_X8_settles_117 j_X8_settles_185
      dsimp only
      rw [hs, if_neg (nI_ge (show m < k by omega) (by omega)), if_pos rfl, if_pos rfl, zin_n (i := m) (n := 301) (by omega) (by decide), zin_n (i := k) (n := 301) (by omega) (by decide), zn_n (i := m) (by omega), zn_n (i := k) (by omega), nI_1]
      simp only [zg_t, zlet_d]
      by_cases c : mt m = mt k
      · rw [if_pos c, if_pos ((lg_cmp_eq _ _).mpr c)]
      · rw [if_neg c, if_neg (fun q => c ((lg_cmp_eq _ _).mp q))]
    show b_X8_settles_117 rc s N mk mf mi mo mw mn (-4) mt mq (zloop (b_X8_settles_117 rc s N mk mf mi mo mw mn (-4) mt mq) f) (nI m, -4, c, d) = _
    rw [h1]
    have hfl : flF mt k (r + 1) m = if mt m = mt k then m else flF mt k r (m + 1) := rfl
    rw [hfl]
    by_cases e : mt m = mt k
    · rw [if_pos e, if_pos e, if_pos (show m < k by omega)]
      obtain ⟨f, rfl⟩ : ∃ g, f = g + 1 := ⟨f - 1, by omega⟩
      show b_X8_settles_117 rc s N mk mf mi mo mw mn (-4) mt mq (zloop (b_X8_settles_117 rc s N mk mf mi mo mw mn (-4) mt mq) f) (nI (m + 1), nI m, nI k - nI m, mq k - mq m) = _
      unfold b_X8_settles_117
      dsimp only
      by_cases e2 : s.1 ≤ nI (m + 1)
      · rw [if_pos e2]
      · rw [if_neg e2, if_pos rfl, if_neg (nI_nm4 (by omega))]
    · rw [if_neg e, if_neg e]
      exact ih (m + 1) f c d (by omega) (by omega)
theorem rest201_eq (mz : Nat → Int32) (a b c d : Int32) (N mf mi mo mw mn mk : Nat → Int32) (mt : Nat → Int64) (mq : Nat → Int32) : ∃ o, j_X8_settles_201 mz a b c d N mf mi mo mw mn mk mt mq = some o ∧ (o.1 = a ∧ o.2.1 = b ∧ o.2.2.1 = c ∧ o.2.2.2.1 = d) ∧ ∀ j, j < 114 → o.2.2.2.2.1 j = mz j := by
  unfold j_X8_settles_201
  refine zloop_inv (b_X8_settles_203 mz a b c d mf mi mo mw mn mk mt mq) 114 (fun i s => s.1 = nI i ∧ ∀ j, j < i → s.2 j = mz j) _ ?_ ?_ 114 0 1000 _ (by omega) (by omega) ?_
  · rintro ⟨x, w⟩ rc ⟨h1, h2⟩
    dsimp only at h1 h2
    unfold b_X8_settles_203
    dsimp only
    rw [h1, if_pos (by decide)]
    exact ⟨_, rfl, ⟨rfl, rfl, rfl, rfl⟩, h2⟩
  · rintro i ⟨x, w⟩ hi ⟨h1, h2⟩
    dsimp only at h1 h2
    subst h1
    refine ⟨(nI (i + 1), upd w i (mz i)), ⟨rfl, fun j hj => ?_⟩, fun rc => ?_⟩
    · show upd w i _ j = mz j
      by_cases e : j = i
      · subst e; rw [upd_s]
      · rw [upd_o e]; exact h2 j (by omega)
    · unfold b_X8_settles_203
      dsimp only
      have hne : ¬ (114 : Int32) ≤ nI i := nI_ge (b := 114) hi (by decide)
      rw [if_neg hne, zin_n (i := i) (n := 114) hi (by decide), zg_t, zg_t, zn_n (i := i) (by omega), zlet_d, zlet_d, nI_1]
  · exact ⟨nI_0.symm, fun j h => absurd h (by omega)⟩
theorem s52_out (mz : Nat → Int32) (rc : (Int32 × Int32 × Int32 × Int32 × Int32 × (Nat → Int32) × (Nat → Int32) × (Nat → Int32) × (Nat → Int32) × (Nat → Int32) × (Nat → Int32) × (Nat → Int32) × (Nat → Int64) × (Nat → Int32)) → Option (Int32 × Int32 × Int32 × Int32 × (Nat → Int32) × (Nat → Int32) × (Nat → Int32) × (Nat → Int32) × (Nat → Int32) × (Nat → Int32) × (Nat → Int32) × (Nat → Int64) × (Nat → Int32) × (Nat → Int32))) (x a b c d : Int32) (N mf mi mo mw mn mk : Nat → Int32) (mt : Nat → Int64) (mq : Nat → Int32) (h : 300 < x ∨ ¬ a = -4 ∨ ¬ b = -4) : b_X8_settles_52 mz rc (x, a, b, c, d, N, mf, mi, mo, mw, mn, mk, mt, mq) = j_X8_settles_201 mz a b c d N mf mi mo mw mn mk mt mq := by
  unfold b_X8_settles_52
  simp only [zlet_d]
  by_cases c1 : 300 < x
  · rw [if_pos c1]
  · rw [if_neg c1]
    by_cases c2 : a = -4
    · rw [if_pos c2]
      by_cases c3 : b = -4
      · rcases h with h | h | h
        · exact absurd h c1
        · exact absurd c2 h
        · exact absurd c3 h
      · rw [if_neg c3]
    · rw [if_neg c2]
theorem s52_in (mz : Nat → Int32) (rc : (Int32 × Int32 × Int32 × Int32 × Int32 × (Nat → Int32) × (Nat → Int32) × (Nat → Int32) × (Nat → Int32) × (Nat → Int32) × (Nat → Int32) × (Nat → Int32) × (Nat → Int64) × (Nat → Int32)) → Option (Int32 × Int32 × Int32 × Int32 × (Nat → Int32) × (Nat → Int32) × (Nat → Int32) × (Nat → Int32) × (Nat → Int32) × (Nat → Int32) × (Nat → Int32) × (Nat → Int64) × (Nat → Int32) × (Nat → Int32))) {k : Nat} (hk : k ≤ 300) (N mf mi mo mw mn mk : Nat → Int32) (mt : Nat → Int64) (mq : Nat → Int32) {o4 : (Nat → Int32) × (Nat → Int32) × (Nat → Int32) × (Nat → Int32) × (Nat → Int32)} (h4 : f_X8_lays N mf mi mo mw mn = some o4) {q : Int32} (hq : f_X8_isQuiet N o4.2.2.2.2 = some q) {co : Int64} (hc : f_X8_codeOf N = some co) : b_X8_settles_52 mz rc (nI k, -4, -4, -4, -4, N, mf, mi, mo, mw, mn, mk, mt, mq) = zloop (b_X8_settles_117 rc (nI k, -4, -4, -4, -4, N, mf, mi, mo, mw, mn, mk, mt, mq) N mk o4.1 o4.2.1 o4.2.2.1 o4.2.2.2.1 o4.2.2.2.2 (if q = 0 then -4 else nI k) (vp_updL mt k co) (upd mq k (N 3))) 1000 (0, -4, -4, -4) := by
  have k3 : zn 3 = 3 := by decide
  have i3 : zin 3 114 = true := by decide
  have hne : ¬ (300 : Int32) < nI k := nI_nlt (a := 300) hk (by decide)
  have key : ∀ m41 : Int32, j_X8_settles_93 rc (nI k, -4, -4, -4, -4, N, mf, mi, mo, mw, mn, mk, mt, mq) (-4) (-4) (-4) N mk mt mq o4.1 o4.2.1 o4.2.2.1 o4.2.2.2.1 o4.2.2.2.2 m41 = zloop (b_X8_settles_117 rc (nI k, -4, -4, -4, -4, N, mf, mi, mo, mw, mn, mk, mt, mq) N mk o4.1 o4.2.1 o4.2.2.1 o4.2.2.2.1 o4.2.2.2.2 m41 (vp_updL mt k co) (upd mq k (N 3))) 1000 (0, -4, -4, -4) := fun m41 => by
    unfold j_X8_settles_93
    dsimp only
    rw [hc, zbd_s, zin_n (i := k) (n := 301) (by omega) (by decide), zg_t, zn_n (i := k) (by omega), zlet_d, i3, zg_t, zg_t, k3, zlet_d]
  unfold b_X8_settles_52
  simp only [zlet_d]
  rw [if_neg hne, if_pos trivial, if_pos trivial, h4, zbd_s, hq, zbd_s, key, key]
  by_cases e : q = 0
  · rw [if_pos e, if_pos e]
  · rw [if_neg e, if_neg e]
theorem j191_eq (rc : (Int32 × Int32 × Int32 × Int32 × Int32 × (Nat → Int32) × (Nat → Int32) × (Nat → Int32) × (Nat → Int32) × (Nat → Int32) × (Nat → Int32) × (Nat → Int32) × (Nat → Int64) × (Nat → Int32)) → Option (Int32 × Int32 × Int32 × Int32 × (Nat → Int32) × (Nat → Int32) × (Nat → Int32) × (Nat → Int32) × (Nat → Int32) × (Nat → Int32) × (Nat → Int32) × (Nat → Int64) × (Nat → Int32) × (Nat → Int32))) (s : Int32 × Int32 × Int32 × Int32 × Int32 × (Nat → Int32) × (Nat → Int32) × (Nat → Int32) × (Nat → Int32) × (Nat → Int32) × (Nat → Int32) × (Nat → Int32) × (Nat → Int64) × (Nat → Int32)) {k : Nat} (hs : s.1 = nI k) (N mk mf mi mo mw mn : Nat → Int32) (m41 : Int32) (mt : Nat → Int64) (mq : Nat → Int32) (a b c : Int32) {o : (Nat → Int32) × (Nat → Int32) × (Nat → Int32) × (Nat → Int32) × (Nat → Int32) × (Nat → Int32) × (Nat → Int32)} (ho : f_X8_ticks N mf mi mo mw mn mk = some o) : j_X8_settles_191 rc s N mk mf mi mo mw mn m41 mt mq a b c = rc (nI (k + 1), m41, a, b, c, o.1, o.2.1, o.2.2.1, o.2.2.2.1, o.2.2.2.2.1, o.2.2.2.2.2.1, o.2.2.2.2.2.2, mt, mq) := by
  unfold j_X8_settles_191
  rw [ho, zbd_s]
  simp only [zlet_d]
  rw [hs, nI_1]
theorem settle_go {n t : Nat} (ht : t ≤ 9999) (mz : Nat → Int32) : ∀ (r k f f' T : Nat) (sn : Nat → Int64) (sb : Nat → Int32) (w : R2) (N mf mi mo mw mn mk : Nat → Int32) (mt : Nat → Int64) (mq : Nat → Int32), k + r = 301 → r < f → r + 1 < f' → LR n (t + k) T w N → (∀ m, m < k → sn m = mt m ∧ sb m = mq m) → ∃ o o', zloop (b_X0_follow_34 (-4) (-4) (-4) (-4)) f (nI k, sn, sb, w) = some o ∧ zloop (b_X8_settles_52 mz) f' (nI k, -4, -4, -4, -4, N, mf, mi, mo, mw, mn, mk, mt, mq) = some o' ∧ (o.2.2.1 = o'.1 ∧ o.2.2.2.1 = o'.2.1 ∧ o.2.2.2.2.1 = o'.2.2.1 ∧ o.2.2.2.2.2.1 = o'.2.2.2.1) ∧ ∀ j, j < 114 → o'.2.2.2.2.1 j = mz j := by
  intro r
  induction r with
  | zero =>
    intro k f f' T sn sb w N mf mi mo mw mn mk mt mq hk hf hf' hL hm
    obtain ⟨f, rfl⟩ : ∃ g, f = g + 1 := ⟨f - 1, by omega⟩
    obtain ⟨f', rfl⟩ : ∃ g, f' = g + 1 := ⟨f' - 1, by omega⟩
    obtain rfl : k = 301 := by omega
    have hlt : (300 : Int32) < nI 301 := by decide
    obtain ⟨o', p1, ⟨p2, p3, p4, p5⟩, p6⟩ := rest201_eq mz (-4) (-4) (-4) (-4) N mf mi mo mw mn mk mt mq
    refine ⟨(sn, sb, -4, -4, -4, -4, w), o', ?_, ?_, ⟨p2.symm, p3.symm, p4.symm, p5.symm⟩, p6⟩
    · show b_X0_follow_34 (-4) (-4) (-4) (-4) (zloop (b_X0_follow_34 (-4) (-4) (-4) (-4)) f) (nI 301, sn, sb, w) = _
      unfold b_X0_follow_34
      dsimp only
      rw [if_pos hlt]
    · show b_X8_settles_52 mz (zloop (b_X8_settles_52 mz) f') (nI 301, -4, -4, -4, -4, N, mf, mi, mo, mw, mn, mk, mt, mq) = _
      rw [s52_out mz _ _ _ _ _ _ N mf mi mo mw mn mk mt mq (Or.inl hlt)]
      exact p1
  | succ r ih =>
    intro k f f' T sn sb w N mf mi mo mw mn mk mt mq hk hf hf' hL hm
    obtain ⟨f, rfl⟩ : ∃ g, f = g + 1 := ⟨f - 1, by omega⟩
    obtain ⟨f', rfl⟩ : ∃ g, f' = g + 2 := ⟨f' - 2, by omega⟩
    have hn := hL.1
    have hR := hL.2.2.2.2.2.2.2.2.1
    obtain ⟨o4, p1, p2⟩ := lays_eq mf mi mo mw mn hL.1 hL.2.1.2 hL.2.2.2.1.1 hL.2.2.2.2.2.2.1 hL.2.2.2.2.2.2.2.1 hR
    have hqC := quietC_eq w hL.1.2 hL.2.1.1
    have hqM := quietM_eq w N o4.2.2.2.2 hL.1.2 hL.2.1.2 (fun i hi => (p2 i hi).2.2.2.2)
    have hpC : f_X1_packed w = some (lN (pkN w n 0 0)) := packed_eq w hL.1.2 hL.2.1.1 hR n 0 1000 0 (by omega) (by omega) (by decide)
    have hpM : f_X8_codeOf N = some (lN (pkN w n 0 0)) := codeOf_eq w N hL.1.2 hL.2.1.2 hL.2.2.2.2.2.2.1 hR n 0 1000 0 (by omega) (by omega)
    obtain ⟨w2, o48, T2, t1, t2, t3⟩ := tick1_eq hL (by omega) o4.1 o4.2.1 o4.2.2.1 o4.2.2.2.1 o4.2.2.2.2 mk
    have hne : ¬ (300 : Int32) < nI k := nI_nlt (a := 300) (b := k) (by omega) (by decide)
    generalize lN (pkN w n 0 0) = co at *
    show ∃ o o', b_X0_follow_34 (-4) (-4) (-4) (-4) (zloop (b_X0_follow_34 (-4) (-4) (-4) (-4)) f) (nI k, sn, sb, w) = some o ∧ b_X8_settles_52 mz (zloop (b_X8_settles_52 mz) (f' + 1)) (nI k, -4, -4, -4, -4, N, mf, mi, mo, mw, mn, mk, mt, mq) = some o' ∧ _
    rw [s52_in mz _ (show k ≤ 300 by omega) N mf mi mo mw mn mk mt mq p1 hqM hpM]
    generalize hss : (nI k, (-4 : Int32), (-4 : Int32), (-4 : Int32), (-4 : Int32), N, mf, mi, mo, mw, mn, mk, mt, mq) = s
    have hs1 : s.1 = nI k := by rw [← hss]
    by_cases hq : qF w n 0 = 0
    · rw [hq] at hqC
      rw [if_pos hq]
      have e117 : zloop (b_X8_settles_117 (zloop (b_X8_settles_52 mz) (f' + 1)) s N mk o4.1 o4.2.1 o4.2.2.1 o4.2.2.2.1 o4.2.2.2.2 (-4) (vp_updL mt k co) (upd mq k (N 3))) 1000 (0, -4, -4, -4) = _ := in117_eq (zloop (b_X8_settles_52 mz) (f' + 1)) s N mk o4.1 o4.2.1 o4.2.2.1 o4.2.2.2.1 o4.2.2.2.2 (vp_updL mt k co) (upd mq k (N 3)) (show k ≤ 300 by omega) hs1 k 0 1000 (-4) (-4) (by omega) (by omega)
      rw [e117]
      have hsn : ∀ m, m ≤ k → vp_updL sn k co m = vp_updL mt k co m := fun m hmk => by
        by_cases e : m = k
        · subst e; rw [pk_uLs, pk_uLs]
        · rw [pk_uLn e, pk_uLn e]; exact (hm m (by omega)).1
      have h83 : w 8 0 = N 3 := hL.2.2.1.2.2.2.2.1.trans hL.2.2.1.2.2.2.2.2.symm
      have hsb : ∀ m, m ≤ k → upd sb k (w 8 0) m = upd mq k (N 3) m := fun m hmk => by
        by_cases e : m = k
        · subst e; rw [upd_s, upd_s]; exact h83
        · rw [upd_o e, upd_o e]; exact (hm m (by omega)).2
      have hfl := flF_eqv hsn k 0 (by omega)
      have hfc : f_X0_firstLike (vp_updL sn k co) (nI k) = some (nI (flF (vp_updL mt k co) k k 0)) := by
        rw [← hfl]
        exact firstLike_eq (vp_updL sn k co) (by omega) k 0 1000 (by omega) (by omega)
      have hle := flF_le (vp_updL mt k co) k k 0 (by omega)
      generalize flF (vp_updL mt k co) k k 0 = fl at *
      have hC : b_X0_follow_34 (-4) (-4) (-4) (-4) (zloop (b_X0_follow_34 (-4) (-4) (-4) (-4)) f) (nI k, sn, sb, w) = if nI k ≤ nI fl then zloop (b_X0_follow_34 (-4) (-4) (-4) (-4)) f (nI (k + 1), vp_updL sn k co, upd sb k (w 8 0), w2) else some (vp_updL sn k co, upd sb k (w 8 0), -4, nI fl, nI k - nI fl, upd sb k (w 8 0) k - upd sb k (w 8 0) fl, w) := by
        generalize zloop (b_X0_follow_34 (-4) (-4) (-4) (-4)) f = rc
        unfold b_X0_follow_34 j_X0_follow_97
        dsimp only
        rw [if_neg hne, hqC, zbd_s, if_pos rfl, hpC, zbd_s, zin_n (i := k) (n := 301) (by omega) (by decide), zg_t, zn_n (i := k) (by omega), zlet_d, zg_t, zlet_d, hfc, zbd_s, t1, zbd_s, zin_n (i := fl) (n := 301) (by omega) (by decide), zn_n (i := fl) (by omega), nI_1]
        simp only [zg_t, zlet_d]
      rw [hC]
      by_cases hf1 : fl < k
      · rw [if_neg (nI_ge hf1 (by omega)), if_pos hf1, j191_eq _ s hs1 N mk _ _ _ _ _ _ _ _ _ _ _ t2]
        obtain ⟨o', q1, ⟨q2, q3, q4, q5⟩, q6⟩ := rest201_eq mz (-4) (nI fl) (nI k - nI fl) (upd mq k (N 3) k - upd mq k (N 3) fl) o48.1 o48.2.1 o48.2.2.1 o48.2.2.2.1 o48.2.2.2.2.1 o48.2.2.2.2.2.1 o48.2.2.2.2.2.2 (vp_updL mt k co) (upd mq k (N 3))
        refine ⟨_, o', rfl, ?_, ⟨q2.symm, q3.symm, q4.symm, ?_⟩, q6⟩
        · show b_X8_settles_52 mz (zloop (b_X8_settles_52 mz) f') _ = _
          rw [s52_out mz _ _ _ _ _ _ _ _ _ _ _ _ _ _ _ (Or.inr (Or.inr (nI_nm4 (show fl < 2 ^ 31 by omega))))]
          exact q1
        · rw [q5]
          show upd sb k (w 8 0) k - upd sb k (w 8 0) fl = _
          rw [hsb k (Nat.le_refl k), hsb fl hle]
      · obtain rfl : fl = k := by omega
        rw [if_pos (Int32.le_refl _), if_neg hf1, j191_eq _ s hs1 N mk _ _ _ _ _ _ _ _ _ _ _ t2]
        exact ih (fl + 1) f (f' + 1) T2 (vp_updL sn fl co) (upd sb fl (w 8 0)) w2 o48.1 o48.2.1 o48.2.2.1 o48.2.2.2.1 o48.2.2.2.2.1 o48.2.2.2.2.2.1 o48.2.2.2.2.2.2 (vp_updL mt fl co) (upd mq fl (N 3)) (by omega) (by omega) (by omega) t3 (fun m hmk => ⟨hsn m (by omega), hsb m (by omega)⟩)
    · rw [if_neg hq]
      have hC : b_X0_follow_34 (-4) (-4) (-4) (-4) (zloop (b_X0_follow_34 (-4) (-4) (-4) (-4)) f) (nI k, sn, sb, w) = some (sn, sb, nI k, -4, -4, -4, w) := by
        generalize zloop (b_X0_follow_34 (-4) (-4) (-4) (-4)) f = rc
        unfold b_X0_follow_34 j_X0_follow_51
        dsimp only
        rw [if_neg hne, hqC, zbd_s, if_neg hq, zlet_d]
      rw [hC]
      have hM : zloop (b_X8_settles_117 (zloop (b_X8_settles_52 mz) (f' + 1)) s N mk o4.1 o4.2.1 o4.2.2.1 o4.2.2.2.1 o4.2.2.2.2 (nI k) (vp_updL mt k co) (upd mq k (N 3))) 1000 (0, -4, -4, -4) = j_X8_settles_191 (zloop (b_X8_settles_52 mz) (f' + 1)) s N mk o4.1 o4.2.1 o4.2.2.1 o4.2.2.2.1 o4.2.2.2.2 (nI k) (vp_updL mt k co) (upd mq k (N 3)) (-4) (-4) (-4) := by
        show b_X8_settles_117 (zloop (b_X8_settles_52 mz) (f' + 1)) s N mk o4.1 o4.2.1 o4.2.2.1 o4.2.2.2.1 o4.2.2.2.2 (nI k) (vp_updL mt k co) (upd mq k (N 3)) (zloop (b_X8_settles_117 (zloop (b_X8_settles_52 mz) (f' + 1)) s N mk o4.1 o4.2.1 o4.2.2.1 o4.2.2.2.1 o4.2.2.2.2 (nI k) (vp_updL mt k co) (upd mq k (N 3))) 999) (0, -4, -4, -4) = _
        unfold b_X8_settles_117
        dsimp only
        by_cases e2 : s.1 ≤ 0
        · rw [if_pos e2]
        · rw [if_neg e2, if_neg (nI_nm4 (by omega))]
      rw [hM, j191_eq _ s hs1 N mk _ _ _ _ _ _ _ _ _ _ _ t2]
      obtain ⟨o', q1, ⟨q2, q3, q4, q5⟩, q6⟩ := rest201_eq mz (nI k) (-4) (-4) (-4) o48.1 o48.2.1 o48.2.2.1 o48.2.2.2.1 o48.2.2.2.2.1 o48.2.2.2.2.2.1 o48.2.2.2.2.2.2 (vp_updL mt k co) (upd mq k (N 3))
      refine ⟨_, o', rfl, ?_, ⟨q2.symm, q3.symm, q4.symm, q5.symm⟩, q6⟩
      show b_X8_settles_52 mz (zloop (b_X8_settles_52 mz) f') _ = _
      rw [s52_out mz _ _ _ _ _ _ _ _ _ _ _ _ _ _ _ (Or.inr (Or.inl (nI_nm4 (show k < 2 ^ 31 by omega))))]
      exact q1
theorem settles_def (ms mf mi mo mw mn mk : Nat → Int32) (mt : Nat → Int64) (mq mz : Nat → Int32) : f_X8_settles ms mf mi mo mw mn mk mt mq mz = zloop (b_X8_settles_26 ms mf mi mo mw mn mk mt mq (-4) (-4) (-4) (-4)) 1000 (0, mz) := by
  unfold f_X8_settles
  rw [zlet_d, zlet_d, zlet_d, zlet_d]
theorem b26_end (ms mf mi mo mw mn mk : Nat → Int32) (mt : Nat → Int64) (mq : Nat → Int32) (rc : Int32 × (Nat → Int32) → Option (Int32 × Int32 × Int32 × Int32 × (Nat → Int32) × (Nat → Int32) × (Nat → Int32) × (Nat → Int32) × (Nat → Int32) × (Nat → Int32) × (Nat → Int32) × (Nat → Int64) × (Nat → Int32) × (Nat → Int32))) {x : Int32} (mz : Nat → Int32) (h : 114 ≤ x) : b_X8_settles_26 ms mf mi mo mw mn mk mt mq (-4) (-4) (-4) (-4) rc (x, mz) = zloop (b_X8_settles_52 mz) 1000 (nI 0, -4, -4, -4, -4, ms, mf, mi, mo, mw, mn, mk, mt, mq) := by
  unfold b_X8_settles_26
  dsimp only
  rw [if_pos h]
  unfold j_X8_settles_50
  rw [nI_0]
theorem settlesM_eq (ms mf mi mo mw mn mk : Nat → Int32) (mt : Nat → Int64) (mq mz : Nat → Int32) : ∃ mz', f_X8_settles ms mf mi mo mw mn mk mt mq mz = zloop (b_X8_settles_52 mz') 1000 (nI 0, -4, -4, -4, -4, ms, mf, mi, mo, mw, mn, mk, mt, mq) ∧ ∀ j, j < 114 → mz' j = ms j := by
  obtain ⟨⟨x', mz'⟩, g, ⟨d1, d2⟩, he⟩ := zloop_run (b_X8_settles_26 ms mf mi mo mw mn mk mt mq (-4) (-4) (-4) (-4)) 114 (fun i s => s.1 = nI i ∧ ∀ j, j < i → s.2 j = ms j) (by
    rintro i ⟨y, z⟩ hi ⟨g1, g2⟩
    dsimp only at g1 g2
    subst g1
    refine ⟨(nI (i + 1), upd z i (ms i)), ⟨rfl, fun j hj => ?_⟩, fun rc => ?_⟩
    · show upd z i _ j = ms j
      by_cases e : j = i
      · subst e; rw [upd_s]
      · rw [upd_o e]; exact g2 j (by omega)
    · unfold b_X8_settles_26
      dsimp only
      have hne : ¬ (114 : Int32) ≤ nI i := nI_ge (b := 114) hi (by decide)
      rw [if_neg hne, zin_n (i := i) (n := 114) hi (by decide), zg_t, zg_t, zn_n (i := i) (by omega), zlet_d, zlet_d, nI_1]) 114 0 1000 (0, mz) (by omega) (by omega) ⟨nI_0.symm, fun j hj => absurd hj (by omega)⟩
  dsimp only at d1 d2
  have hle : (114 : Int32) ≤ x' := by rw [d1]; decide
  refine ⟨mz', ?_, d2⟩
  rw [settles_def, he, b26_end ms mf mi mo mw mn mk mt mq _ mz' hle]
theorem followC_eq (sn : Nat → Int64) (sb : Nat → Int32) (tv : R2) {v : R2} (hs : SB v) : ∃ w, f_X0_follow sn sb tv v = zloop (b_X0_follow_34 (-4) (-4) (-4) (-4)) 1000 (nI 0, sn, sb, w) ∧ EQL w v := by
  obtain ⟨w, b1, b2⟩ := copy_eq tv v hs
  refine ⟨w, ?_, b2⟩
  unfold f_X0_follow
  rw [b1, zbd_s, zlet_d, zlet_d, zlet_d, zlet_d, nI_0]
theorem settle_both {n t T : Nat} {v : R2} {ms : Nat → Int32} (ht : t ≤ 9999) (hL : LR n t T v ms) (sn : Nat → Int64) (sb : Nat → Int32) (tv : R2) (mf mi mo mw mn mk : Nat → Int32) (mt : Nat → Int64) (mq mz : Nat → Int32) : ∃ o o', f_X0_follow sn sb tv v = some o ∧ f_X8_settles ms mf mi mo mw mn mk mt mq mz = some o' ∧ (o.2.2.1 = o'.1 ∧ o.2.2.2.1 = o'.2.1 ∧ o.2.2.2.2.1 = o'.2.2.1 ∧ o.2.2.2.2.2.1 = o'.2.2.2.1) ∧ LR n t T v o'.2.2.2.2.1 := by
  obtain ⟨w, a1, a2⟩ := followC_eq sn sb tv hL.2.2.2.2.2.2.2.2.2
  obtain ⟨mz', b1, b2⟩ := settlesM_eq ms mf mi mo mw mn mk mt mq mz
  have hw : LR n (t + 0) T w ms := LR_v a2 hL
  obtain ⟨o, o', e1, e2, e3, e7⟩ := settle_go ht mz' 301 0 1000 1000 T sn sb w ms mf mi mo mw mn mk mt mq (by omega) (by omega) (by omega) hw (fun m hm => absurd hm (by omega))
  exact ⟨o, o', a1.trans e1, b1.trans e2, e3, LR_M (fun j hj => (e7 j hj).trans (b2 j hj)) hL⟩
theorem st_settle {tl : Nat → Int32} {tn pn pz : Int32} {pl : Nat → R2} {v u : R2} {m1 m2 : Int32} {mb ms mp : Nat → Int32} (h : RR tl tn pn pz pl v u m1 m2 mb ms mp) (sn : Nat → Int64) (sb : Nat → Int32) (c0 c1 c2 c3 : Int32) (tv : R2) (m5 m6 m7 m8 : Int32) (mf mi mo mw mn mk : Nat → Int32) (mt : Nat → Int64) (mq mz : Nat → Int32) (x : Int32) : ∃ o o', f_X7_settle sn sb c0 c1 c2 c3 tv v x = some o ∧ f_X8_settle m5 m6 m7 m8 ms mf mi mo mw mn mk mt mq mz x = some o' ∧ o.1 = o'.1 ∧ RR tl tn pn pz pl v u m1 m2 mb o'.2.2.2.2.2.2.1 mp := by
  obtain ⟨h1, ⟨n, t, T, ht, hL⟩, h3, h4⟩ := id h
  obtain ⟨o, o', e1, e2, ⟨e3, e4, e5, e6⟩, e7⟩ := settle_both ht hL sn sb tv mf mi mo mw mn mk mt mq mz
  have hN : RR tl tn pn pz pl v u m1 m2 mb o'.2.2.2.2.1 mp := ⟨h1, ⟨n, t, T, ht, e7⟩, h3, h4⟩
  unfold f_X7_settle f_X8_settle f_X8_in
  rw [e1, e2]
  simp only [zlet_d]
  by_cases c1 : x < 0
  · rw [if_pos c1, if_pos c1, zbd_s, if_pos rfl]
    exact ⟨_, _, rfl, rfl, rfl, h⟩
  · rw [if_neg c1, if_neg c1]
    by_cases c2 : x ≤ 3
    · have c3 : ¬ (3 : Int32) < x := Int32.not_lt.mpr c2
      rw [if_pos c2, if_neg c3, zbd_s, zbd_s, if_neg ne10, zbd_s]
      by_cases k0 : x = 0
      · rw [if_pos k0, if_pos k0]; exact ⟨_, _, rfl, rfl, e3, hN⟩
      · rw [if_neg k0, if_neg k0]
        by_cases k1 : x = 1
        · rw [if_pos k1, if_pos k1]; exact ⟨_, _, rfl, rfl, e4, hN⟩
        · rw [if_neg k1, if_neg k1]
          by_cases k2 : x = 2
          · rw [if_pos k2, if_pos k2]; exact ⟨_, _, rfl, rfl, e5, hN⟩
          · rw [if_neg k2, if_neg k2]; exact ⟨_, _, rfl, rfl, e6, hN⟩
    · have c3 : (3 : Int32) < x := Int32.not_le.mp c2
      rw [if_neg c2, if_pos c3, zbd_s, zbd_s, if_pos rfl]
      exact ⟨_, _, rfl, rfl, rfl, h⟩
