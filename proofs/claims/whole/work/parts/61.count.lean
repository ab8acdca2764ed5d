/-! ===== pure: steps unlike each other, count ===== -/
def pcN (M : Nat) : Nat := (M.testBit 0).toNat + (M.testBit 1).toNat + (M.testBit 2).toNat + (M.testBit 3).toNat + (M.testBit 4).toNat + (M.testBit 5).toNat + (M.testBit 6).toNat + (M.testBit 7).toNat
theorem pc_cnt : ∀ M, M < 256 → f_J6_bitCount_0f7a4 (nI M) = some (nI (pcN M)) := by decide +kernel
theorem pc_or : ∀ M, M < 256 → ∀ c, c < 8 → nI M ||| (1 <<< (nI c &&& 31)) = nI (M ||| 2 ^ c) ∧ M ||| 2 ^ c < 256 ∧ pcN (M ||| 2 ^ c) = pcN M + (if M.testBit c then 0 else 1) := by decide +kernel
/-- the kinds of the first k -/
def mkN (cd : Nat → Nat) : Nat → Nat
  | 0 => 0
  | k + 1 => mkN cd k ||| 2 ^ cd k
theorem mkN_bit (cd : Nat → Nat) : ∀ (k c : Nat), (mkN cd k).testBit c = true ↔ ∃ e, e < k ∧ cd e = c := by
  intro k
  induction k with
  | zero => intro c; show Nat.testBit 0 c = true ↔ _; rw [Nat.zero_testBit]; exact ⟨fun h => (nomatch h), fun ⟨e, h, _⟩ => absurd h (by omega)⟩
  | succ k ih =>
    intro c
    show (mkN cd k ||| 2 ^ cd k).testBit c = true ↔ _
    rw [Nat.testBit_or, Bool.or_eq_true, ih c, Nat.testBit_two_pow, decide_eq_true_iff]
    constructor
    · rintro (⟨e, h1, h2⟩ | h)
      · exact ⟨e, by omega, h2⟩
      · exact ⟨k, by omega, h⟩
    · rintro ⟨e, h1, h2⟩
      by_cases hk : e = k
      · subst hk; exact Or.inr h2
      · exact Or.inl ⟨e, by omega, h2⟩
theorem mkN_lt (cd : Nat → Nat) {K : Nat} (h : ∀ e, e < K → cd e < 8) : ∀ k, k ≤ K → mkN cd k < 256 := by
  intro k
  induction k with
  | zero => intro _; show (0 : Nat) < 256; decide
  | succ k ih => intro hk; exact (pc_or _ (ih (by omega)) _ (h k (by omega))).2.1
theorem mkN_eq {c1 c2 : Nat → Nat} {K : Nat} (h1 : ∀ e, e < K → ∃ s, s < K ∧ c2 s = c1 e) (h2 : ∀ s, s < K → ∃ e, e < K ∧ c1 e = c2 s) : mkN c1 K = mkN c2 K := by
  refine Nat.eq_of_testBit_eq fun c => ?_
  rw [Bool.eq_iff_iff, mkN_bit, mkN_bit]
  constructor
  · rintro ⟨e, a, rfl⟩; exact h1 e a
  · rintro ⟨s, a, rfl⟩; exact h2 s a
/-- the kind of a step: its stage and its way -/
def kdN (x y : Int32) : Nat := zn x * 2 + zn y - 1
theorem kd_in {x y : Int32} (hx : ∃ j, j < 4 ∧ x = nI j) (hy : y = 1 ∨ y = 2) : kdN x y < 8 ∧ x * 2 + y - 1 = nI (kdN x y) := by
  obtain ⟨j, hj, rfl⟩ := hx
  have : ∀ j, j < 4 → (kdN (nI j) 1 < 8 ∧ nI j * 2 + 1 - 1 = nI (kdN (nI j) 1)) ∧ kdN (nI j) 2 < 8 ∧ nI j * 2 + 2 - 1 = nI (kdN (nI j) 2) := by decide +kernel
  rcases hy with rfl | rfl
  · exact (this j hj).1
  · exact (this j hj).2
theorem kd_iff {x y x' y' : Int32} (hx : ∃ j, j < 4 ∧ x = nI j) (hy : y = 1 ∨ y = 2) (hx' : ∃ j, j < 4 ∧ x' = nI j) (hy' : y' = 1 ∨ y' = 2) : kdN x y = kdN x' y' ↔ x = x' ∧ y = y' := by
  obtain ⟨j, hj, rfl⟩ := hx
  obtain ⟨k, hk, rfl⟩ := hx'
  have key : ∀ j, j < 4 → ∀ k, k < 4 → (kdN (nI j) 1 = kdN (nI k) 1 ↔ nI j = nI k) ∧ (kdN (nI j) 2 = kdN (nI k) 2 ↔ nI j = nI k) ∧ ¬ kdN (nI j) 1 = kdN (nI k) 2 ∧ ¬ kdN (nI j) 2 = kdN (nI k) 1 := by decide +kernel
  obtain ⟨a1, a2, a3, a4⟩ := key j hj k hk
  have n12 : ¬ (1 : Int32) = 2 := by decide
  have n21 : ¬ (2 : Int32) = 1 := by decide
  rcases hy with rfl | rfl <;> rcases hy' with rfl | rfl
  · rw [a1]; exact ⟨fun h => ⟨h, rfl⟩, fun h => h.1⟩
  · exact ⟨fun h => absurd h a3, fun h => absurd h.2 n12⟩
  · exact ⟨fun h => absurd h a4, fun h => absurd h.2 n21⟩
  · rw [a2]; exact ⟨fun h => ⟨h, rfl⟩, fun h => h.1⟩
theorem unC_eq (lg lw : Nat → Int32) {T : Nat} (hT : T < 2 ^ 31) (hx : ∀ s, s < min T 20 → (∃ j, j < 4 ∧ lg s = nI j) ∧ (lw s = 1 ∨ lw s = 2)) : ∀ (k i f : Nat), i + k = min T 20 → k < f → zloop (b_X5_unlikeTold_4 lg lw (nI T)) f (nI (mkN (fun s => kdN (lg s) (lw s)) i), nI i) = some (nI (pcN (mkN (fun s => kdN (lg s) (lw s)) (min T 20)))) := by
  have hlt := mkN_lt (fun s => kdN (lg s) (lw s)) (K := min T 20) (fun e he => (kd_in (hx e he).1 (hx e he).2).1)
  intro k
  induction k with
  | zero =>
    intro i f hi hf
    obtain ⟨f, rfl⟩ : ∃ g, f = g + 1 := ⟨f - 1, by omega⟩
    obtain rfl : i = min T 20 := by omega
    show b_X5_unlikeTold_4 lg lw (nI T) (zloop (b_X5_unlikeTold_4 lg lw (nI T)) f) _ = _
    unfold b_X5_unlikeTold_4 f_X5_told j_X5_unlikeTold_40
    dsimp only
    rw [zmin20 hT, zbd_s, if_pos (Int32.le_refl _), pc_cnt _ (hlt _ (Nat.le_refl _)), zbd_s]
  | succ k ih =>
    intro i f hi hf
    obtain ⟨f, rfl⟩ : ∃ g, f = g + 1 := ⟨f - 1, by omega⟩
    have h1 : b_X5_unlikeTold_4 lg lw (nI T) (zloop (b_X5_unlikeTold_4 lg lw (nI T)) f) (nI (mkN (fun s => kdN (lg s) (lw s)) i), nI i) = zloop (b_X5_unlikeTold_4 lg lw (nI T)) f (nI (mkN (fun s => kdN (lg s) (lw s)) (i + 1)), nI (i + 1)) := by
      generalize zloop (b_X5_unlikeTold_4 lg lw (nI T)) f = rc
      unfold b_X5_unlikeTold_4 f_X5_told
      dsimp only
      have hk := kd_in (hx i (by omega)).1 (hx i (by omega)).2
      rw [zmin20 hT, zbd_s, if_neg (nI_ge (by omega) (by omega)), zin_n (i := i) (n := 20) (by omega) (by decide), zg_t, zg_t, zn_n (i := i) (by omega), zlet_d, zlet_d, nI_1, hk.2, (pc_or _ (hlt i (by omega)) _ hk.1).1]
      rfl
    exact h1.trans (ih (i + 1) f (by omega) (by omega))
theorem un19_eq (ms : Nat → Int32) (rc4 : Int32 × Int32 → Option Int32) (a : Int32) {K k : Nat} (hK : K ≤ 20) (hk : k < K) (hx : ∀ e, e < K → (∃ j, j < 4 ∧ ms (54 + 3 * e + 1) = nI j) ∧ (ms (54 + 3 * e + 2) = 1 ∨ ms (54 + 3 * e + 2) = 2)) : ∀ (r m f : Nat) (b : Int32), (b = 0 ∨ b = 1) → m + r = k → r < f → (b = 0 ↔ ¬ ∃ e, e < m ∧ kdN (ms (54 + 3 * e + 1)) (ms (54 + 3 * e + 2)) = kdN (ms (54 + 3 * k + 1)) (ms (54 + 3 * k + 2))) → ∃ b', (b' = 0 ↔ ¬ ∃ e, e < k ∧ kdN (ms (54 + 3 * e + 1)) (ms (54 + 3 * e + 2)) = kdN (ms (54 + 3 * k + 1)) (ms (54 + 3 * k + 2))) ∧ zloop (b_X8_unlike_19 ms rc4 (a, nI k)) f (b, nI m) = j_X8_unlike_101 rc4 (a, nI k) b' := by
  have e3 : ∀ e c, 54 + 3 * nI e + nI c = nI (54 + 3 * e + c) := fun e c => by
    show nI 54 + nI 3 * nI e + nI c = _
    rw [pk_mul, nI_add, nI_add]
  intro r
  induction r with
  | zero =>
    intro m f b hb hm hf hi
    obtain ⟨f, rfl⟩ : ∃ g, f = g + 1 := ⟨f - 1, by omega⟩
    obtain rfl : m = k := by omega
    refine ⟨b, hi, ?_⟩
    show b_X8_unlike_19 ms rc4 (a, nI m) (zloop (b_X8_unlike_19 ms rc4 (a, nI m)) f) (b, nI m) = _
    unfold b_X8_unlike_19
    dsimp only
    rw [if_pos (Int32.le_refl _)]
  | succ r ih =>
    intro m f b hb hm hf hi
    obtain ⟨f, rfl⟩ : ∃ g, f = g + 1 := ⟨f - 1, by omega⟩
    have hiff := kd_iff (hx m (by omega)).1 (hx m (by omega)).2 (hx k (by omega)).1 (hx k (by omega)).2
    have h1 : b_X8_unlike_19 ms rc4 (a, nI k) (zloop (b_X8_unlike_19 ms rc4 (a, nI k)) f) (b, nI m) = zloop (b_X8_unlike_19 ms rc4 (a, nI k)) f ((if b = 0 then (if kdN (ms (54 + 3 * m + 1)) (ms (54 + 3 * m + 2)) = kdN (ms (54 + 3 * k + 1)) (ms (54 + 3 * k + 2)) then 1 else 0) else 1), nI (m + 1)) := by
      generalize zloop (b_X8_unlike_19 ms rc4 (a, nI k)) f = rc
      unfold b_X8_unlike_19 j_X8_unlike_89 j_X8_unlike_93 j_X8_unlike_94
      dsimp only
      have q1 : 54 + 3 * nI m + 1 = nI (54 + 3 * m + 1) := e3 m 1
      have q2 : 54 + 3 * nI m + 2 = nI (54 + 3 * m + 2) := e3 m 2
      have q3 : 54 + 3 * nI k + 1 = nI (54 + 3 * k + 1) := e3 k 1
      have q4 : 54 + 3 * nI k + 2 = nI (54 + 3 * k + 2) := e3 k 2
      rw [if_neg (nI_ge (by omega) (by omega)), q1, q2, q3, q4, zin_n (i := 54 + 3 * m + 1) (n := 114) (by omega) (by decide), zin_n (i := 54 + 3 * m + 2) (n := 114) (by omega) (by decide), zin_n (i := 54 + 3 * k + 1) (n := 114) (by omega) (by decide), zin_n (i := 54 + 3 * k + 2) (n := 114) (by omega) (by decide), zn_n (i := 54 + 3 * m + 1) (by omega), zn_n (i := 54 + 3 * m + 2) (by omega), zn_n (i := 54 + 3 * k + 1) (by omega), zn_n (i := 54 + 3 * k + 2) (by omega), zg_t, zg_t, zg_t, zg_t, nI_1]
      simp only [zlet_d]
      by_cases c0 : b = 0
      · rw [if_pos c0, if_pos c0]
        by_cases c1 : ms (54 + 3 * m + 1) = ms (54 + 3 * k + 1)
        · rw [if_pos c1]
          by_cases c2 : ms (54 + 3 * m + 2) = ms (54 + 3 * k + 2)
          · rw [if_pos c2, if_pos (hiff.mpr ⟨c1, c2⟩)]
          · rw [if_neg c2, if_neg (fun z => c2 (hiff.mp z).2)]
        · rw [if_neg c1, if_neg (fun z => c1 (hiff.mp z).1)]
      · rw [if_neg c0, if_neg c0]
    obtain ⟨b', p1, p2⟩ := ih (m + 1) f (if b = 0 then (if kdN (ms (54 + 3 * m + 1)) (ms (54 + 3 * m + 2)) = kdN (ms (54 + 3 * k + 1)) (ms (54 + 3 * k + 2)) then 1 else 0) else 1) (by split; split; exact Or.inr rfl; exact Or.inl rfl; exact Or.inr rfl) (by omega) (by omega) (by
      by_cases c0 : b = 0
      · rw [if_pos c0]
        have hi' := hi.mp c0
        by_cases c1 : kdN (ms (54 + 3 * m + 1)) (ms (54 + 3 * m + 2)) = kdN (ms (54 + 3 * k + 1)) (ms (54 + 3 * k + 2))
        · rw [if_pos c1]
          exact ⟨fun h => absurd h ne10, fun h => absurd ⟨m, by omega, c1⟩ h⟩
        · rw [if_neg c1]
          refine ⟨fun _ => ?_, fun _ => rfl⟩
          rintro ⟨e, h1, h2⟩
          by_cases hem : e = m
          · subst hem; exact c1 h2
          · exact hi' ⟨e, by omega, h2⟩
      · rw [if_neg c0]
        refine ⟨fun h => absurd h ne10, fun h => absurd (hi.mpr ?_) c0⟩
        rintro ⟨e, h1, h2⟩
        exact h ⟨e, by omega, h2⟩)
    exact ⟨b', p1, h1.trans p2⟩
theorem unM_eq (ms : Nat → Int32) {K : Nat} (hK : K ≤ 20) (h5 : ms 5 = nI K) (hx : ∀ e, e < K → (∃ j, j < 4 ∧ ms (54 + 3 * e + 1) = nI j) ∧ (ms (54 + 3 * e + 2) = 1 ∨ ms (54 + 3 * e + 2) = 2)) : ∀ (r k f : Nat), k + r = K → r < f → zloop (b_X8_unlike_4 ms) f (nI (pcN (mkN (fun e => kdN (ms (54 + 3 * e + 1)) (ms (54 + 3 * e + 2))) k)), nI k) = some (nI (pcN (mkN (fun e => kdN (ms (54 + 3 * e + 1)) (ms (54 + 3 * e + 2))) K))) := by
  have k5 : zn 5 = 5 := by decide
  have i5 : zin 5 114 = true := by decide
  have hlt := mkN_lt (fun e => kdN (ms (54 + 3 * e + 1)) (ms (54 + 3 * e + 2))) (K := K) (fun e he => (kd_in (hx e he).1 (hx e he).2).1)
  intro r
  induction r with
  | zero =>
    intro k f hi hf
    obtain ⟨f, rfl⟩ : ∃ g, f = g + 1 := ⟨f - 1, by omega⟩
    obtain rfl : k = K := by omega
    show b_X8_unlike_4 ms (zloop (b_X8_unlike_4 ms) f) _ = _
    unfold b_X8_unlike_4
    dsimp only
    rw [i5, zg_t, k5, h5, if_pos (Int32.le_refl _)]
  | succ r ih =>
    intro k f hi hf
    obtain ⟨f, rfl⟩ : ∃ g, f = g + 1 := ⟨f - 1, by omega⟩
    have hk := kd_in (hx k (by omega)).1 (hx k (by omega)).2
    have h1 : b_X8_unlike_4 ms (zloop (b_X8_unlike_4 ms) f) (nI (pcN (mkN (fun e => kdN (ms (54 + 3 * e + 1)) (ms (54 + 3 * e + 2))) k)), nI k) = zloop (b_X8_unlike_4 ms) f (nI (pcN (mkN (fun e => kdN (ms (54 + 3 * e + 1)) (ms (54 + 3 * e + 2))) (k + 1))), nI (k + 1)) := by
      generalize zloop (b_X8_unlike_4 ms) f = rc
      unfold b_X8_unlike_4
      dsimp only
      rw [i5, zg_t, k5, h5, if_neg (nI_ge (by omega) (by omega))]
      obtain ⟨b', p1, p2⟩ := un19_eq ms rc (nI (pcN (mkN (fun e => kdN (ms (54 + 3 * e + 1)) (ms (54 + 3 * e + 2))) k))) hK (show k < K by omega) hx k 0 1000 0 (Or.inl rfl) (by omega) (by omega) ⟨fun _ h => by obtain ⟨e, h, _⟩ := h; omega, fun _ => rfl⟩
      have p2' : zloop (b_X8_unlike_19 ms rc (nI (pcN (mkN (fun e => kdN (ms (54 + 3 * e + 1)) (ms (54 + 3 * e + 2))) k)), nI k)) 1000 (0, 0) = _ := p2
      rw [p2']
      unfold j_X8_unlike_101 j_X8_unlike_111
      dsimp only
      have hq := (pc_or _ (hlt k (by omega)) _ hk.1).2.2
      have hb := mkN_bit (fun e => kdN (ms (54 + 3 * e + 1)) (ms (54 + 3 * e + 2))) k (kdN (ms (54 + 3 * k + 1)) (ms (54 + 3 * k + 2)))
      have hm : mkN (fun e => kdN (ms (54 + 3 * e + 1)) (ms (54 + 3 * e + 2))) (k + 1) = mkN (fun e => kdN (ms (54 + 3 * e + 1)) (ms (54 + 3 * e + 2))) k ||| 2 ^ kdN (ms (54 + 3 * k + 1)) (ms (54 + 3 * k + 2)) := rfl
      rw [hm, hq]
      simp only [zlet_d]
      rw [nI_1 k]
      by_cases c : b' = 0
      · rw [if_pos c, if_neg (fun z => p1.mp c (hb.mp z)), nI_1]
      · have hz : ∃ e, e < k ∧ kdN (ms (54 + 3 * e + 1)) (ms (54 + 3 * e + 2)) = kdN (ms (54 + 3 * k + 1)) (ms (54 + 3 * k + 2)) := Classical.byContradiction fun z => c (p1.mpr z)
        rw [if_neg c, if_pos (hb.mpr hz), Int32.add_zero]
        rfl
    exact h1.trans (ih (k + 1) f (by omega) (by omega))
theorem unlike_eq {n t T : Nat} {v : R2} {ms : Nat → Int32} (hL : LR n t T v ms) : ∃ a, f_X5_unlikeTold (v 6) (v 7) (v 8 0) = some a ∧ f_X8_unlike ms = some a := by
  have hT : T ≤ 41600 := by have := hL.2.2.1; omega
  obtain ⟨l1, l2⟩ := hL.2.2.2.2.2.1
  have hq : ∀ s, s < min T 20 → ∃ q, q < T ∧ T ≤ q + 20 ∧ q % 20 = s := fun s hs => by
    by_cases h : T ≤ 20
    · exact ⟨s, by omega, by omega, by omega⟩
    · by_cases h2 : s < T % 20
      · exact ⟨T / 20 * 20 + s, by omega, by omega, by omega⟩
      · exact ⟨T / 20 * 20 + s - 20, by omega, by omega, by omega⟩
  have hC : ∀ s, s < min T 20 → (∃ j, j < 4 ∧ v 6 s = nI j) ∧ (v 7 s = 1 ∨ v 7 s = 2) := fun s hs => by
    obtain ⟨q, q1, q2, rfl⟩ := hq s hs
    exact (l2 q q1 q2).2.2.2
  have hM : ∀ e, e < min T 20 → (∃ j, j < 4 ∧ ms (54 + 3 * e + 1) = nI j) ∧ (ms (54 + 3 * e + 2) = 1 ∨ ms (54 + 3 * e + 2) = 2) := fun e he => by
    obtain ⟨-, a2, a3, a4, a5⟩ := l2 (e + T - min T 20) (by omega) (by omega)
    rw [a2] at a4
    rw [a3] at a5
    rw [show e + T - min T 20 + min T 20 - T = e by omega] at a4 a5
    exact ⟨a4, a5⟩
  have e1 := unC_eq (v 6) (v 7) (T := T) (by omega) hC (min T 20) 0 1000 (by omega) (by omega)
  have e2 := unM_eq ms (K := min T 20) (by omega) l1 hM (min T 20) 0 1000 (by omega) (by omega)
  have e3 : mkN (fun s => kdN (v 6 s) (v 7 s)) (min T 20) = mkN (fun e => kdN (ms (54 + 3 * e + 1)) (ms (54 + 3 * e + 2))) (min T 20) := by
    refine mkN_eq (fun s hs => ?_) (fun e he => ?_)
    · obtain ⟨q, q1, q2, rfl⟩ := hq s hs
      obtain ⟨-, a2, a3, -, -⟩ := l2 q q1 q2
      refine ⟨q + min T 20 - T, by omega, ?_⟩
      show kdN _ _ = kdN _ _
      rw [a2, a3]
    · obtain ⟨-, a2, a3, -, -⟩ := l2 (e + T - min T 20) (by omega) (by omega)
      rw [show e + T - min T 20 + min T 20 - T = e by omega] at a2 a3
      refine ⟨(e + T - min T 20) % 20, by omega, ?_⟩
      show kdN _ _ = kdN _ _
      rw [a2, a3]
  have m0 : ∀ cd : Nat → Nat, nI (mkN cd 0) = 0 := fun _ => rfl
  have m1 : ∀ cd : Nat → Nat, nI (pcN (mkN cd 0)) = 0 := fun _ => by show nI (pcN 0) = 0; decide
  rw [m0, nI_0, e3] at e1
  rw [m1, nI_0] at e2
  refine ⟨_, ?_, e2⟩
  unfold f_X5_unlikeTold
  rw [hL.2.2.1.2.2.2.2.1]
  exact e1
theorem st_count {tl : Nat → Int32} {tn pn pz : Int32} {pl : Nat → R2} {v u : R2} {m1 m2 : Int32} {mb ms mp : Nat → Int32} (h : RR tl tn pn pz pl v u m1 m2 mb ms mp) (mf mi mo mw mn : Nat → Int32) (x : Int32) : ∃ o o', f_X7_count tn pz v x = some o ∧ f_X8_count m1 m2 ms mf mi mo mw mn x = some o' ∧ o = o'.1 := by
  obtain ⟨⟨K, kk1, kk2, kk3, -⟩, ⟨n, t, T, ht, hL⟩, ⟨P, q, hP⟩, -⟩ := h
  obtain ⟨o4, p1, p2⟩ := lays_eq mf mi mo mw mn hL.1 hL.2.1.2 hL.2.2.2.1.1 hL.2.2.2.2.2.2.1 hL.2.2.2.2.2.2.2.1 hL.2.2.2.2.2.2.2.2.1
  unfold f_X7_count f_X8_count
  simp only [zlet_d]
  rw [p1, zbd_s]
  by_cases c0 : x = 0
  · rw [if_pos c0, if_pos c0, c0, show zin 0 114 = true from by decide, zg_t, show zn 0 = 0 from by decide]
    exact ⟨_, _, rfl, rfl, hL.2.1.1.trans hL.2.1.2.symm⟩
  by_cases c1 : x = 1
  · rw [if_neg c0, if_pos c1, if_neg c0, if_pos c1, c1, show zin 1 114 = true from by decide, zg_t, show zn 1 = 1 from by decide]
    exact ⟨_, _, rfl, rfl, hL.2.2.2.1.1⟩
  by_cases c2 : x = 2
  · rw [if_neg c0, if_neg c1, if_pos c2, if_neg c0, if_neg c1, if_pos c2, c2, show zin 2 114 = true from by decide, zg_t, show zn 2 = 2 from by decide]
    exact ⟨_, _, rfl, rfl, hL.2.2.1.2.2.1.trans hL.2.2.1.2.2.2.1.symm⟩
  by_cases c3 : x = 3
  · rw [if_neg c0, if_neg c1, if_neg c2, if_pos c3, if_neg c0, if_neg c1, if_neg c2, if_pos c3, c3, show zin 3 114 = true from by decide, zg_t, show zn 3 = 3 from by decide]
    exact ⟨_, _, rfl, rfl, hL.2.2.1.2.2.2.2.1.trans hL.2.2.1.2.2.2.2.2.symm⟩
  by_cases c4 : x = 4
  · rw [if_neg c0, if_neg c1, if_neg c2, if_neg c3, if_pos c4, if_neg c0, if_neg c1, if_neg c2, if_neg c3, if_pos c4, c4, show zin 4 114 = true from by decide, zg_t, show zn 4 = 4 from by decide]
    exact ⟨_, _, rfl, rfl, hL.2.2.2.2.1⟩
  by_cases c5 : x = 5
  · rw [if_neg c0, if_neg c1, if_neg c2, if_neg c3, if_neg c4, if_pos c5, if_neg c0, if_neg c1, if_neg c2, if_neg c3, if_neg c4, if_pos c5, goodC_eq v hL.1.2 hL.2.1.1, goodM_eq v ms o4.2.2.1 hL.1.2 hL.2.1.2 hL.2.2.2.2.2.2.1 (fun i hi => (p2 i hi).2.2.1), zbd_s, zbd_s]
    exact ⟨_, _, rfl, rfl, rfl⟩
  by_cases c6 : x = 6
  · rw [if_neg c0, if_neg c1, if_neg c2, if_neg c3, if_neg c4, if_neg c5, if_pos c6, if_neg c0, if_neg c1, if_neg c2, if_neg c3, if_neg c4, if_neg c5, if_pos c6, stuckC_eq v hL.1.2 hL.2.1.1 hL.2.2.2.2.2.2.2.2.2, stuckM_eq v ms hL.1.2 hL.2.1.2 hL.2.2.2.2.2.2.1, zbd_s, zbd_s]
    exact ⟨_, _, rfl, rfl, rfl⟩
  by_cases c7 : x = 7
  · rw [if_neg c0, if_neg c1, if_neg c2, if_neg c3, if_neg c4, if_neg c5, if_neg c6, if_pos c7, if_neg c0, if_neg c1, if_neg c2, if_neg c3, if_neg c4, if_neg c5, if_neg c6, if_pos c7, offC_eq v hL.1.2 hL.2.1.1, offM_eq v ms o4.2.2.1 hL.1.2 hL.2.1.2 hL.2.2.2.2.2.2.1 (fun i hi => (p2 i hi).2.2.1), zbd_s, zbd_s]
    exact ⟨_, _, rfl, rfl, rfl⟩
  by_cases c8 : x = 8
  · rw [if_neg c0, if_neg c1, if_neg c2, if_neg c3, if_neg c4, if_neg c5, if_neg c6, if_neg c7, if_pos c8, if_neg c0, if_neg c1, if_neg c2, if_neg c3, if_neg c4, if_neg c5, if_neg c6, if_neg c7, if_pos c8]
    exact ⟨_, _, rfl, rfl, hP.2.2.2.1.trans hP.2.2.2.2.1.symm⟩
  by_cases c9 : x = 9
  · rw [if_neg c0, if_neg c1, if_neg c2, if_neg c3, if_neg c4, if_neg c5, if_neg c6, if_neg c7, if_neg c8, if_pos c9, if_neg c0, if_neg c1, if_neg c2, if_neg c3, if_neg c4, if_neg c5, if_neg c6, if_neg c7, if_neg c8, if_pos c9]
    exact ⟨_, _, rfl, rfl, kk2.trans kk3.symm⟩
  by_cases c10 : x = 10
  · rw [if_neg c0, if_neg c1, if_neg c2, if_neg c3, if_neg c4, if_neg c5, if_neg c6, if_neg c7, if_neg c8, if_neg c9, if_pos c10, if_neg c0, if_neg c1, if_neg c2, if_neg c3, if_neg c4, if_neg c5, if_neg c6, if_neg c7, if_neg c8, if_neg c9, if_pos c10, quietC_eq v hL.1.2 hL.2.1.1, quietM_eq v ms o4.2.2.2.2 hL.1.2 hL.2.1.2 (fun i hi => (p2 i hi).2.2.2.2), zbd_s, zbd_s]
    by_cases c : qF v n 0 = 0
    · rw [if_pos c, if_pos c]; exact ⟨_, _, rfl, rfl, rfl⟩
    · rw [if_neg c, if_neg c]; exact ⟨_, _, rfl, rfl, rfl⟩
  by_cases c11 : x = 11
  · obtain ⟨a, a1, a2⟩ := unlike_eq hL
    rw [if_neg c0, if_neg c1, if_neg c2, if_neg c3, if_neg c4, if_neg c5, if_neg c6, if_neg c7, if_neg c8, if_neg c9, if_neg c10, if_pos c11, if_neg c0, if_neg c1, if_neg c2, if_neg c3, if_neg c4, if_neg c5, if_neg c6, if_neg c7, if_neg c8, if_neg c9, if_neg c10, if_pos c11, a1, a2, zbd_s, zbd_s]
    exact ⟨_, _, rfl, rfl, rfl⟩
  rw [if_neg c0, if_neg c1, if_neg c2, if_neg c3, if_neg c4, if_neg c5, if_neg c6, if_neg c7, if_neg c8, if_neg c9, if_neg c10, if_neg c11, if_neg c0, if_neg c1, if_neg c2, if_neg c3, if_neg c4, if_neg c5, if_neg c6, if_neg c7, if_neg c8, if_neg c9, if_neg c10, if_neg c11]
  exact ⟨_, _, rfl, rfl, rfl⟩
