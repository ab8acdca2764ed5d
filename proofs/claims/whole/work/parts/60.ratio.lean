/-! ===== pure: the ratio in lowest terms ===== -/
theorem trn_in {a b : Int32} (ha : inI a (-5) 5) (hb : inI b 1 50) : ∃ c : Nat, 750 ≤ c ∧ c ≤ 1250 ∧ 1000 + a * b = nI c := by
  have hm : -250 ≤ a.toInt * b.toInt ∧ a.toInt * b.toInt ≤ 250 := by
    obtain ⟨a1, a2⟩ := ha
    obtain ⟨b1, b2⟩ := hb
    have : a.toInt = -5 ∨ a.toInt = -4 ∨ a.toInt = -3 ∨ a.toInt = -2 ∨ a.toInt = -1 ∨ a.toInt = 0 ∨ a.toInt = 1 ∨ a.toInt = 2 ∨ a.toInt = 3 ∨ a.toInt = 4 ∨ a.toInt = 5 := by omega
    rcases this with h | h | h | h | h | h | h | h | h | h | h <;> rw [h] <;> omega
  have e1 := tI_mul (x := a) (y := b) (by omega) (by omega)
  have hk : (1000 : Int32).toInt = 1000 := by decide
  have e2 := tI_add (x := 1000) (y := a * b) (by rw [hk, e1]; omega) (by rw [hk, e1]; omega)
  rw [hk, e1] at e2
  refine ⟨(1000 + a.toInt * b.toInt).toNat, by omega, by omega, Int32.toInt_inj.mp ?_⟩
  rw [e2, nI_toInt (by omega)]
  omega
def cN (v : R2) (k : Nat) : Nat := zn (1000 + v k 7 * v k 0)
theorem cN_eq {v : R2} {k : Nat} (h : RGr (v k)) : 750 ≤ cN v k ∧ cN v k ≤ 1250 ∧ 1000 + v k 7 * v k 0 = nI (cN v k) := by
  obtain ⟨c, c1, c2, c3⟩ := trn_in h.2.2.2.2.2.2.2.1 h.1
  have : cN v k = c := by unfold cN; rw [c3]; exact zn_n (by omega)
  rw [this]
  exact ⟨c1, c2, c3⟩
def PA (v : R2) : Nat → Nat → Nat → Nat
  | 0, _, A => A
  | k + 1, i, A => PA v k (i + 1) (A * cN v i)
theorem PA_le {v : R2} {n : Nat} (hR : RG n v) : ∀ (k i A X : Nat), i + k ≤ n → A ≤ X → PA v k i A ≤ X * 1250 ^ k := by
  intro k
  induction k with
  | zero => intro i A X _ h; show A ≤ X * 1; omega
  | succ k ih =>
    intro i A X hi h
    have h1 := ih (i + 1) (A * cN v i) (X * 1250) (by omega) (Nat.mul_le_mul h (cN_eq (hR i (by omega))).2.1)
    have h2 : X * 1250 * 1250 ^ k = X * 1250 ^ (k + 1) := by rw [Nat.pow_succ, Nat.mul_assoc, Nat.mul_comm 1250]
    rw [h2] at h1
    exact h1
theorem PA_pos {v : R2} {n : Nat} (hR : RG n v) : ∀ (k i A : Nat), i + k ≤ n → 0 < A → 0 < PA v k i A := by
  intro k
  induction k with
  | zero => intro i A _ h; exact h
  | succ k ih =>
    intro i A hi h
    exact ih (i + 1) _ (by omega) (Nat.mul_pos h (by have := (cN_eq (hR i (by omega))).1; omega))
theorem p1000 (B k : Nat) : B * 1000 * 1000 ^ k = B * 1000 ^ (k + 1) := by rw [Nat.pow_succ, Nat.mul_assoc, Nat.mul_comm 1000]
theorem ratC_eq (v : R2) (y : Int32) {n a : Nat} (hn : n ≤ 4) (ha : a < n) (hR : RG n v) : ∀ (k i f A B : Nat), i + k = a + 1 → k < f → zloop (b_X7_ratio_32 v (nI a) y) f (lN A, lN B, nI i) = j_X7_ratio_69 y (lN (PA v k i A)) (lN (B * 1000 ^ k)) := by
  intro k
  induction k with
  | zero =>
    intro i f A B hi hf
    obtain ⟨f, rfl⟩ : ∃ g, f = g + 1 := ⟨f - 1, by omega⟩
    show b_X7_ratio_32 v (nI a) y (zloop (b_X7_ratio_32 v (nI a) y) f) (lN A, lN B, nI i) = _
    unfold b_X7_ratio_32
    dsimp only
    rw [if_pos (nI_lt (by omega) (by omega)), Nat.pow_zero, Nat.mul_one]
    rfl
  | succ k ih =>
    intro i f A B hi hf
    obtain ⟨f, rfl⟩ : ∃ g, f = g + 1 := ⟨f - 1, by omega⟩
    have hc := cN_eq (hR i (by omega))
    have h1 : b_X7_ratio_32 v (nI a) y (zloop (b_X7_ratio_32 v (nI a) y) f) (lN A, lN B, nI i) = zloop (b_X7_ratio_32 v (nI a) y) f (lN (A * cN v i), lN (B * 1000), nI (i + 1)) := by
      generalize zloop (b_X7_ratio_32 v (nI a) y) f = rc
      unfold b_X7_ratio_32 f_X4_turned
      dsimp only
      rw [if_neg (nI_nlt (by omega) (by omega)), z4 (show i < 4 by omega), zg_t, n4 (show i < 4 by omega), zbd_s, zlet_d, zlet_d, zlet_d, nI_1, hc.2.2, nI_l (by omega), lN_mul, show (1000 : Int64) = lN 1000 from rfl, lN_mul]
    rw [← p1000]
    exact h1.trans (ih (i + 1) f (A * cN v i) (B * 1000) (by omega) (by omega))
theorem ratM_eq (v : R2) (ms : Nat → Int32) (y : Int32) {n a : Nat} (hn : n ≤ 4) (ha : a < n) (hR : RG n v) (hF : FR n v ms) : ∀ (k i f A B : Nat), i + k = a + 1 → k < f → zloop (b_X8_ratio_34 ms (nI a) y 0) f (lN A, lN B, nI i) = j_X8_ratio_78 y 0 (lN (PA v k i A)) (lN (B * 1000 ^ k)) := by
  intro k
  induction k with
  | zero =>
    intro i f A B hi hf
    obtain ⟨f, rfl⟩ : ∃ g, f = g + 1 := ⟨f - 1, by omega⟩
    show b_X8_ratio_34 ms (nI a) y 0 (zloop (b_X8_ratio_34 ms (nI a) y 0) f) (lN A, lN B, nI i) = _
    unfold b_X8_ratio_34
    dsimp only
    rw [if_pos (nI_lt (by omega) (by omega)), Nat.pow_zero, Nat.mul_one]
    rfl
  | succ k ih =>
    intro i f A B hi hf
    obtain ⟨f, rfl⟩ : ∃ g, f = g + 1 := ⟨f - 1, by omega⟩
    have hc := cN_eq (hR i (by omega))
    have h1 : b_X8_ratio_34 ms (nI a) y 0 (zloop (b_X8_ratio_34 ms (nI a) y 0) f) (lN A, lN B, nI i) = zloop (b_X8_ratio_34 ms (nI a) y 0) f (lN (A * cN v i), lN (B * 1000), nI (i + 1)) := by
      generalize zloop (b_X8_ratio_34 ms (nI a) y 0) f = rc
      unfold b_X8_ratio_34
      dsimp only
      have f7 : ms (6 + 12 * i + 7) = v i 7 := (hF i (by omega) 7 (by decide)).symm
      have f0 : ms (6 + 12 * i + 0) = v i 0 := (hF i (by omega) 0 (by decide)).symm
      rw [if_neg (nI_nlt (by omega) (by omega)), of_7 ms (show i < 4 by omega), of_0 ms (show i < 4 by omega), zbd_s, zbd_s, zlet_d, zlet_d, zlet_d, nI_1, f7, f0, hc.2.2, nI_l (by omega), lN_mul, show (1000 : Int64) = lN 1000 from rfl, lN_mul]
    rw [← p1000]
    exact h1.trans (ih (i + 1) f (A * cN v i) (B * 1000) (by omega) (by omega))
/-! Euclid -/
theorem lN0 : lN 0 = (0 : Int64) := rfl
theorem gcC_end {x f t : Nat} (ht : t < 100) : zloop b_X7_greatestCommon_3 (f + 1) (lN x, lN 0, nI t) = some (lN x) := by
  show b_X7_greatestCommon_3 (zloop b_X7_greatestCommon_3 f) (lN x, lN 0, nI t) = _
  unfold b_X7_greatestCommon_3
  dsimp only
  have h : ¬ (100 : Int32) ≤ nI t := nI_ge (b := 100) ht (by decide)
  rw [if_neg h, if_pos ((lg_cmp_eq _ _).mpr lN0)]
theorem gcC_step {x y f t : Nat} (ht : t < 100) (hx : x < 2 ^ 63) (hy : 0 < y) (hy2 : y < 2 ^ 63) : zloop b_X7_greatestCommon_3 (f + 1) (lN x, lN y, nI t) = zloop b_X7_greatestCommon_3 f (lN y, lN (x % y), nI (t + 1)) := by
  show b_X7_greatestCommon_3 (zloop b_X7_greatestCommon_3 f) (lN x, lN y, nI t) = _
  generalize zloop b_X7_greatestCommon_3 f = rc
  unfold b_X7_greatestCommon_3
  dsimp only
  have h : ¬ (100 : Int32) ≤ nI t := nI_ge (b := 100) ht (by decide)
  have h2 : ¬ lN y = 0 := fun e => by
    have := (pk_lEQ (a := y) (b := 0) hy2 (by decide)).mp e
    omega
  rw [if_neg h, if_neg (fun e => h2 ((lg_cmp_eq _ _).mp e)), decide_eq_true h2, zg_t, zlet_d, zlet_d, nI_1, pk_lRem hx hy hy2]
theorem gcM_end {p m : Int32} {A B : Int64} {x f : Nat} : zloop (b_X8_ratio_85 p m A B) (f + 1) (lN x, lN 0) = j_X8_ratio_110 p m A B (lN x) := by
  show b_X8_ratio_85 p m A B (zloop (b_X8_ratio_85 p m A B) f) (lN x, lN 0) = _
  unfold b_X8_ratio_85
  dsimp only
  rw [if_pos ((lg_cmp_eq _ _).mpr lN0)]
theorem gcM_step {p m : Int32} {A B : Int64} {x y f : Nat} (hx : x < 2 ^ 63) (hy : 0 < y) (hy2 : y < 2 ^ 63) : zloop (b_X8_ratio_85 p m A B) (f + 1) (lN x, lN y) = zloop (b_X8_ratio_85 p m A B) f (lN y, lN (x % y)) := by
  show b_X8_ratio_85 p m A B (zloop (b_X8_ratio_85 p m A B) f) (lN x, lN y) = _
  generalize zloop (b_X8_ratio_85 p m A B) f = rc
  unfold b_X8_ratio_85
  dsimp only
  have h2 : ¬ lN y = 0 := fun e => by
    have := (pk_lEQ (a := y) (b := 0) hy2 (by decide)).mp e
    omega
  rw [if_neg (fun e => h2 ((lg_cmp_eq _ _).mp e)), decide_eq_true h2, zg_t, zlet_d, pk_lRem hx hy hy2]
theorem mod_half {y r k : Nat} (hr : 0 < r) (hry : r < y) (hy : y < 2 * k) : y % r < k := by
  by_cases h : 2 * r ≤ y
  · have := Nat.mod_lt y hr; omega
  · rw [Nat.mod_eq_sub_mod (by omega), Nat.mod_eq_of_lt (by omega)]; omega
theorem gc_both (p m : Int32) (A B : Int64) : ∀ (k x y t f f' : Nat), y < 2 ^ k → x < 2 ^ 63 → y < 2 ^ 63 → 0 < x → t + 2 * k < 100 → 2 * k < f → 2 * k < f' → ∃ d, 0 < d ∧ d < 2 ^ 63 ∧ zloop b_X7_greatestCommon_3 f (lN x, lN y, nI t) = some (lN d) ∧ zloop (b_X8_ratio_85 p m A B) f' (lN x, lN y) = j_X8_ratio_110 p m A B (lN d) := by
  intro k
  induction k with
  | zero =>
    intro x y t f f' h0 h1 h2 h3 h4 h5 h6
    obtain ⟨f, rfl⟩ : ∃ g, f = g + 1 := ⟨f - 1, by omega⟩
    obtain ⟨f', rfl⟩ : ∃ g, f' = g + 1 := ⟨f' - 1, by omega⟩
    obtain rfl : y = 0 := by rw [Nat.pow_zero] at h0; omega
    exact ⟨x, h3, h1, gcC_end (by omega), gcM_end⟩
  | succ k ih =>
    intro x y t f f' h0 h1 h2 h3 h4 h5 h6
    obtain ⟨f, rfl⟩ : ∃ g, f = g + 2 := ⟨f - 2, by omega⟩
    obtain ⟨f', rfl⟩ : ∃ g, f' = g + 2 := ⟨f' - 2, by omega⟩
    rcases Nat.eq_zero_or_pos y with hy | hy
    · subst hy
      exact ⟨x, h3, h1, gcC_end (by omega), gcM_end⟩
    · rw [gcC_step (by omega) h1 hy h2, gcM_step h1 hy h2]
      have hr : x % y < y := Nat.mod_lt _ hy
      rcases Nat.eq_zero_or_pos (x % y) with hz | hz
      · rw [hz]
        exact ⟨y, hy, h2, gcC_end (by omega), gcM_end⟩
      · rw [gcC_step (by omega) h2 hz (by omega), gcM_step h2 hz (by omega)]
        have hy3 : y < 2 * 2 ^ k := by rw [Nat.pow_succ] at h0; omega
        have hh := mod_half hz hr hy3
        have hlt : y % (x % y) < x % y := Nat.mod_lt _ hz
        exact ih (x % y) (y % (x % y)) (t + 1 + 1) f f' hh (by omega) (by omega) hz (by omega) (by omega) (by omega)
theorem st_ratio {tl : Nat → Int32} {tn pn pz : Int32} {pl : Nat → R2} {v u : R2} {m1 m2 : Int32} {mb ms mp : Nat → Int32} (h : RR tl tn pn pz pl v u m1 m2 mb ms mp) (x y : Int32) : ∃ o o', f_X7_ratio v x y = some o ∧ f_X8_ratio ms x y = some o' ∧ o = o'.1 := by
  obtain ⟨-, ⟨n, t, T, ht, hL⟩, -, -⟩ := h
  have hR := hL.2.2.2.2.2.2.2.2.1
  unfold f_X7_ratio f_X8_ratio f_X8_in
  rw [zlet_d]
  rcases has_eq v hL.1.2 hL.2.1.1 x with ⟨i, hi, rfl, e⟩ | ⟨hx, e⟩
  · have i4 : i < 4 := by have := hL.1; omega
    rw [e, isStage_yes ms hL.1.2 hL.2.1.2 hi, zbd_s, zbd_s, if_neg ne10, if_neg ne10]
    by_cases c1 : y < 0
    · rw [if_pos c1, if_pos c1, zbd_s, if_pos rfl]; exact ⟨_, _, rfl, rfl, rfl⟩
    · rw [if_neg c1, if_neg c1]
      by_cases c2 : y ≤ 1
      · have c3 : ¬ (1 : Int32) < y := Int32.not_lt.mpr c2
        rw [if_pos c2, if_neg c3, zbd_s, if_neg ne10]
        have e1 : zloop (b_X7_ratio_32 v (nI i) y) 1000 (1, 1, 0) = j_X7_ratio_69 y (lN (PA v (i + 1) 0 1)) (lN (1 * 1000 ^ (i + 1))) := ratC_eq v y hL.1.2 hi hR (i + 1) 0 1000 1 1 (by omega) (by omega)
        have e2 : zloop (b_X8_ratio_34 ms (nI i) y 0) 1000 (1, 1, 0) = j_X8_ratio_78 y 0 (lN (PA v (i + 1) 0 1)) (lN (1 * 1000 ^ (i + 1))) := ratM_eq v ms y hL.1.2 hi hR hL.2.2.2.2.2.2.1 (i + 1) 0 1000 1 1 (by omega) (by omega)
        have hA : PA v (i + 1) 0 1 < 2 ^ 63 := Nat.lt_of_le_of_lt (Nat.le_trans (PA_le hR (i + 1) 0 1 1 (by omega) (Nat.le_refl 1)) (Nat.mul_le_mul (Nat.le_refl 1) (Nat.pow_le_pow_right (by decide) (show i + 1 ≤ 4 by omega)))) (by decide)
        have hB : 1 * 1000 ^ (i + 1) < 2 ^ 40 := Nat.lt_of_le_of_lt (Nat.mul_le_mul (Nat.le_refl 1) (Nat.pow_le_pow_right (by decide) (show i + 1 ≤ 4 by omega))) (by decide)
        have hA0 := PA_pos hR (i + 1) 0 1 (by omega) (by decide)
        rw [e1, e2]
        generalize PA v (i + 1) 0 1 = A at *
        generalize 1 * 1000 ^ (i + 1) = B at *
        obtain ⟨d, d0, d1, d2, d3⟩ := gc_both y 0 (lN A) (lN B) 40 A B 0 1000 1000 hB hA (Nat.lt_trans hB (by decide)) hA0 (by decide) (by decide) (by decide)
        unfold j_X7_ratio_69 f_X7_greatestCommon j_X8_ratio_78
        have d2' : zloop b_X7_greatestCommon_3 1000 (lN A, lN B, 0) = some (lN d) := d2
        have hd : ¬ lN d = 0 := fun e => by
          have := (pk_lEQ (a := d) (b := 0) d1 (by decide)).mp e
          omega
        have hg : 0 ≤ lg_cmp (lN d) 1 := (lg_cmp_ge _ _).mpr ((pk_lLE (a := 1) (b := d) (by decide) d1).mpr d0)
        rw [d2', d3, zbd_s, if_pos hg]
        unfold j_X8_ratio_110
        rw [decide_eq_true hd, zg_t, zg_t, zg_t, zg_t]
        by_cases c : y = 0
        · rw [if_pos c, if_pos c]; exact ⟨_, _, rfl, rfl, rfl⟩
        · rw [if_neg c, if_neg c]; exact ⟨_, _, rfl, rfl, rfl⟩
      · have c3 : (1 : Int32) < y := Int32.not_le.mp c2
        rw [if_neg c2, if_pos c3, zbd_s, if_pos rfl]
        exact ⟨_, _, rfl, rfl, rfl⟩
  · rw [e, isStage_no ms hL.1 hL.2.1.2 hx, zbd_s, zbd_s, if_pos rfl, if_pos rfl]
    exact ⟨_, _, rfl, rfl, rfl⟩
