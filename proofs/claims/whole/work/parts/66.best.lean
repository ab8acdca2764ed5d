/-! ===== pure: the best taps ===== -/
def absB (x : Int32) (B : Nat) : Prop := x.toInt.natAbs ≤ B
theorem aB_mul {x y : Int32} {A B : Nat} (hx : absB x A) (hy : absB y B) (C : Nat) (hC : A * B ≤ C) (hC2 : C ≤ 2000000000) : absB (x * y) C := by
  have h1 : (x.toInt * y.toInt).natAbs ≤ C := by
    rw [Int.natAbs_mul]
    exact Nat.le_trans (Nat.mul_le_mul hx hy) hC
  unfold absB
  rw [tI_mul (by omega) (by omega)]
  exact h1
theorem aB_div {x y : Int32} {A : Nat} (hx : absB x A) (hy : y ≠ -1) (d : Nat) (hd : y.toInt = d) (C : Nat) (hC : A / d ≤ C) : absB (x / y) C := by
  unfold absB
  rw [Int32.toInt_div_of_ne_right x y hy, hd, Int.natAbs_tdiv]
  refine Nat.le_trans ?_ hC
  show x.toInt.natAbs / (d : Int).natAbs ≤ A / d
  rw [Int.natAbs_natCast]
  exact Nat.div_le_div_right hx
theorem aB_sub {x y : Int32} {A B : Nat} (hx : absB x A) (hy : absB y B) (C : Nat) (hC : A + B ≤ C) (hC2 : C ≤ 2000000000) : absB (x - y) C := by
  unfold absB at *
  rw [tI_sub (by omega) (by omega)]
  omega
theorem inI_aB {x : Int32} {a b : Int} {B : Nat} (h : inI x a b) (h1 : -(B : Int) ≤ a) (h2 : b ≤ B) : absB x B := by
  unfold inI at h
  unfold absB
  omega
theorem zabs_in {x : Int32} {B : Nat} (h : absB x B) (hB : B ≤ 2000000000) : inI (zabs x) 0 B := by
  have k0 : (0 : Int32).toInt = 0 := by decide
  unfold absB at h
  by_cases c : 0 ≤ x
  · have e : zabs x = x := if_pos c
    rw [e]
    have := Int32.le_iff_toInt_le.mp c
    rw [k0] at this
    unfold inI
    omega
  · have e : zabs x = 0 - x := if_neg c
    rw [e]
    have := Int32.lt_iff_toInt_lt.mp (Int32.not_le.mp c)
    rw [k0] at this
    unfold inI
    rw [tI_sub (by rw [k0]; omega) (by rw [k0]; omega), k0]
    omega
theorem flow_in {n : Nat} {v : R2} (hn : n ≤ 4) (hC : CR n v) (hR : RG n v) : ∀ (k i : Nat), i + k + 1 = n → inI (v i 12) (-50 * (k + 1 : Nat)) (50 * (k + 1 : Nat)) := by
  intro k
  induction k with
  | zero =>
    intro i hi
    have k0 : (0 : Int32).toInt = 0 := by decide
    have h5 := (hR i (by omega)).2.2.2.2.2.1
    rw [hC.1 i (by omega), if_neg (by omega)]
    unfold inI at *
    rw [tI_add (by rw [k0]; omega) (by rw [k0]; omega), k0]
    omega
  | succ k ih =>
    intro i hi
    have h5 := (hR i (by omega)).2.2.2.2.2.1
    have h6 := ih (i + 1) (by omega)
    rw [hC.1 i (by omega), if_pos (by omega)]
    unfold inI at *
    rw [tI_add (by omega) (by omega)]
    omega
def lstF (v : R2) (n i : Nat) : Int32 := if i + 1 < n then v i 6 * v (i + 1) 12 / 10 else 0
def otF (v : R2) (i : Nat) (x tap : Int32) : Int32 := x * (1000 + tap * v i 0) / 1000
def afF (v : R2) (i : Nat) (a x tap : Int32) : Int32 := a + zabs (otF v i x tap - v i 1)
def loT (v : R2) (i : Nat) : Int32 := if v i 11 = 0 then -5 else v i 7
def cnT (v : R2) (i : Nat) : Nat := if v i 11 = 0 then 11 else 1
def foldF {σ : Type} (F : Int32 → σ → σ) : Nat → Int32 → σ → σ
  | 0, _, st => st
  | c + 1, tap, st => foldF F c (tap + 1) (F tap st)
def SF (v : R2) (n : Nat) : Nat → Nat → Int32 → Int32 → (Nat → Int32) → Int32 × (Nat → Int32) → Int32 × (Nat → Int32)
  | 0, _, _, a, sp, st => if a < st.1 then (a, sp) else st
  | k + 1, i, x, a, sp, st => foldF (fun tap s => SF v n k (i + 1) (otF v i x tap - lstF v n i) (afF v i a x tap) (upd sp i tap) s) (cnT v i) (loT v i) st
def EF (v : R2) (n : Nat) : Nat → Nat → Int32 → Int32 → (Nat → Int32) → Int32
  | 0, _, _, a, _ => a
  | k + 1, i, x, a, τ => EF v n k (i + 1) (otF v i x (τ i) - lstF v n i) (afF v i a x (τ i)) τ
def BnF (i : Nat) (x a : Int32) : Prop := absB x (1200 * 2 ^ i) ∧ inI a 0 (15000 * i : Nat)
theorem pow_3 {i : Nat} (h : i ≤ 3) : 2 ^ i ≤ 8 := Nat.pow_le_pow_right (by decide) h
theorem lst_aB {n : Nat} {v : R2} (hn : n ≤ 4) (hC : CR n v) (hR : RG n v) {i : Nat} (hi : i < n) : absB (lstF v n i) 180 := by
  unfold lstF
  by_cases c : i + 1 < n
  · rw [if_pos c]
    have h6 := inI_aB (B := 9) (hR i hi).2.2.2.2.2.2.1 (by decide) (by decide)
    have hf := flow_in hn hC hR (n - (i + 1) - 1) (i + 1) (by omega)
    have hf2 : absB (v (i + 1) 12) 200 := inI_aB hf (by omega) (by omega)
    exact aB_div (aB_mul h6 hf2 1800 (by decide) (by decide)) (by decide) 10 (by decide) 180 (by decide)
  · rw [if_neg c]
    unfold absB
    decide
theorem Bn_step {n : Nat} {v : R2} (hn : n ≤ 4) (hC : CR n v) (hR : RG n v) {i : Nat} (hi : i < n) {x a tap : Int32} (ht : inI tap (-5) 5) (hB : BnF i x a) : BnF (i + 1) (otF v i x tap - lstF v n i) (afF v i a x tap) ∧ a.toInt ≤ (afF v i a x tap).toInt := by
  obtain ⟨c, c1, c2, c3⟩ := trn_in ht (hR i hi).1
  have hp := pow_3 (show i ≤ 3 by omega)
  have hp1 : 2 ^ (i + 1) = 2 * 2 ^ i := by rw [Nat.pow_succ]; omega
  have hp0 : 0 < 2 ^ i := Nat.two_pow_pos i
  obtain ⟨b1, b2⟩ := hB
  unfold BnF
  rw [hp1]
  generalize 2 ^ i = P at *
  have hf : absB (1000 + tap * v i 0) 1250 := by
    rw [c3]
    unfold absB
    rw [nI_toInt (by omega)]
    omega
  have ho : absB (otF v i x tap) (1500 * P) := aB_div (aB_mul b1 hf (1500000 * P) (by omega) (by omega)) (by decide) 1000 (by decide) (1500 * P) (by omega)
  have hl := lst_aB hn hC hR hi
  have ht2 : absB (v i 1) 1200 := inI_aB (hR i hi).2.1 (by decide) (by decide)
  have hz := zabs_in (aB_sub ho ht2 15000 (by omega) (by decide)) (by decide)
  have ha : (afF v i a x tap).toInt = a.toInt + (zabs (otF v i x tap - v i 1)).toInt := by
    unfold afF
    unfold inI at hz b2
    rw [tI_add (by omega) (by omega)]
  refine ⟨⟨aB_sub ho hl _ (by omega) (by omega), ?_⟩, ?_⟩
  · unfold inI at *
    rw [ha]
    omega
  · unfold inI at *
    rw [ha]
    omega
theorem tap_next {tap : Int32} {c : Nat} {hi : Int} (h : tap.toInt + (c + 1 : Nat) = hi + 1) (h2 : -5 ≤ tap.toInt) (h3 : hi ≤ 5) : (tap + 1).toInt = tap.toInt + 1 := by
  have k1 : (1 : Int32).toInt = 1 := by decide
  rw [tI_add (by rw [k1]; omega) (by rw [k1]; omega), k1]
theorem foldF_same {σ : Type} (F : Int32 → σ → σ) {hi : Int} (h5 : hi ≤ 5) (st : σ) (h : ∀ tap : Int32, inI tap (-5) 5 → F tap st = st) : ∀ (c : Nat) (tap : Int32), tap.toInt + c = hi + 1 → -5 ≤ tap.toInt → foldF F c tap st = st := by
  intro c
  induction c with
  | zero => intro tap _ _; rfl
  | succ c ih =>
    intro tap h1 h2
    show foldF F c (tap + 1) (F tap st) = st
    have hn := tap_next h1 h2 h5
    rw [h tap (by unfold inI; omega)]
    exact ih (tap + 1) (by omega) (by omega)
theorem hiT_eq {n : Nat} {v : R2} (hR : RG n v) {i : Nat} (hi : i < n) : ∃ h : Int, (if v i 11 = 0 then (5 : Int32) else v i 7).toInt = h ∧ (loT v i).toInt + cnT v i = h + 1 ∧ -5 ≤ (loT v i).toInt ∧ h ≤ 5 := by
  unfold loT cnT
  have h7 := (hR i hi).2.2.2.2.2.2.2.1
  by_cases c : v i 11 = 0
  · rw [if_pos c, if_pos c, if_pos c]
    exact ⟨5, by decide, by decide, by decide, by decide⟩
  · rw [if_neg c, if_neg c, if_neg c]
    unfold inI at h7
    exact ⟨_, rfl, by omega, by omega, by omega⟩
theorem SF_same {n : Nat} {v : R2} (hn : n ≤ 4) (hC : CR n v) (hR : RG n v) : ∀ (k i : Nat) (x a : Int32) (sp : Nat → Int32) (st : Int32 × (Nat → Int32)), i + k = n → BnF i x a → st.1 ≤ a → SF v n k i x a sp st = st := by
  intro k
  induction k with
  | zero =>
    intro i x a sp st _ _ h
    show (if a < st.1 then (a, sp) else st) = st
    rw [if_neg (Int32.not_lt.mpr h)]
  | succ k ih =>
    intro i x a sp st hi hB h
    obtain ⟨hh, -, e2, e3, e4⟩ := hiT_eq hR (show i < n by omega)
    refine foldF_same _ e4 st (fun tap ht => ?_) (cnT v i) (loT v i) e2 e3
    have hs := Bn_step hn hC hR (show i < n by omega) ht hB
    refine ih (i + 1) _ _ _ st (by omega) hs.1 ?_
    rw [Int32.le_iff_toInt_le] at h ⊢
    omega
theorem try_eq {n : Nat} {v : R2} (hn : n ≤ 4) (h0 : v 9 0 = nI n) (hC : CR n v) (hR : RG n v) : ∀ (k i d : Nat) (x a sk : Int32) (sp sq sp' : Nat → Int32) (st : Int32 × (Nat → Int32)), i + k = n → k < d → BnF i x a → a < sk → (∀ j, j < i → sp j = sp' j) → st.1 = sk → (∀ j, j < n → st.2 j = sq j) → ∃ o, f_X3_tryTaps d sp sq sk v (nI i) x a = some o ∧ (∀ j, j < i → o.1 j = sp j) ∧ (SF v n k i x a sp' st).1 = o.2.2 ∧ ∀ j, j < n → (SF v n k i x a sp' st).2 j = o.2.1 j := by
  intro k
  induction k with
  | zero =>
    intro i d x a sk sp sq sp' st hi hd hB ha hp hs1 hs2
    obtain ⟨d, rfl⟩ : ∃ g, d = g + 1 := ⟨d - 1, by omega⟩
    obtain rfl : i = n := by omega
    have k0 : zn 0 = 0 := by decide
    have k4 : zn 4 = 4 := by decide
    refine ⟨(sp, va_cpy sp sq 0 0 4, a), ?_, fun _ _ => rfl, ?_, fun j hj => ?_⟩
    · show F_X3_tryTaps (f_X3_tryTaps d) sp sq sk v (nI i) x a = _
      unfold F_X3_tryTaps j_X3_tryTaps_13
      rw [h0, if_pos (Int32.le_refl _), zlet_d, zlet_d, k0, k4]
    · show (if a < st.1 then (a, sp') else st).1 = a
      rw [hs1, if_pos ha]
    · show (if a < st.1 then (a, sp') else st).2 j = va_cpy sp sq 0 0 4 j
      rw [hs1, if_pos ha, sb_cpy0 (by omega)]
      exact (hp j hj).symm
  | succ k ih =>
    intro i d x a sk sp sq sp' st hi hd hB ha hp hs1 hs2
    obtain ⟨d, rfl⟩ : ∃ g, d = g + 1 := ⟨d - 1, by omega⟩
    have i4 : i < 4 := by omega
    obtain ⟨hh, e1, e2, e3, e4⟩ := hiT_eq hR (show i < n by omega)
    have eF : f_X3_tryTaps (d + 1) sp sq sk v (nI i) x a = zloop (b_X3_tryTaps_85 (f_X3_tryTaps d) v (nI i) x a (if v i 11 = 0 then 5 else v i 7)) 1000 (loT v i, sp, sq, sk) := by
      show F_X3_tryTaps (f_X3_tryTaps d) sp sq sk v (nI i) x a = _
      have hlt4 : nI i < (4 : Int32) := nI_lt (b := 4) i4 (by decide)
      unfold F_X3_tryTaps j_X3_tryTaps_60 j_X3_tryTaps_79 loT
      rw [h0, if_neg (nI_ge (show i < n by omega) (by omega)), if_pos hlt4, z4 i4, zg_t, n4 i4]
      by_cases c : v i 11 = 0
      · rw [if_pos c, if_pos c, if_pos c, if_pos c]
      · rw [if_neg c, if_neg c, if_neg c, if_neg c]
    rw [eF]
    generalize (if v i 11 = 0 then (5 : Int32) else v i 7) = hiI at *
    have loop : ∀ (c f : Nat) (tap sk : Int32) (sp sq : Nat → Int32) (st : Int32 × (Nat → Int32)), tap.toInt + c = hh + 1 → -5 ≤ tap.toInt → c < f → (∀ j, j < i → sp j = sp' j) → st.1 = sk → (∀ j, j < n → st.2 j = sq j) → ∃ o, zloop (b_X3_tryTaps_85 (f_X3_tryTaps d) v (nI i) x a hiI) f (tap, sp, sq, sk) = some o ∧ (∀ j, j < i → o.1 j = sp j) ∧ (foldF (fun tap s => SF v n k (i + 1) (otF v i x tap - lstF v n i) (afF v i a x tap) (upd sp' i tap) s) c tap st).1 = o.2.2 ∧ ∀ j, j < n → (foldF (fun tap s => SF v n k (i + 1) (otF v i x tap - lstF v n i) (afF v i a x tap) (upd sp' i tap) s) c tap st).2 j = o.2.1 j := by
      intro c
      induction c with
      | zero =>
        intro f tap sk sp sq st g1 g2 g3 g4 g5 g6
        obtain ⟨f, rfl⟩ : ∃ g, f = g + 1 := ⟨f - 1, by omega⟩
        refine ⟨(sp, sq, sk), ?_, fun _ _ => rfl, g5, g6⟩
        show b_X3_tryTaps_85 (f_X3_tryTaps d) v (nI i) x a hiI (zloop (b_X3_tryTaps_85 (f_X3_tryTaps d) v (nI i) x a hiI) f) (tap, sp, sq, sk) = _
        unfold b_X3_tryTaps_85
        dsimp only
        rw [if_pos (Int32.lt_iff_toInt_lt.mpr (by omega))]
      | succ c ihc =>
        intro f tap sk sp sq st g1 g2 g3 g4 g5 g6
        obtain ⟨f, rfl⟩ : ∃ g, f = g + 1 := ⟨f - 1, by omega⟩
        have ht : inI tap (-5) 5 := by unfold inI; omega
        have hn1 := tap_next g1 g2 e4
        have hs := Bn_step hn hC hR (show i < n by omega) ht hB
        have hnlt : ¬ hiI < tap := fun q => by
          have := Int32.lt_iff_toInt_lt.mp q
          omega
        show ∃ o, b_X3_tryTaps_85 (f_X3_tryTaps d) v (nI i) x a hiI (zloop (b_X3_tryTaps_85 (f_X3_tryTaps d) v (nI i) x a hiI) f) (tap, sp, sq, sk) = some o ∧ _
        by_cases c1 : sk ≤ afF v i a x tap
        · have hb : b_X3_tryTaps_85 (f_X3_tryTaps d) v (nI i) x a hiI (zloop (b_X3_tryTaps_85 (f_X3_tryTaps d) v (nI i) x a hiI) f) (tap, sp, sq, sk) = zloop (b_X3_tryTaps_85 (f_X3_tryTaps d) v (nI i) x a hiI) f (tap + 1, sp, sq, sk) := by
            generalize zloop (b_X3_tryTaps_85 (f_X3_tryTaps d) v (nI i) x a hiI) f = rc
            unfold b_X3_tryTaps_85 j_X3_tryTaps_161 f_X7_outOf
            dsimp only
            rw [if_neg hnlt, zbd_s, zlet_d, n4 i4]
            have c1' : sk ≤ a + zabs (x * (1000 + tap * v i 0) / 1000 - v i 1) := c1
            rw [if_pos c1', zlet_d]
          rw [hb]
          have hsame : SF v n k (i + 1) (otF v i x tap - lstF v n i) (afF v i a x tap) (upd sp' i tap) st = st := SF_same hn hC hR k (i + 1) _ _ _ st (by omega) hs.1 (by rw [g5]; exact c1)
          obtain ⟨o, q1, q2, q3, q4⟩ := ihc f (tap + 1) sk sp sq st (by omega) (by omega) (by omega) g4 g5 g6
          refine ⟨o, q1, q2, ?_, fun j hj => ?_⟩
          · show (foldF _ c (tap + 1) (SF v n k (i + 1) (otF v i x tap - lstF v n i) (afF v i a x tap) (upd sp' i tap) st)).1 = _
            rw [hsame]; exact q3
          · show (foldF _ c (tap + 1) (SF v n k (i + 1) (otF v i x tap - lstF v n i) (afF v i a x tap) (upd sp' i tap) st)).2 j = _
            rw [hsame]; exact q4 j hj
        · obtain ⟨o, r1, r2, r3, r4⟩ := ih (i + 1) d (otF v i x tap - lstF v n i) (afF v i a x tap) sk (upd sp i tap) sq (upd sp' i tap) st (by omega) (by omega) hs.1 (Int32.not_le.mp c1) (fun j hj => by
            by_cases e : j = i
            · subst e; rw [upd_s, upd_s]
            · rw [upd_o e, upd_o e]; exact g4 j (by omega)) g5 g6
          have hb : b_X3_tryTaps_85 (f_X3_tryTaps d) v (nI i) x a hiI (zloop (b_X3_tryTaps_85 (f_X3_tryTaps d) v (nI i) x a hiI) f) (tap, sp, sq, sk) = zloop (b_X3_tryTaps_85 (f_X3_tryTaps d) v (nI i) x a hiI) f (tap + 1, o.1, o.2.1, o.2.2) := by
            generalize zloop (b_X3_tryTaps_85 (f_X3_tryTaps d) v (nI i) x a hiI) f = rc
            unfold b_X3_tryTaps_85 j_X3_tryTaps_161 f_X7_outOf
            dsimp only
            rw [if_neg hnlt, zbd_s, zlet_d, n4 i4]
            have c1' : ¬ sk ≤ a + zabs (x * (1000 + tap * v i 0) / 1000 - v i 1) := c1
            have r1' : f_X3_tryTaps d (upd sp i tap) sq sk v (nI (i + 1)) (x * (1000 + tap * v i 0) / 1000 - (if i + 1 < n then v i 6 * v (i + 1) 12 / 10 else 0)) (a + zabs (x * (1000 + tap * v i 0) / 1000 - v i 1)) = some o := r1
            rw [if_neg c1', z4 i4, zg_t, zlet_d, lost_eq v hn h0 (show i < n by omega), zbd_s, nI_1, r1', zbd_s, zlet_d]
          rw [hb]
          have r2' : ∀ j, j < i → o.1 j = sp j := fun j hj => by rw [r2 j (by omega), upd_o (by omega)]
          obtain ⟨o2, q1, q2, q3, q4⟩ := ihc f (tap + 1) o.2.2 o.1 o.2.1 (SF v n k (i + 1) (otF v i x tap - lstF v n i) (afF v i a x tap) (upd sp' i tap) st) (by omega) (by omega) (by omega) (fun j hj => (r2' j hj).trans (g4 j hj)) r3 r4
          exact ⟨o2, q1, fun j hj => (q2 j hj).trans (r2' j hj), q3, q4⟩
    have hc : cnT v i < 1000 := by unfold cnT; split <;> decide
    exact loop (cnT v i) 1000 (loT v i) sk sp sq st e2 e3 hc hp hs1 hs2
theorem EF_in {n : Nat} {v : R2} (hn : n ≤ 4) (hC : CR n v) (hR : RG n v) : ∀ (k i : Nat) (x a : Int32) (τ : Nat → Int32), i + k = n → BnF i x a → (∀ j, j < n → inI (τ j) (-5) 5) → inI (EF v n k i x a τ) 0 60000 := by
  intro k
  induction k with
  | zero =>
    intro i x a τ hi hB _
    have h := hB.2
    show inI a 0 60000
    unfold inI at *
    omega
  | succ k ih =>
    intro i x a τ hi hB hτ
    exact ih (i + 1) _ _ τ (by omega) (Bn_step hn hC hR (by omega) (hτ i (by omega)) hB).1 hτ
theorem off_EF {n : Nat} {v w : R2} (hC : CR n w) (h0 : ∀ j, j < n → w j 0 = v j 0 ∧ w j 1 = v j 1 ∧ w j 6 = v j 6 ∧ w j 12 = v j 12) : ∀ (k i : Nat) (a : Int32), i + k = n → sumF (ofF w) k i a = EF v n k i (w i 13) a (fun j => w j 7) := by
  intro k
  induction k with
  | zero => intro i a _; rfl
  | succ k ih =>
    intro i a hi
    obtain ⟨q0, q1, q6, q12⟩ := h0 i (by omega)
    have e14 : w i 14 = otF v i (w i 13) (w i 7) := by
      unfold otF
      rw [hC.2.2.1 i (by omega), q0]
    have ea : a + ofF w i = afF v i a (w i 13) (w i 7) := by
      unfold ofF afF
      rw [e14, q1]
    show sumF (ofF w) k (i + 1) (a + ofF w i) = EF v n k (i + 1) (otF v i (w i 13) (w i 7) - lstF v n i) (afF v i a (w i 13) (w i 7)) (fun j => w j 7)
    rw [ea, ih (i + 1) _ (by omega)]
    rcases Nat.eq_zero_or_pos k with hk | hk
    · subst hk; rfl
    · have h13 : w (i + 1) 13 = otF v i (w i 13) (w i 7) - lstF v n i := by
        rw [hC.2.2.2 i (by omega), e14]
        unfold lstF
        rw [if_pos (by omega), q6, (h0 (i + 1) (by omega)).2.2.2]
      rw [h13]
