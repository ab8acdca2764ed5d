/-! ===== pure: stage, graded, waits, done ===== -/
theorem st_stage {tl : Nat → Int32} {tn pn pz : Int32} {pl : Nat → R2} {v u : R2} {m1 m2 : Int32} {mb ms mp : Nat → Int32} (h : RR tl tn pn pz pl v u m1 m2 mb ms mp) (mf mi mo mw mn : Nat → Int32) (x y : Int32) : ∃ o o', f_X7_stage v x y = some o ∧ f_X8_stage ms mf mi mo mw mn x y = some o' ∧ o = o'.1 := by
  obtain ⟨-, ⟨n, t, T, ht, hL⟩, -, -⟩ := h
  unfold f_X7_stage f_X8_stage
  simp only [zlet_d]
  rcases has_eq v hL.1.2 hL.2.1.1 x with ⟨i, hi, rfl, e⟩ | ⟨hx, e⟩
  · have i4 : i < 4 := by have := hL.1; omega
    have hF := hL.2.2.2.2.2.2.1 i hi
    obtain ⟨o4, p1, p2⟩ := lays_eq mf mi mo mw mn hL.1 hL.2.1.2 hL.2.2.2.1.1 hL.2.2.2.2.2.2.1 hL.2.2.2.2.2.2.2.1 hL.2.2.2.2.2.2.2.2.1
    obtain ⟨q1, q2, q3, q4, q5⟩ := p2 i hi
    rw [e, isStage_yes ms hL.1.2 hL.2.1.2 hi, zbd_s, zbd_s, if_neg ne10, if_neg ne10, z4 i4, zg_t, n4 i4, p1]
    unfold f_X8_in
    by_cases c1 : y < 0
    · rw [if_pos c1, zbd_s, if_pos rfl]
      have ne : ∀ c : Int32, 0 ≤ c → c ≤ 15 → ¬ y = c := fun c k1 k2 k => by subst k; exact absurd c1 (Int32.not_lt.mpr k1)
      refine ⟨-1, _, ?_, rfl, rfl⟩
      unfold f_X4_valueOf
      rw [if_neg (ne 0 (by decide) (by decide)), if_neg (ne 1 (by decide) (by decide)), if_neg (ne 2 (by decide) (by decide)), if_neg (ne 3 (by decide) (by decide)), if_neg (ne 4 (by decide) (by decide)), if_neg (ne 5 (by decide) (by decide)), if_neg (ne 6 (by decide) (by decide)), if_neg (ne 7 (by decide) (by decide)), if_neg (ne 8 (by decide) (by decide)), if_neg (ne 9 (by decide) (by decide)), if_neg (ne 10 (by decide) (by decide)), if_neg (ne 11 (by decide) (by decide)), if_neg (ne 12 (by decide) (by decide)), if_neg (ne 13 (by decide) (by decide)), if_neg (ne 14 (by decide) (by decide)), if_neg (ne 15 (by decide) (by decide))]
      rfl
    · rw [if_neg c1]
      by_cases c2 : 15 < y
      · rw [if_pos c2, zbd_s, if_pos rfl]
        have ne : ∀ c : Int32, 0 ≤ c → c ≤ 15 → ¬ y = c := fun c k1 k2 k => by subst k; exact absurd c2 (Int32.not_lt.mpr k2)
        refine ⟨-1, _, ?_, rfl, rfl⟩
        unfold f_X4_valueOf
        rw [if_neg (ne 0 (by decide) (by decide)), if_neg (ne 1 (by decide) (by decide)), if_neg (ne 2 (by decide) (by decide)), if_neg (ne 3 (by decide) (by decide)), if_neg (ne 4 (by decide) (by decide)), if_neg (ne 5 (by decide) (by decide)), if_neg (ne 6 (by decide) (by decide)), if_neg (ne 7 (by decide) (by decide)), if_neg (ne 8 (by decide) (by decide)), if_neg (ne 9 (by decide) (by decide)), if_neg (ne 10 (by decide) (by decide)), if_neg (ne 11 (by decide) (by decide)), if_neg (ne 12 (by decide) (by decide)), if_neg (ne 13 (by decide) (by decide)), if_neg (ne 14 (by decide) (by decide)), if_neg (ne 15 (by decide) (by decide))]
        rfl
      · rw [if_neg c2, zbd_s, if_neg ne10, zbd_s]
        obtain ⟨j, hj, rfl⟩ := nI_of2 (M := 15) (n := 15) (by decide) c1 (Int32.not_lt.mp c2)
        match j, hj with
        | 0, _ =>
          have k1 : f_X4_valueOf (v i) (nI 0) = some (v i 0) := rfl
          rw [k1, zbd_s]
          rw [if_neg (by decide), if_neg (by decide), if_neg (by decide), if_neg (by decide), if_neg (by decide), if_neg (by decide), if_neg (by decide), if_neg (by decide), if_neg (by decide), if_neg (by decide), if_neg (by decide), of_at ms i4 (k := 0) (by decide), zbd_s]
          exact ⟨_, _, rfl, rfl, hF 0 (by decide)⟩
        | 1, _ =>
          have k1 : f_X4_valueOf (v i) (nI 1) = some (v i 1) := rfl
          rw [k1, zbd_s]
          rw [if_neg (by decide), if_neg (by decide), if_neg (by decide), if_neg (by decide), if_neg (by decide), if_neg (by decide), if_neg (by decide), if_neg (by decide), if_neg (by decide), if_neg (by decide), if_neg (by decide), of_at ms i4 (k := 1) (by decide), zbd_s]
          exact ⟨_, _, rfl, rfl, hF 1 (by decide)⟩
        | 2, _ =>
          have k1 : f_X4_valueOf (v i) (nI 2) = some (v i 2) := rfl
          rw [k1, zbd_s]
          rw [if_neg (by decide), if_neg (by decide), if_neg (by decide), if_neg (by decide), if_neg (by decide), if_neg (by decide), if_neg (by decide), if_neg (by decide), if_neg (by decide), if_neg (by decide), if_neg (by decide), of_at ms i4 (k := 2) (by decide), zbd_s]
          exact ⟨_, _, rfl, rfl, hF 2 (by decide)⟩
        | 3, _ =>
          have k1 : f_X4_valueOf (v i) (nI 3) = some (v i 3) := rfl
          rw [k1, zbd_s]
          rw [if_neg (by decide), if_neg (by decide), if_neg (by decide), if_neg (by decide), if_neg (by decide), if_neg (by decide), if_neg (by decide), if_neg (by decide), if_neg (by decide), if_neg (by decide), if_neg (by decide), of_at ms i4 (k := 3) (by decide), zbd_s]
          exact ⟨_, _, rfl, rfl, hF 3 (by decide)⟩
        | 4, _ =>
          have k1 : f_X4_valueOf (v i) (nI 4) = some (v i 4) := rfl
          rw [k1, zbd_s]
          rw [if_neg (by decide), if_neg (by decide), if_neg (by decide), if_neg (by decide), if_neg (by decide), if_neg (by decide), if_neg (by decide), if_neg (by decide), if_neg (by decide), if_neg (by decide), if_neg (by decide), of_at ms i4 (k := 4) (by decide), zbd_s]
          exact ⟨_, _, rfl, rfl, hF 4 (by decide)⟩
        | 5, _ =>
          have k1 : f_X4_valueOf (v i) (nI 5) = some (v i 5 + 1000) := rfl
          rw [k1, zbd_s]
          rw [if_pos (by decide), of_at ms i4 (k := 5) (by decide), zbd_s]
          exact ⟨_, _, rfl, rfl, congrArg (· + 1000) (hF 5 (by decide))⟩
        | 6, _ =>
          have k1 : f_X4_valueOf (v i) (nI 6) = some (v i 6) := rfl
          rw [k1, zbd_s]
          rw [if_neg (by decide), if_pos (by decide), of_at ms i4 (k := 6) (by decide), zbd_s]
          exact ⟨_, _, rfl, rfl, hF 6 (by decide)⟩
        | 7, _ =>
          have k1 : f_X4_valueOf (v i) (nI 7) = some (v i 7 + 1000) := rfl
          rw [k1, zbd_s]
          rw [if_neg (by decide), if_neg (by decide), if_pos (by decide), of_at ms i4 (k := 7) (by decide), zbd_s]
          exact ⟨_, _, rfl, rfl, congrArg (· + 1000) (hF 7 (by decide))⟩
        | 8, _ =>
          have k1 : f_X4_valueOf (v i) (nI 8) = some (v i 11) := by
            show (if v i 11 = 0 then some 0 else some 1) = some (v i 11)
            rcases hL.2.2.2.2.2.2.2.2.2 i i4 with k | k <;> rw [k] <;> rfl
          rw [k1, zbd_s]
          rw [if_neg (by decide), if_neg (by decide), if_neg (by decide), if_pos (by decide), of_at ms i4 (k := 8) (by decide), zbd_s]
          exact ⟨_, _, rfl, rfl, hF 11 (by decide)⟩
        | 9, _ =>
          have k1 : f_X4_valueOf (v i) (nI 9) = some (v i 12 + 1000) := rfl
          rw [k1, zbd_s]
          rw [if_neg (by decide), if_neg (by decide), if_neg (by decide), if_neg (by decide), if_pos (by decide), zg_t]
          exact ⟨_, _, rfl, rfl, congrArg (· + 1000) q1.symm⟩
        | 10, _ =>
          have k1 : f_X4_valueOf (v i) (nI 10) = some (v i 13 + 1000) := rfl
          rw [k1, zbd_s]
          rw [if_neg (by decide), if_neg (by decide), if_neg (by decide), if_neg (by decide), if_neg (by decide), if_pos (by decide), zg_t]
          exact ⟨_, _, rfl, rfl, congrArg (· + 1000) q2.symm⟩
        | 11, _ =>
          have k1 : f_X4_valueOf (v i) (nI 11) = some (v i 14 + 1000) := rfl
          rw [k1, zbd_s]
          rw [if_neg (by decide), if_neg (by decide), if_neg (by decide), if_neg (by decide), if_neg (by decide), if_neg (by decide), if_pos (by decide), zg_t]
          exact ⟨_, _, rfl, rfl, congrArg (· + 1000) q3.symm⟩
        | 12, _ =>
          have k1 : f_X4_valueOf (v i) (nI 12) = some (jF (v i)) := by
            show zbd (f_X4_judged (v i)) (fun o14 => some o14) = _
            rw [jF_eq, zbd_s]
          rw [k1, zbd_s]
          rw [if_neg (by decide), if_neg (by decide), if_neg (by decide), if_neg (by decide), if_neg (by decide), if_neg (by decide), if_neg (by decide), if_pos (by decide), good_eq ms o4.2.2.1 i4 (v i) (hF 1 (by decide)).symm (hF 2 (by decide)).symm q3, zbd_s]
          exact ⟨_, _, rfl, rfl, rfl⟩
        | 13, _ =>
          have k1 : f_X4_valueOf (v i) (nI 13) = some (wF (v i)) := by
            show zbd (f_X4_wants (v i)) (fun o14 => some o14) = _
            rw [wF_eq, zbd_s]
          rw [k1, zbd_s]
          rw [if_neg (by decide), if_neg (by decide), if_neg (by decide), if_neg (by decide), if_neg (by decide), if_neg (by decide), if_neg (by decide), if_neg (by decide), if_pos (by decide), zg_t]
          exact ⟨_, _, rfl, rfl, q4.symm⟩
        | 14, _ =>
          have k1 : f_X4_valueOf (v i) (nI 14) = some (v i 8) := rfl
          rw [k1, zbd_s]
          rw [if_neg (by decide), if_neg (by decide), if_neg (by decide), if_neg (by decide), if_neg (by decide), if_neg (by decide), if_neg (by decide), if_neg (by decide), if_neg (by decide), if_pos (by decide), of_9 ms i4, zbd_s]
          exact ⟨_, _, rfl, rfl, hF 8 (by decide)⟩
        | 15, _ =>
          have k1 : f_X4_valueOf (v i) (nI 15) = some (if cF (v i) = 0 then 0 else 1) := by
            show zbd (f_X4_canAsItWants (v i)) (fun o19 => if o19 = 0 then some 0 else some 1) = _
            rw [cF_eq, zbd_s]
            split <;> rfl
          rw [k1, zbd_s]
          by_cases c : cF (v i) = 0
          · rw [if_pos c, if_neg (by decide), if_neg (by decide), if_neg (by decide), if_neg (by decide), if_neg (by decide), if_neg (by decide), if_neg (by decide), if_neg (by decide), if_neg (by decide), if_neg (by decide), if_pos (by decide), zg_t, q5, if_pos c]; exact ⟨_, _, rfl, rfl, rfl⟩
          · rw [if_neg c, if_neg (by decide), if_neg (by decide), if_neg (by decide), if_neg (by decide), if_neg (by decide), if_neg (by decide), if_neg (by decide), if_neg (by decide), if_neg (by decide), if_neg (by decide), if_pos (by decide), zg_t, q5, if_neg c]; exact ⟨_, _, rfl, rfl, rfl⟩
        | j + 16, hj => exact absurd hj (by omega)
  · rw [e, isStage_no ms hL.1 hL.2.1.2 hx, zbd_s, zbd_s, if_pos rfl, if_pos rfl]
    exact ⟨_, _, rfl, rfl, rfl⟩
/-- graded from stage i on -/
def gF (v : R2) (g : Int32) : Nat → Nat → Int32
  | 0, _ => 1
  | k + 1, i => if v (i - 1) 3 + g ≤ v i 3 then gF v g k (i + 1) else 0
theorem gF_in (v : R2) (g : Int32) : ∀ k i, gF v g k i = 0 ∨ gF v g k i = 1 := by
  intro k
  induction k with
  | zero => intro i; exact Or.inr rfl
  | succ k ih =>
    intro i
    show (if _ then _ else _) = (0 : Int32) ∨ (if _ then _ else _) = (1 : Int32)
    split
    · exact ih (i + 1)
    · exact Or.inl rfl
theorem sub1 {i : Nat} (h : 0 < i) : nI i - 1 = nI (i - 1) := by
  conv => lhs; rw [show i = (i - 1) + 1 by omega]
  exact nI_pred _
theorem gradeC_eq (v : R2) (g : Int32) {n : Nat} (hn : n ≤ 4) (hv : v 9 0 = nI n) : ∀ (k i f : Nat), 0 < i → i + k = n → k < f → zloop (b_X7_graded_11 v g) f (nI i) = some (gF v g k i) := by
  intro k
  induction k with
  | zero =>
    intro i f h0 hi hf
    obtain ⟨f, rfl⟩ : ∃ g, f = g + 1 := ⟨f - 1, by omega⟩
    show b_X7_graded_11 v g (zloop (b_X7_graded_11 v g) f) (nI i) = _
    unfold b_X7_graded_11
    rw [hv, if_pos (nI_le (by omega) (by omega))]
    rfl
  | succ k ih =>
    intro i f h0 hi hf
    obtain ⟨f, rfl⟩ : ∃ g, f = g + 1 := ⟨f - 1, by omega⟩
    have h1 : b_X7_graded_11 v g (zloop (b_X7_graded_11 v g) f) (nI i) = if v (i - 1) 3 + g ≤ v i 3 then zloop (b_X7_graded_11 v g) f (nI (i + 1)) else some 0 := by
      generalize zloop (b_X7_graded_11 v g) f = rc
      unfold b_X7_graded_11
      rw [hv, if_neg (nI_ge (show i < n by omega) (by omega)), sub1 h0, z4 (show i < 4 by omega), z4 (show i - 1 < 4 by omega), zg_t, zg_t, n4 (show i < 4 by omega), n4 (show i - 1 < 4 by omega), zlet_d, nI_1]
    show b_X7_graded_11 v g (zloop (b_X7_graded_11 v g) f) (nI i) = _
    rw [h1, ih (i + 1) f (by omega) (by omega) (by omega)]
    show _ = some (if v (i - 1) 3 + g ≤ v i 3 then gF v g k (i + 1) else 0)
    split <;> rfl
theorem grd_iff {a b g : Int32} (ha : inI a 1 9) (hb : inI b 1 9) (hg : inI g 0 9) : a - b < g ↔ ¬ b + g ≤ a := by
  have e1 := tI_sub (x := a) (y := b) (by unfold inI at *; omega) (by unfold inI at *; omega)
  have e2 := tI_add (x := b) (y := g) (by unfold inI at *; omega) (by unfold inI at *; omega)
  rw [Int32.lt_iff_toInt_lt, Int32.le_iff_toInt_le, e1, e2]
  omega
theorem gradeM_eq (v : R2) (ms : Nat → Int32) (g : Int32) {n : Nat} (hn : n ≤ 4) (hM : ms 0 = nI n) (hF : FR n v ms) (hR : RG n v) (hg : inI g 0 9) : ∀ (k i f : Nat) (a : Int32), a = 0 ∨ a = 1 → 0 < i → i + k = n → k < f → zloop (b_X8_graded_21 ms g 0) f (a, nI i) = some ((if a = 0 then 0 else gF v g k i), 0) := by
  intro k
  induction k with
  | zero =>
    intro i f a ha h0 hi hf
    obtain ⟨f, rfl⟩ : ∃ g, f = g + 1 := ⟨f - 1, by omega⟩
    show b_X8_graded_21 ms g 0 (zloop (b_X8_graded_21 ms g 0) f) (a, nI i) = _
    unfold b_X8_graded_21
    dsimp only
    rw [z0i, zg_t, z0k, hM, if_pos (nI_le (by omega) (by omega))]
    rcases ha with h | h <;> subst h <;> rfl
  | succ k ih =>
    intro i f a ha h0 hi hf
    obtain ⟨f, rfl⟩ : ∃ g, f = g + 1 := ⟨f - 1, by omega⟩
    have h1 : b_X8_graded_21 ms g 0 (zloop (b_X8_graded_21 ms g 0) f) (a, nI i) = zloop (b_X8_graded_21 ms g 0) f ((if a = 0 then 0 else if v (i - 1) 3 + g ≤ v i 3 then 1 else 0), nI (i + 1)) := by
      generalize zloop (b_X8_graded_21 ms g 0) f = rc
      unfold b_X8_graded_21 j_X8_graded_58 j_X8_graded_59
      dsimp only
      have f3 : ms (6 + 12 * i + 3) = v i 3 := (hF i (by omega) 3 (by decide)).symm
      have f3' : ms (6 + 12 * (i - 1) + 3) = v (i - 1) 3 := (hF (i - 1) (by omega) 3 (by decide)).symm
      rw [z0i, zg_t, z0k, hM, if_neg (nI_ge (show i < n by omega) (by omega)), sub1 h0, of_3 ms (show i < 4 by omega), of_3 ms (show i - 1 < 4 by omega), f3, f3', nI_1, zbd_s, zbd_s, zlet_d, zlet_d]
      by_cases h : a = 0
      · rw [if_pos h, if_pos h]
      · rw [if_neg h, if_neg h]
        have hq := grd_iff (hR i (by omega)).2.2.2.1 (hR (i - 1) (by omega)).2.2.2.1 hg
        by_cases h2 : v (i - 1) 3 + g ≤ v i 3
        · rw [if_neg (fun z => hq.mp z h2), if_pos h2]
        · rw [if_pos (hq.mpr h2), if_neg h2]
    show b_X8_graded_21 ms g 0 (zloop (b_X8_graded_21 ms g 0) f) (a, nI i) = _
    rw [h1, ih (i + 1) f _ (by split; exact Or.inl rfl; split; exact Or.inr rfl; exact Or.inl rfl) (by omega) (by omega) (by omega)]
    show _ = some ((if a = 0 then 0 else if v (i - 1) 3 + g ≤ v i 3 then gF v g k (i + 1) else 0), _)
    by_cases h : a = 0
    · rw [if_pos h, if_pos h, if_pos rfl]
    · rw [if_neg h, if_neg h]
      by_cases h2 : v (i - 1) 3 + g ≤ v i 3
      · rw [if_pos h2, if_pos h2, if_neg ne10]
      · rw [if_neg h2, if_neg h2, if_pos rfl]
theorem st_graded {tl : Nat → Int32} {tn pn pz : Int32} {pl : Nat → R2} {v u : R2} {m1 m2 : Int32} {mb ms mp : Nat → Int32} (h : RR tl tn pn pz pl v u m1 m2 mb ms mp) (x : Int32) : ∃ o o', f_X7_graded v x = some o ∧ f_X8_graded ms x = some o' ∧ o = o'.1 := by
  obtain ⟨-, ⟨n, t, T, ht, hL⟩, -, -⟩ := h
  unfold f_X7_graded f_X8_graded f_X7_isGrade f_X8_in
  rw [zlet_d]
  by_cases c1 : x < 0
  · rw [if_pos c1, zbd_s, zbd_s, if_pos rfl, if_pos rfl]; exact ⟨_, _, rfl, rfl, rfl⟩
  · rw [if_neg c1]
    by_cases c2 : 9 < x
    · rw [if_pos c2, zbd_s, zbd_s, if_pos rfl, if_pos rfl]; exact ⟨_, _, rfl, rfl, rfl⟩
    · rw [if_neg c2, zbd_s, zbd_s, if_neg ne10, if_neg ne10]
      have hg := inI_of (x := x) (a := 0) (b := 9) (p := 0) (q := 9) (by decide) (by decide) c1 c2
      have e1 := gradeC_eq v x hL.1.2 hL.2.1.1 (n - 1) 1 1000 (by decide) (by have := hL.1; omega) (by have := hL.1; omega)
      have e2 := gradeM_eq v ms x hL.1.2 hL.2.1.2 hL.2.2.2.2.2.2.1 hL.2.2.2.2.2.2.2.2.1 hg (n - 1) 1 1000 1 (Or.inr rfl) (by decide) (by have := hL.1; omega) (by have := hL.1; omega)
      refine ⟨_, _, e1, e2, ?_⟩
      show gF v x (n - 1) 1 = if (1 : Int32) = 0 then 0 else gF v x (n - 1) 1
      rw [if_neg ne10]
/-- the wait graded up to a stage -/
def waF (v : R2) (g : Int32) : Nat → Nat → Int32 → Int32
  | 0, _, w => w
  | k + 1, i, w => waF v g k (i + 1) (zmax (v i 3) (w + g))
theorem waitC_eq (v : R2) (g : Int32) {n a : Nat} (hn : n ≤ 4) (ha : a < n) : ∀ (k i f : Nat) (w : Int32), i + k = a + 1 → k < f → zloop (b_X7_waits_36 v (nI a) g) f (w, nI i) = some (waF v g k i w) := by
  intro k
  induction k with
  | zero =>
    intro i f w hi hf
    obtain ⟨f, rfl⟩ : ∃ g, f = g + 1 := ⟨f - 1, by omega⟩
    show b_X7_waits_36 v (nI a) g (zloop (b_X7_waits_36 v (nI a) g) f) (w, nI i) = _
    unfold b_X7_waits_36
    dsimp only
    rw [if_pos (nI_lt (by omega) (by omega))]
    rfl
  | succ k ih =>
    intro i f w hi hf
    obtain ⟨f, rfl⟩ : ∃ g, f = g + 1 := ⟨f - 1, by omega⟩
    have h1 : b_X7_waits_36 v (nI a) g (zloop (b_X7_waits_36 v (nI a) g) f) (w, nI i) = zloop (b_X7_waits_36 v (nI a) g) f (zmax (v i 3) (w + g), nI (i + 1)) := by
      generalize zloop (b_X7_waits_36 v (nI a) g) f = rc
      unfold b_X7_waits_36
      dsimp only
      rw [if_neg (nI_nlt (by omega) (by omega)), z4 (show i < 4 by omega), zg_t, n4 (show i < 4 by omega), zlet_d, zlet_d, nI_1]
    exact h1.trans (ih (i + 1) f _ (by omega) (by omega))
theorem waitM_eq (v : R2) (ms : Nat → Int32) (g : Int32) {n a : Nat} (hn : n ≤ 4) (ha : a < n) (hF : FR n v ms) : ∀ (k i f : Nat) (w : Int32), i + k = a + 1 → k < f → zloop (b_X8_waitOf_10 ms (nI a) g) f (w, nI i) = some (waF v g k i w) := by
  intro k
  induction k with
  | zero =>
    intro i f w hi hf
    obtain ⟨f, rfl⟩ : ∃ g, f = g + 1 := ⟨f - 1, by omega⟩
    show b_X8_waitOf_10 ms (nI a) g (zloop (b_X8_waitOf_10 ms (nI a) g) f) (w, nI i) = _
    unfold b_X8_waitOf_10
    dsimp only
    rw [if_pos (nI_lt (by omega) (by omega))]
    rfl
  | succ k ih =>
    intro i f w hi hf
    obtain ⟨f, rfl⟩ : ∃ g, f = g + 1 := ⟨f - 1, by omega⟩
    have h1 : b_X8_waitOf_10 ms (nI a) g (zloop (b_X8_waitOf_10 ms (nI a) g) f) (w, nI i) = zloop (b_X8_waitOf_10 ms (nI a) g) f (zmax (v i 3) (w + g), nI (i + 1)) := by
      generalize zloop (b_X8_waitOf_10 ms (nI a) g) f = rc
      unfold b_X8_waitOf_10 j_X8_waitOf_42
      dsimp only
      have f3 : ms (6 + 12 * i + 3) = v i 3 := (hF i (by omega) 3 (by decide)).symm
      rw [if_neg (nI_nlt (by omega) (by omega)), of_3 ms (show i < 4 by omega), f3, zbd_s, zbd_s, zlet_d, zlet_d, nI_1]
      by_cases c : v i 3 < w + g
      · rw [if_pos (Int32.le_of_lt c), show zmax (v i 3) (w + g) = w + g from if_pos c]
      · rw [show zmax (v i 3) (w + g) = v i 3 from if_neg c]
        by_cases c2 : v i 3 ≤ w + g
        · rw [if_pos c2, Int32.le_antisymm c2 (Int32.not_lt.mp c)]
        · rw [if_neg c2]
    exact h1.trans (ih (i + 1) f _ (by omega) (by omega))
theorem st_waits {tl : Nat → Int32} {tn pn pz : Int32} {pl : Nat → R2} {v u : R2} {m1 m2 : Int32} {mb ms mp : Nat → Int32} (h : RR tl tn pn pz pl v u m1 m2 mb ms mp) (x y : Int32) : ∃ o o', f_X7_waits v x y = some o ∧ f_X8_waits ms x y = some o' ∧ o = o'.1 := by
  obtain ⟨-, ⟨n, t, T, ht, hL⟩, -, -⟩ := h
  unfold f_X7_waits f_X8_waits f_X7_isGrade f_X8_in
  simp only [zlet_d]
  rcases has_eq v hL.1.2 hL.2.1.1 x with ⟨i, hi, rfl, e⟩ | ⟨hx, e⟩
  · have i4 : i < 4 := by have := hL.1; omega
    rw [e, isStage_yes ms hL.1.2 hL.2.1.2 hi, zbd_s, zbd_s, if_neg ne10, if_neg ne10]
    by_cases c1 : y < 0
    · rw [if_pos c1, zbd_s, zbd_s, if_pos rfl, if_pos rfl]; exact ⟨_, _, rfl, rfl, rfl⟩
    · rw [if_neg c1]
      by_cases c2 : 9 < y
      · rw [if_pos c2, zbd_s, zbd_s, if_pos rfl, if_pos rfl]; exact ⟨_, _, rfl, rfl, rfl⟩
      · rw [if_neg c2, zbd_s, zbd_s, if_neg ne10, if_neg ne10]
        have e1 := waitC_eq v y hL.1.2 hi i 1 1000 (v 0 3) (by omega) (by omega)
        have e2 := waitM_eq v ms y hL.1.2 hi hL.2.2.2.2.2.2.1 i 1 1000 (v 0 3) (by omega) (by omega)
        have f3 : ms (6 + 12 * 0 + 3) = v 0 3 := (hL.2.2.2.2.2.2.1 0 (by omega) 3 (by decide)).symm
        have e3 : f_X8_waitOf ms (nI i) y = some (waF v y i 1 (v 0 3)) := by
          unfold f_X8_waitOf
          rw [show f_X8_of ms 0 3 = some (ms (6 + 12 * 0 + 3)) from of_3 ms (i := 0) (by decide), zbd_s, f3]
          exact e2
        rw [e3, zbd_s, show zin 0 4 = true from by decide, zg_t, show zn 0 = 0 from by decide]
        exact ⟨_, _, e1, rfl, rfl⟩
  · rw [e, isStage_no ms hL.1 hL.2.1.2 hx, zbd_s, zbd_s, if_pos rfl, if_pos rfl]
    exact ⟨_, _, rfl, rfl, rfl⟩
theorem zmin20 {T : Nat} (hT : T < 2 ^ 31) : zmin (nI T) 20 = nI (min T 20) := by
  show (if (20 : Int32) < nI T then (20 : Int32) else nI T) = _
  by_cases h : 20 < T
  · have h1 : (20 : Int32) < nI T := nI_lt (a := 20) h hT
    rw [if_pos h1, show min T 20 = 20 by omega]
    rfl
  · have h1 : ¬ (20 : Int32) < nI T := nI_nlt (a := 20) (b := T) (by omega) (by decide)
    rw [if_neg h1, show min T 20 = T by omega]
theorem st_done {tl : Nat → Int32} {tn pn pz : Int32} {pl : Nat → R2} {v u : R2} {m1 m2 : Int32} {mb ms mp : Nat → Int32} (h : RR tl tn pn pz pl v u m1 m2 mb ms mp) (x y : Int32) : ∃ o o', f_X7_done v x y = some o ∧ f_X8_done ms x y = some o' ∧ o = o'.1 := by
  obtain ⟨-, ⟨n, t, T, ht, hL⟩, -, -⟩ := h
  have hT : T ≤ 41600 := by have := hL.2.2.1; omega
  have h8 : v 8 0 = nI T := hL.2.2.1.2.2.2.2.1
  obtain ⟨l1, l2⟩ := hL.2.2.2.2.2.1
  have k5 : zn 5 = 5 := by decide
  have i5 : zin 5 114 = true := by decide
  unfold f_X7_done f_X8_done f_X8_in f_X5_valueOf f_X5_told
  simp only [zlet_d]
  by_cases c0 : x < 0
  · rw [if_pos c0, if_pos c0]; exact ⟨_, _, rfl, rfl, rfl⟩
  · rw [if_neg c0, if_neg c0, if_neg c0]
    by_cases c1 : y < 0
    · rw [if_pos c1, if_pos c1, zbd_s, if_pos rfl]
      refine ⟨-1, (-1, 0), rfl, ?_, rfl⟩
      rfl
    · rw [if_neg c1, if_neg c1]
      by_cases c2 : y ≤ 2
      · have c3 : ¬ (2 : Int32) < y := Int32.not_lt.mpr c2
        rw [if_pos c2, if_neg c3, zbd_s, zbd_s, if_neg ne10, i5, zg_t, zg_t, k5, l1, h8, zmin20 (by omega)]
        by_cases c4 : nI (min T 20) ≤ x
        · have c5 : ¬ x < nI (min T 20) := Int32.not_lt.mpr c4
          rw [if_neg c5, if_pos c4]; exact ⟨_, _, rfl, rfl, rfl⟩
        · rw [if_neg c4]
          rcases pk_ix x (n := min T 20) (by omega) with k | k | ⟨j, hj, rfl⟩
          · exact absurd k c0
          · exact absurd k c4
          · have jT : j < T := by omega
            have e1 : (nI T - 1) - nI j = nI (T - 1 - j) := by rw [sub1 (by omega), pk_sub (by omega)]
            have er : nI (T - 1 - j) - nI (T - 1 - j) / 20 * 20 = nI ((T - 1 - j) % 20) := pk_rem (a := T - 1 - j) (d := 20) (by omega) (by decide) (by decide)
            have e2 : (nI (min T 20) - 1) - nI j = nI (min T 20 - 1 - j) := by rw [sub1 (by omega), pk_sub (by omega)]
            obtain ⟨a1, a2, a3, -, -⟩ := l2 (T - 1 - j) (by omega) (by omega)
            have ei : T - 1 - j + min T 20 - T = min T 20 - 1 - j := by omega
            rw [ei] at a1 a2 a3
            have hm : (T - 1 - j) % 20 < 20 := Nat.mod_lt _ (by decide)
            rw [if_pos (nI_lt hj (by omega)), e1, er, zin_n hm (by decide), zn_n (i := (T - 1 - j) % 20) (by omega), e2, zg_t, zg_t, zg_t]
            have e3 : ∀ c, 54 + 3 * nI (min T 20 - 1 - j) + nI c = nI (54 + 3 * (min T 20 - 1 - j) + c) := fun c => by
              show nI 54 + nI 3 * nI (min T 20 - 1 - j) + nI c = _
              rw [pk_mul, nI_add, nI_add]
            obtain ⟨c, hc, rfl⟩ := nI_of2 (M := 2) (n := 2) (by decide) c1 c2
            rw [e3, zin_n (i := 54 + 3 * (min T 20 - 1 - j) + c) (n := 114) (by omega) (by decide), zg_t, zn_n (i := 54 + 3 * (min T 20 - 1 - j) + c) (by omega)]
            match c, hc with
            | 0, _ =>
              rw [if_pos (by decide), zbd_s]
              exact ⟨_, _, rfl, rfl, a1⟩
            | 1, _ =>
              rw [if_neg (by decide), if_pos (by decide), zbd_s]
              exact ⟨_, _, rfl, rfl, a2⟩
            | 2, _ =>
              rw [if_neg (by decide), if_neg (by decide), zbd_s]
              exact ⟨_, _, rfl, rfl, a3⟩
            | c + 3, hc => exact absurd hc (by omega)
      · have c3 : (2 : Int32) < y := Int32.not_le.mp c2
        rw [if_neg c2, if_pos c3, zbd_s, if_pos rfl]
        refine ⟨-1, (-1, 0), rfl, ?_, rfl⟩
        rfl
