/-! ===== pure: sums over the stages ===== -/
def sumF (h : Nat → Int32) : Nat → Nat → Int32 → Int32
  | 0, _, a => a
  | k + 1, i, a => sumF h k (i + 1) (a + h i)
theorem zloop_sum (b : (Int32 × Int32 → Option Int32) → Int32 × Int32 → Option Int32) (n : Nat) (h : Nat → Int32) (hexit : ∀ (rc : Int32 × Int32 → Option Int32) (a : Int32), b rc (a, nI n) = some a) (hstep : ∀ i, i < n → ∀ (rc : Int32 × Int32 → Option Int32) (a : Int32), b rc (a, nI i) = rc (a + h i, nI (i + 1))) : ∀ (k i f : Nat) (a : Int32), i + k = n → k < f → zloop b f (a, nI i) = some (sumF h k i a) := by
  intro k
  induction k with
  | zero =>
    intro i f a hi hf
    obtain ⟨f, rfl⟩ : ∃ g, f = g + 1 := ⟨f - 1, by omega⟩
    obtain rfl : i = n := by omega
    exact hexit _ a
  | succ k ih =>
    intro i f a hi hf
    obtain ⟨f, rfl⟩ : ∃ g, f = g + 1 := ⟨f - 1, by omega⟩
    exact (hstep i (by omega) (zloop b f) a).trans (ih (i + 1) f (a + h i) (by omega) (by omega))
theorem z0k : zn 0 = 0 := by decide
theorem z0i : zin 0 114 = true := by decide
def gdF (v : R2) (i : Nat) : Int32 := if jF (v i) = 0 then 1 else 0
theorem goodC_eq (v : R2) {n : Nat} (hn : n ≤ 4) (hv : v 9 0 = nI n) : f_X1_goodStages v = some (sumF (gdF v) n 0 0) := by
  unfold f_X1_goodStages
  refine zloop_sum (b_X1_goodStages_4 v) n (gdF v) (fun rc a => ?_) (fun i hi rc a => ?_) n 0 1000 0 (by omega) (by omega)
  · unfold b_X1_goodStages_4
    dsimp only
    rw [hv, if_pos (nI_le (Nat.le_refl n) (by omega))]
  · unfold b_X1_goodStages_4 j_X1_goodStages_30 gdF
    dsimp only
    rw [hv, if_neg (nI_ge hi (by omega)), z4 (show i < 4 by omega), zg_t, n4 (show i < 4 by omega), jF_eq, zbd_s, nI_1]
    split <;> rfl
theorem goodM_eq (v : R2) (M mo : Nat → Int32) {n : Nat} (hn : n ≤ 4) (hM : M 0 = nI n) (hF : FR n v M) (ho : ∀ i, i < n → mo i = v i 14) : f_X8_good M mo = some (sumF (gdF v) n 0 0) := by
  unfold f_X8_good
  refine zloop_sum (b_X8_good_4 M mo) n (gdF v) (fun rc a => ?_) (fun i hi rc a => ?_) n 0 1000 0 (by omega) (by omega)
  · unfold b_X8_good_4
    dsimp only
    rw [z0i, zg_t, z0k, hM, if_pos (nI_le (Nat.le_refl n) (by omega))]
  · unfold b_X8_good_4 j_X8_good_28 gdF
    dsimp only
    rw [z0i, zg_t, z0k, hM, if_neg (nI_ge hi (by omega)), good_eq M mo (show i < 4 by omega) (v i) (hF i hi 1 (by decide)).symm (hF i hi 2 (by decide)).symm (ho i hi), zbd_s, nI_1]
    split <;> rfl
theorem stuckC_eq (v : R2) {n : Nat} (hn : n ≤ 4) (hv : v 9 0 = nI n) (hB : SB v) : f_X1_stuckStages v = some (sumF (fun i => v i 11) n 0 0) := by
  unfold f_X1_stuckStages
  refine zloop_sum (b_X1_stuckStages_4 v) n (fun i => v i 11) (fun rc a => ?_) (fun i hi rc a => ?_) n 0 1000 0 (by omega) (by omega)
  · unfold b_X1_stuckStages_4
    dsimp only
    rw [hv, if_pos (nI_le (Nat.le_refl n) (by omega))]
  · unfold b_X1_stuckStages_4 j_X1_stuckStages_30
    dsimp only
    rw [hv, if_neg (nI_ge hi (by omega)), z4 (show i < 4 by omega), zg_t, n4 (show i < 4 by omega), nI_1]
    rcases hB i (by omega) with h | h
    · rw [h, if_pos rfl]; rfl
    · rw [h, if_neg (by decide)]; rfl
theorem stuckM_eq (v : R2) (M : Nat → Int32) {n : Nat} (hn : n ≤ 4) (hM : M 0 = nI n) (hF : FR n v M) : f_X8_stuck M = some (sumF (fun i => v i 11) n 0 0) := by
  unfold f_X8_stuck
  refine zloop_sum (b_X8_stuck_4 M) n (fun i => v i 11) (fun rc a => ?_) (fun i hi rc a => ?_) n 0 1000 0 (by omega) (by omega)
  · unfold b_X8_stuck_4
    dsimp only
    rw [z0i, zg_t, z0k, hM, if_pos (nI_le (Nat.le_refl n) (by omega))]
  · unfold b_X8_stuck_4
    dsimp only
    have f8 : M (6 + 12 * i + 8) = v i 11 := (hF i hi 11 (by decide)).symm
    rw [z0i, zg_t, z0k, hM, if_neg (nI_ge hi (by omega)), of_8 M (show i < 4 by omega), zbd_s, f8, nI_1]
    rfl
def ofF (v : R2) (i : Nat) : Int32 := zabs (v i 14 - v i 1)
theorem offC_eq (v : R2) {n : Nat} (hn : n ≤ 4) (hv : v 9 0 = nI n) : f_X1_off v = some (sumF (ofF v) n 0 0) := by
  unfold f_X1_off
  refine zloop_sum (b_X1_off_4 v) n (ofF v) (fun rc a => ?_) (fun i hi rc a => ?_) n 0 1000 0 (by omega) (by omega)
  · unfold b_X1_off_4
    dsimp only
    rw [hv, if_pos (nI_le (Nat.le_refl n) (by omega))]
  · unfold b_X1_off_4 f_X4_off ofF
    dsimp only
    rw [hv, if_neg (nI_ge hi (by omega)), z4 (show i < 4 by omega), zg_t, n4 (show i < 4 by omega), zbd_s, nI_1]
    rfl
theorem neg0 (x : Int32) : -x = 0 - x := by
  first
    | exact (Int32.zero_sub x).symm
    | simp
theorem offM_eq (v : R2) (M mo : Nat → Int32) {n : Nat} (hn : n ≤ 4) (hM : M 0 = nI n) (hF : FR n v M) (ho : ∀ i, i < n → mo i = v i 14) : f_X8_offOf M mo = some (sumF (ofF v) n 0 0) := by
  unfold f_X8_offOf
  refine zloop_sum (b_X8_offOf_4 M mo) n (ofF v) (fun rc a => ?_) (fun i hi rc a => ?_) n 0 1000 0 (by omega) (by omega)
  · unfold b_X8_offOf_4
    dsimp only
    rw [z0i, zg_t, z0k, hM, if_pos (nI_le (Nat.le_refl n) (by omega))]
  · unfold b_X8_offOf_4 j_X8_offOf_39 ofF
    dsimp only
    have f1 : M (6 + 12 * i + 1) = v i 1 := (hF i hi 1 (by decide)).symm
    rw [z0i, zg_t, z0k, hM, if_neg (nI_ge hi (by omega)), z4 (show i < 4 by omega), zg_t, of_1 M (show i < 4 by omega), zbd_s, n4 (show i < 4 by omega), f1, ho i hi, zlet_d, nI_1, neg0]
    by_cases h : 0 ≤ v i 14 - v i 1
    · rw [if_pos h]
      show rc _ = rc (a + (if 0 ≤ v i 14 - v i 1 then _ else _), _)
      rw [if_pos h]
    · rw [if_neg h]
      show rc _ = rc (a + (if 0 ≤ v i 14 - v i 1 then _ else _), _)
      rw [if_neg h]
/-- quiet from stage i on -/
def qF (v : R2) : Nat → Nat → Int32
  | 0, _ => 1
  | k + 1, i => if cF (v i) = 0 then qF v k (i + 1) else 0
theorem quietC_eq (v : R2) {n : Nat} (hn : n ≤ 4) (hv : v 9 0 = nI n) : f_X1_isQuiet v = some (qF v n 0) := by
  have key : ∀ (k i f : Nat), i + k = n → k < f → zloop (b_X1_isQuiet_2 v) f (nI i) = some (qF v k i) := by
    intro k
    induction k with
    | zero =>
      intro i f hi hf
      obtain ⟨f, rfl⟩ : ∃ g, f = g + 1 := ⟨f - 1, by omega⟩
      show b_X1_isQuiet_2 v (zloop (b_X1_isQuiet_2 v) f) (nI i) = _
      unfold b_X1_isQuiet_2
      rw [hv, if_pos (nI_le (by omega) (by omega))]
      rfl
    | succ k ih =>
      intro i f hi hf
      obtain ⟨f, rfl⟩ : ∃ g, f = g + 1 := ⟨f - 1, by omega⟩
      have h1 : b_X1_isQuiet_2 v (zloop (b_X1_isQuiet_2 v) f) (nI i) = if cF (v i) = 0 then zloop (b_X1_isQuiet_2 v) f (nI (i + 1)) else some 0 := by
        generalize zloop (b_X1_isQuiet_2 v) f = rc
        unfold b_X1_isQuiet_2
        rw [hv, if_neg (nI_ge (show i < n by omega) (by omega)), z4 (show i < 4 by omega), zg_t, n4 (show i < 4 by omega), cF_eq, zbd_s, zlet_d, nI_1]
      show b_X1_isQuiet_2 v (zloop (b_X1_isQuiet_2 v) f) (nI i) = _
      rw [h1, ih (i + 1) f (by omega) (by omega)]
      show _ = some (if cF (v i) = 0 then qF v k (i + 1) else 0)
      split <;> rfl
  exact key n 0 1000 (by omega) (by omega)
theorem quietM_eq (v : R2) (M mn : Nat → Int32) {n : Nat} (hn : n ≤ 4) (hM : M 0 = nI n) (ho : ∀ i, i < n → mn i = cF (v i)) : f_X8_isQuiet M mn = some (qF v n 0) := by
  have key : ∀ (k i f : Nat) (a : Int32), a = 0 ∨ a = 1 → i + k = n → k < f → zloop (b_X8_isQuiet_4 M mn) f (a, nI i) = some (if a = 0 then 0 else qF v k i) := by
    intro k
    induction k with
    | zero =>
      intro i f a ha hi hf
      obtain ⟨f, rfl⟩ : ∃ g, f = g + 1 := ⟨f - 1, by omega⟩
      show b_X8_isQuiet_4 M mn (zloop (b_X8_isQuiet_4 M mn) f) (a, nI i) = _
      unfold b_X8_isQuiet_4
      dsimp only
      rw [z0i, zg_t, z0k, hM, if_pos (nI_le (by omega) (by omega))]
      rcases ha with h | h <;> subst h <;> rfl
    | succ k ih =>
      intro i f a ha hi hf
      obtain ⟨f, rfl⟩ : ∃ g, f = g + 1 := ⟨f - 1, by omega⟩
      have h1 : b_X8_isQuiet_4 M mn (zloop (b_X8_isQuiet_4 M mn) f) (a, nI i) = zloop (b_X8_isQuiet_4 M mn) f ((if a = 0 then 0 else if cF (v i) = 0 then 1 else 0), nI (i + 1)) := by
        generalize zloop (b_X8_isQuiet_4 M mn) f = rc
        unfold b_X8_isQuiet_4 j_X8_isQuiet_31 j_X8_isQuiet_32
        dsimp only
        rw [z0i, zg_t, z0k, hM, if_neg (nI_ge (show i < n by omega) (by omega)), z4 (show i < 4 by omega), zg_t, n4 (show i < 4 by omega), ho i (by omega), nI_1]
        by_cases h : a = 0
        · rw [if_pos h, if_pos h]; rfl
        · rw [if_neg h, if_neg h]
          split <;> rfl
      show b_X8_isQuiet_4 M mn (zloop (b_X8_isQuiet_4 M mn) f) (a, nI i) = _
      rw [h1, ih (i + 1) f _ (by split; exact Or.inl rfl; split; exact Or.inr rfl; exact Or.inl rfl) (by omega) (by omega)]
      show _ = some (if a = 0 then 0 else if cF (v i) = 0 then qF v k (i + 1) else 0)
      by_cases h : a = 0
      · rw [if_pos h, if_pos h, if_pos rfl]
      · rw [if_neg h, if_neg h]
        by_cases h2 : cF (v i) = 0
        · rw [if_pos h2, if_pos h2, if_neg (by decide)]
        · rw [if_neg h2, if_neg h2, if_pos rfl]
  have := key n 0 1000 1 (Or.inr rfl) (by omega) (by omega)
  rw [if_neg (by decide)] at this
  exact this
