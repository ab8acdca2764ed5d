/-! ===== pure: settle ===== -/
theorem inI_nI {x : Int32} {b : Nat} (h : inI x 0 b) (hb : b < 2 ^ 31) : ∃ j : Nat, j ≤ b ∧ x = nI j := by
  refine ⟨x.toInt.toNat, by unfold inI at h; omega, Int32.toInt_inj.mp ?_⟩
  rw [nI_toInt (by unfold inI at h; omega)]
  unfold inI at h
  omega
theorem tap5 {x : Int32} (h : inI x (-5) 5) : ∃ j : Nat, j ≤ 10 ∧ x + 5 = nI j := by
  have k5 : (5 : Int32).toInt = 5 := by decide
  have := tI_add (x := x) (y := 5) (by rw [k5]; unfold inI at h; omega) (by rw [k5]; unfold inI at h; omega)
  rw [k5] at this
  exact inI_nI (b := 10) (by unfold inI at h ⊢; omega) (by decide)
theorem l_shl {X k : Nat} (s : Int64) (hs : (s.toBitVec.smod 64).toNat = k) (h : X * 2 ^ k < 2 ^ 64) : lN X <<< s = lN (X * 2 ^ k) := by
  apply Int64.toBitVec_inj.mp
  apply BitVec.eq_of_toNat_eq
  have hX : X < 2 ^ 64 := Nat.lt_of_le_of_lt (Nat.le_mul_of_pos_right X (Nat.two_pow_pos k)) h
  have e : ∀ n, n < 2 ^ 64 → (lN n).toBitVec.toNat = n := fun n hn => by
    show (BitVec.ofNat 64 n).toNat = n
    rw [BitVec.toNat_ofNat, Nat.mod_eq_of_lt hn]
  have e1 : (lN X <<< s).toBitVec.toNat = (lN X).toBitVec.toNat * 2 ^ k % 2 ^ 64 := by
    show ((lN X).toBitVec <<< (s.toBitVec.smod 64).toNat).toNat = _
    rw [hs, BitVec.toNat_shiftLeft, Nat.shiftLeft_eq]
  rw [e1, e X hX, e _ h, Nat.mod_eq_of_lt h]
theorem l_or (A B : Nat) : lN A ||| lN B = lN (A ||| B) := by
  apply Int64.toBitVec_inj.mp
  show BitVec.ofNat 64 A ||| BitVec.ofNat 64 B = BitVec.ofNat 64 (A ||| B)
  exact BitVec.ofNat_or.symm
theorem sh4 : ((Int32.toInt64 4 &&& 63 : Int64).toBitVec.smod 64).toNat = 4 := by decide
theorem sh2 : ((Int32.toInt64 2 &&& 63 : Int64).toBitVec.smod 64).toNat = 2 := by decide
theorem pk_stepC {X a b c : Nat} (hX : X < 2 ^ 48) (ha : a < 16) (hb : b < 16) (hc : c < 4) : ((((lN X <<< (Int32.toInt64 4 &&& 63)) ||| lN a) <<< (Int32.toInt64 4 &&& 63) ||| lN b) <<< (Int32.toInt64 2 &&& 63)) ||| lN c = lN (X * 1024 + a * 64 + b * 4 + c) := by
  have o4 : ∀ Y d, d < 16 → Y * 2 ^ 4 ||| d = Y * 16 + d := fun Y d hd => by
    have := Nat.shiftLeft_add_eq_or_of_lt (i := 4) (b := d) hd Y
    rw [Nat.shiftLeft_eq] at this
    exact this.symm
  have o2 : ∀ Y d, d < 4 → Y * 2 ^ 2 ||| d = Y * 4 + d := fun Y d hd => by
    have := Nat.shiftLeft_add_eq_or_of_lt (i := 2) (b := d) hd Y
    rw [Nat.shiftLeft_eq] at this
    exact this.symm
  rw [l_shl _ sh4 (by omega), l_or, o4 _ _ ha, l_shl _ sh4 (by omega), l_or, o4 _ _ hb, l_shl _ sh2 (by omega), l_or, o2 _ _ hc]
  congr 1
  omega
def pkN (v : R2) : Nat → Nat → Nat → Nat
  | 0, _, X => X
  | k + 1, i, X => pkN v k (i + 1) (X * 1024 + zn (v i 7 + 5) * 64 + zn (v i 8) * 4 + zn (v i 9))
theorem pk_row {g : Nat → Int32} (h : RGr g) : (zn (g 7 + 5) ≤ 10 ∧ g 7 + 5 = nI (zn (g 7 + 5))) ∧ (zn (g 8) ≤ 9 ∧ g 8 = nI (zn (g 8))) ∧ (zn (g 9) ≤ 2 ∧ g 9 = nI (zn (g 9))) := by
  obtain ⟨a, a1, a2⟩ := tap5 h.2.2.2.2.2.2.2.1
  obtain ⟨b, b1, b2⟩ := inI_nI (b := 9) h.2.2.2.2.2.2.2.2.1 (by decide)
  obtain ⟨c, c1, c2⟩ := inI_nI (b := 2) h.2.2.2.2.2.2.2.2.2.1 (by decide)
  rw [a2, b2, c2, zn_n (i := a) (by omega), zn_n (i := b) (by omega), zn_n (i := c) (by omega)]
  exact ⟨⟨a1, rfl⟩, ⟨b1, rfl⟩, c1, rfl⟩
theorem packed_eq (v : R2) {n : Nat} (hn : n ≤ 4) (hv : v 9 0 = nI n) (hR : RG n v) : ∀ (k i f X : Nat), i + k = n → k < f → X < 1024 ^ i → zloop (b_X1_packed_4 v) f (lN X, nI i) = some (lN (pkN v k i X)) := by
  intro k
  induction k with
  | zero =>
    intro i f X hi hf hX
    obtain ⟨f, rfl⟩ : ∃ g, f = g + 1 := ⟨f - 1, by omega⟩
    show b_X1_packed_4 v (zloop (b_X1_packed_4 v) f) (lN X, nI i) = _
    unfold b_X1_packed_4
    dsimp only
    rw [hv, if_pos (nI_le (by omega) (by omega))]
    rfl
  | succ k ih =>
    intro i f X hi hf hX
    obtain ⟨f, rfl⟩ : ∃ g, f = g + 1 := ⟨f - 1, by omega⟩
    obtain ⟨⟨a1, a2⟩, ⟨b1, b2⟩, c1, c2⟩ := pk_row (hR i (by omega))
    have hX4 : X < 2 ^ 48 := Nat.lt_of_lt_of_le hX (Nat.le_trans (Nat.pow_le_pow_right (by decide) (show i ≤ 4 by omega)) (by decide))
    have h1 : b_X1_packed_4 v (zloop (b_X1_packed_4 v) f) (lN X, nI i) = zloop (b_X1_packed_4 v) f (lN (X * 1024 + zn (v i 7 + 5) * 64 + zn (v i 8) * 4 + zn (v i 9)), nI (i + 1)) := by
      generalize zloop (b_X1_packed_4 v) f = rc
      generalize zn (v i 7 + 5) = a at *
      generalize zn (v i 8) = b at *
      generalize zn (v i 9) = c at *
      unfold b_X1_packed_4
      dsimp only
      rw [hv, if_neg (nI_ge (show i < n by omega) (by omega)), z4 (show i < 4 by omega), zg_t, n4 (show i < 4 by omega)]
      simp only [zlet_d]
      rw [a2, b2, c2, nI_l (by omega), nI_l (by omega), nI_l (by omega), nI_1, pk_stepC hX4 (by omega) (by omega) (by omega)]
    refine h1.trans (ih (i + 1) f _ (by omega) (by omega) ?_)
    rw [Nat.pow_succ]
    omega
theorem codeOf_eq (v : R2) (ms : Nat → Int32) {n : Nat} (hn : n ≤ 4) (hM : ms 0 = nI n) (hF : FR n v ms) (hR : RG n v) : ∀ (k i f X : Nat), i + k = n → k < f → zloop (b_X8_codeOf_4 ms) f (lN X, nI i) = some (lN (pkN v k i X)) := by
  intro k
  induction k with
  | zero =>
    intro i f X hi hf
    obtain ⟨f, rfl⟩ : ∃ g, f = g + 1 := ⟨f - 1, by omega⟩
    show b_X8_codeOf_4 ms (zloop (b_X8_codeOf_4 ms) f) (lN X, nI i) = _
    unfold b_X8_codeOf_4
    dsimp only
    rw [z0i, zg_t, z0k, hM, if_pos (nI_le (by omega) (by omega))]
    rfl
  | succ k ih =>
    intro i f X hi hf
    obtain ⟨f, rfl⟩ : ∃ g, f = g + 1 := ⟨f - 1, by omega⟩
    obtain ⟨⟨a1, a2⟩, ⟨b1, b2⟩, c1, c2⟩ := pk_row (hR i (by omega))
    have h1 : b_X8_codeOf_4 ms (zloop (b_X8_codeOf_4 ms) f) (lN X, nI i) = zloop (b_X8_codeOf_4 ms) f (lN (X * 1024 + zn (v i 7 + 5) * 64 + zn (v i 8) * 4 + zn (v i 9)), nI (i + 1)) := by
      generalize zloop (b_X8_codeOf_4 ms) f = rc
      have f7 : ms (6 + 12 * i + 7) = v i 7 := (hF i (by omega) 7 (by decide)).symm
      have f9 : ms (6 + 12 * i + 9) = v i 8 := (hF i (by omega) 8 (by decide)).symm
      have f10 : ms (6 + 12 * i + 10) = v i 9 := (hF i (by omega) 9 (by decide)).symm
      generalize zn (v i 7 + 5) = a at *
      generalize zn (v i 8) = b at *
      generalize zn (v i 9) = c at *
      unfold b_X8_codeOf_4
      dsimp only
      rw [z0i, zg_t, z0k, hM, if_neg (nI_ge (show i < n by omega) (by omega)), of_7 ms (show i < 4 by omega), zbd_s, of_9 ms (show i < 4 by omega), zbd_s, of_10 ms (show i < 4 by omega), zbd_s, f7, f9, f10]
      simp only [zlet_d]
      have e1 : nI a * 64 = nI (a * 64) := pk_mul a 64
      have e2 : nI b * 4 = nI (b * 4) := pk_mul b 4
      rw [a2, b2, c2, e1, e2, nI_l (by omega), nI_l (by omega), nI_l (by omega), nI_1, show (1024 : Int64) = lN 1024 from rfl, lN_mul, lN_add, lN_add, lN_add]
    exact h1.trans (ih (i + 1) f _ (by omega) (by omega))
/-- the first place from m on that is like place k -/
def flF (a : Nat → Int64) (k : Nat) : Nat → Nat → Nat
  | 0, m => m
  | r + 1, m => if a m = a k then m else flF a k r (m + 1)
theorem flF_le (a : Nat → Int64) (k : Nat) : ∀ r m, m + r = k → flF a k r m ≤ k := by
  intro r
  induction r with
  | zero => intro m h; show m ≤ k; omega
  | succ r ih =>
    intro m h
    show (if a m = a k then m else flF a k r (m + 1)) ≤ k
    split
    · omega
    · exact ih (m + 1) (by omega)
theorem flF_eqv {a b : Nat → Int64} {k : Nat} (h : ∀ m, m ≤ k → a m = b m) : ∀ r m, m + r = k → flF a k r m = flF b k r m := by
  intro r
  induction r with
  | zero => intro m _; rfl
  | succ r ih =>
    intro m hm
    show (if a m = a k then m else flF a k r (m + 1)) = (if b m = b k then m else flF b k r (m + 1))
    rw [h m (by omega), h k (Nat.le_refl k), ih (m + 1) (by omega)]
theorem firstLike_eq (sn : Nat → Int64) {k : Nat} (hk : k ≤ 300) : ∀ (r m f : Nat), m + r = k → r < f → zloop (b_X0_firstLike_2 sn (nI k)) f (nI m) = some (nI (flF sn k r m)) := by
  intro r
  induction r with
  | zero =>
    intro m f hm hf
    obtain ⟨f, rfl⟩ : ∃ g, f = g + 1 := ⟨f - 1, by omega⟩
    obtain rfl : m = k := by omega
    show b_X0_firstLike_2 sn (nI m) (zloop (b_X0_firstLike_2 sn (nI m)) f) (nI m) = _
    unfold b_X0_firstLike_2
    rw [if_pos (Int32.le_refl _)]
    rfl
  | succ r ih =>
    intro m f hm hf
    obtain ⟨f, rfl⟩ : ∃ g, f = g + 1 := ⟨f - 1, by omega⟩
    have h1 : b_X0_firstLike_2 sn (nI k) (zloop (b_X0_firstLike_2 sn (nI k)) f) (nI m) = if sn m = sn k then some (nI m) else zloop (b_X0_firstLike_2 sn (nI k)) f (nI (m + 1)) := by
      generalize zloop (b_X0_firstLike_2 sn (nI k)) f = rc
      unfold b_X0_firstLike_2
      rw [if_neg (nI_ge (show m < k by omega) (by omega)), zin_n (i := m) (n := 301) (by omega) (by decide), zin_n (i := k) (n := 301) (by omega) (by decide), zg_t, zg_t, zn_n (i := m) (by omega), zn_n (i := k) (by omega), zlet_d, nI_1]
      by_cases c : sn m = sn k
      · rw [if_pos c, if_pos ((lg_cmp_eq _ _).mpr c)]
      · rw [if_neg c, if_neg (fun q => c ((lg_cmp_eq _ _).mp q))]
    show b_X0_firstLike_2 sn (nI k) (zloop (b_X0_firstLike_2 sn (nI k)) f) (nI m) = _
    rw [h1]
    show _ = some (nI (if sn m = sn k then m else flF sn k r (m + 1)))
    by_cases c : sn m = sn k
    · rw [if_pos c, if_pos c]
    · rw [if_neg c, if_neg c]
      exact ih (m + 1) f (by omega) (by omega)
theorem nI_nm4 {k : Nat} (h : k < 2 ^ 31) : ¬ nI k = (-4 : Int32) := fun e => nI_pos h (by rw [e]; decide)
theorem in117_eq (rc : (Int32 × Int32 × Int32 × Int32 × Int32 × (Nat → Int32) × (Nat → Int32) × (Nat → Int32) × (Nat → Int32) × (Nat → Int32) × (Nat → Int32) × (Nat → Int32) × (Nat → Int64) × (Nat → Int32)) → Option (Int32 × Int32 × Int32 × Int32 × (Nat → Int32) × (Nat → Int32) × (Nat → Int32) × (Nat → Int32) × (Nat → Int32) × (Nat → Int32) × (Nat → Int32) × (Nat → Int64) × (Nat → Int32) × (Nat → Int32))) (s : Int32 × Int32 × Int32 × Int32 × Int32 × (Nat → Int32) × (Nat → Int32) × (Nat → Int32) × (Nat → Int32) × (Nat → Int32) × (Nat → Int32) × (Nat → Int32) × (Nat → Int64) × (Nat → Int32)) (N mk mf mi mo mw mn : Nat → Int32) (mt : Nat → Int64) (mq : Nat → Int32) {k : Nat} (hk : k ≤ 300) (hs : s.1 = nI k) : ∀ (r m f : Nat) (c d : Int32), m + r = k → r + 1 < f → zloop (b_X8_settles_117 rc s N mk mf mi mo mw mn (-4) mt mq) f (nI m, -4, c, d) = if flF mt k r m < k then j_X8_settles_191 rc s N mk mf mi mo mw mn (-4) mt mq (nI (flF mt k r m)) (nI k - nI (flF mt k r m)) (mq k - mq (flF mt k r m)) else j_X8_settles_191 rc s N mk mf mi mo mw mn (-4) mt mq (-4) c d := by
  intro r
  induction r with
  | zero =>
    intro m f c d hm hf
    obtain ⟨f, rfl⟩ : ∃ g, f = g + 1 := ⟨f - 1, by omega⟩
    obtain rfl : m = k := by omega
    show b_X8_settles_117 rc s N mk mf mi mo mw mn (-4) mt mq (zloop (b_X8_settles_117 rc s N mk mf mi mo mw mn (-4) mt mq) f) (nI m, -4, c, d) = _
    unfold b_X8_settles_117
    dsimp only
    rw [hs, if_pos (Int32.le_refl _), if_neg (show ¬ flF mt m 0 m < m from by show ¬ m < m; omega)]
  | succ r ih =>
    intro m f c d hm hf
    obtain ⟨f, rfl⟩ : ∃ g, f = g + 1 := ⟨f - 1, by omega⟩
    have h1 : b_X8_settles_117 rc s N mk mf mi mo mw mn (-4) mt mq (zloop (b_X8_settles_117 rc s N mk mf mi mo mw mn (-4) mt mq) f) (nI m, -4, c, d) = if mt m = mt k then zloop (b_X8_settles_117 rc s N mk mf mi mo mw mn (-4) mt mq) f (nI (m + 1), nI m, nI k - nI m, mq k - mq m) else zloop (b_X8_settles_117 rc s N mk mf mi mo mw mn (-4) mt mq) f (nI (m + 1), -4, c, d) := by
      generalize zloop (b_X8_settles_117 rc s N mk mf mi mo mw mn (-4) mt mq) f = rc2
      unfold b_X8_settles_117 j_X8_settles_185
      dsimp only
      rw [hs, if_neg (nI_ge (show m < k by omega) (by omega)), if_pos rfl, if_pos rfl, zin_n (i := m) (n := 301) (by omega) (by decide), zin_n (i := k) (n := 301) (by omega) (by decide), zn_n (i := m) (by omega), zn_n (i := k) (by omega), nI_1]
      simp only [zg_t, zlet_d]
      by_cases c : mt m = mt k
      · rw [if_pos c, if_pos ((lg_cmp_eq _ _).mpr c)]
      · rw [if_neg c, if_neg (fun q => c ((lg_cmp_eq _ _).mp q))]
    show b_X8_settles_117 rc s N mk mf mi mo mw mn (-4) mt mq (zloop (b_X8_settles_117 rc s N mk mf mi mo mw mn (-4) mt mq) f) (nI m, -4, c, d) = _
    rw [h1]
    have hfl : flF mt k (r + 1) m = if mt m = mt k then m else flF mt k r (m + 1) := rfl
    rw [hfl]
    by_cases e : mt m = mt k
    · rw [if_pos e, if_pos e, if_pos (show m < k by omega)]
      obtain ⟨f, rfl⟩ : ∃ g, f = g + 1 := ⟨f - 1, by omega⟩
      show b_X8_settles_117 rc s N mk mf mi mo mw mn (-4) mt mq (zloop (b_X8_settles_117 rc s N mk mf mi mo mw mn (-4) mt mq) f) (nI (m + 1), nI m, nI k - nI m, mq k - mq m) = _
      unfold b_X8_settles_117
      dsimp only
      by_cases e2 : s.1 ≤ nI (m + 1)
      · rw [if_pos e2]
      · rw [if_neg e2, if_pos rfl, if_neg (nI_nm4 (by omega))]
    · rw [if_neg e, if_neg e]
      exact ih (m + 1) f c d (by omega) (by omega)
theorem rest201_eq (mz : Nat → Int32) (a b c d : Int32) (N mf mi mo mw mn mk : Nat → Int32) (mt : Nat → Int64) (mq : Nat → Int32) : ∃ o, j_X8_settles_201 mz a b c d N mf mi mo mw mn mk mt mq = some o ∧ (o.1 = a ∧ o.2.1 = b ∧ o.2.2.1 = c ∧ o.2.2.2.1 = d) ∧ ∀ j, j < 114 → o.2.2.2.2.1 j = mz j := by
  unfold j_X8_settles_201
  refine zloop_inv (b_X8_settles_203 mz a b c d mf mi mo mw mn mk mt mq) 114 (fun i s => s.1 = nI i ∧ ∀ j, j < i → s.2 j = mz j) _ ?_ ?_ 114 0 1000 _ (by omega) (by omega) ?_
  · rintro ⟨x, w⟩ rc ⟨h1, h2⟩
    dsimp only at h1 h2
    unfold b_X8_settles_203
    dsimp only
    rw [h1, if_pos (by decide)]
    exact ⟨_, rfl, ⟨rfl, rfl, rfl, rfl⟩, h2⟩
  · rintro i ⟨x, w⟩ hi ⟨h1, h2⟩
    dsimp only at h1 h2
    subst h1
    refine ⟨(nI (i + 1), upd w i (mz i)), ⟨rfl, fun j hj => ?_⟩, fun rc => ?_⟩
    · show upd w i _ j = mz j
      by_cases e : j = i
      · subst e; rw [upd_s]
      · rw [upd_o e]; exact h2 j (by omega)
    · unfold b_X8_settles_203
      dsimp only
      have hne : ¬ (114 : Int32) ≤ nI i := nI_ge (b := 114) hi (by decide)
      rw [if_neg hne, zin_n (i := i) (n := 114) hi (by decide), zg_t, zg_t, zn_n (i := i) (by omega), zlet_d, zlet_d, nI_1]
  · exact ⟨nI_0.symm, fun j h => absurd h (by omega)⟩
theorem s52_out (mz : Nat → Int32) (rc : (Int32 × Int32 × Int32 × Int32 × Int32 × (Nat → Int32) × (Nat → Int32) × (Nat → Int32) × (Nat → Int32) × (Nat → Int32) × (Nat → Int32) × (Nat → Int32) × (Nat → Int64) × (Nat → Int32)) → Option (Int32 × Int32 × Int32 × Int32 × (Nat → Int32) × (Nat → Int32) × (Nat → Int32) × (Nat → Int32) × (Nat → Int32) × (Nat → Int32) × (Nat → Int32) × (Nat → Int64) × (Nat → Int32) × (Nat → Int32))) (x a b c d : Int32) (N mf mi mo mw mn mk : Nat → Int32) (mt : Nat → Int64) (mq : Nat → Int32) (h : 300 < x ∨ ¬ a = -4 ∨ ¬ b = -4) : b_X8_settles_52 mz rc (x, a, b, c, d, N, mf, mi, mo, mw, mn, mk, mt, mq) = j_X8_settles_201 mz a b c d N mf mi mo mw mn mk mt mq := by
  unfold b_X8_settles_52
  simp only [zlet_d]
  by_cases c1 : 300 < x
  · rw [if_pos c1]
  · rw [if_neg c1]
    by_cases c2 : a = -4
    · rw [if_pos c2]
      by_cases c3 : b = -4
      · rcases h with h | h | h
        · exact absurd h c1
        · exact absurd c2 h
        · exact absurd c3 h
      · rw [if_neg c3]
    · rw [if_neg c2]
theorem s52_in (mz : Nat → Int32) (rc : (Int32 × Int32 × Int32 × Int32 × Int32 × (Nat → Int32) × (Nat → Int32) × (Nat → Int32) × (Nat → Int32) × (Nat → Int32) × (Nat → Int32) × (Nat → Int32) × (Nat → Int64) × (Nat → Int32)) → Option (Int32 × Int32 × Int32 × Int32 × (Nat → Int32) × (Nat → Int32) × (Nat → Int32) × (Nat → Int32) × (Nat → Int32) × (Nat → Int32) × (Nat → Int32) × (Nat → Int64) × (Nat → Int32) × (Nat → Int32))) {k : Nat} (hk : k ≤ 300) (N mf mi mo mw mn mk : Nat → Int32) (mt : Nat → Int64) (mq : Nat → Int32) {o4 : (Nat → Int32) × (Nat → Int32) × (Nat → Int32) × (Nat → Int32) × (Nat → Int32)} (h4 : f_X8_lays N mf mi mo mw mn = some o4) {q : Int32} (hq : f_X8_isQuiet N o4.2.2.2.2 = some q) {co : Int64} (hc : f_X8_codeOf N = some co) : b_X8_settles_52 mz rc (nI k, -4, -4, -4, -4, N, mf, mi, mo, mw, mn, mk, mt, mq) = zloop (b_X8_settles_117 rc (nI k, -4, -4, -4, -4, N, mf, mi, mo, mw, mn, mk, mt, mq) N mk o4.1 o4.2.1 o4.2.2.1 o4.2.2.2.1 o4.2.2.2.2 (if q = 0 then -4 else nI k) (vp_updL mt k co) (upd mq k (N 3))) 1000 (0, -4, -4, -4) := by
  have k3 : zn 3 = 3 := by decide
  have i3 : zin 3 114 = true := by decide
  have hne : ¬ (300 : Int32) < nI k := nI_nlt (a := 300) hk (by decide)
  have key : ∀ m41 : Int32, j_X8_settles_93 rc (nI k, -4, -4, -4, -4, N, mf, mi, mo, mw, mn, mk, mt, mq) (-4) (-4) (-4) N mk mt mq o4.1 o4.2.1 o4.2.2.1 o4.2.2.2.1 o4.2.2.2.2 m41 = zloop (b_X8_settles_117 rc (nI k, -4, -4, -4, -4, N, mf, mi, mo, mw, mn, mk, mt, mq) N mk o4.1 o4.2.1 o4.2.2.1 o4.2.2.2.1 o4.2.2.2.2 m41 (vp_updL mt k co) (upd mq k (N 3))) 1000 (0, -4, -4, -4) := fun m41 => by
    unfold j_X8_settles_93
    dsimp only
    rw [hc, zbd_s, zin_n (i := k) (n := 301) (by omega) (by decide), zg_t, zn_n (i := k) (by omega), zlet_d, i3, zg_t, zg_t, k3, zlet_d]
  unfold b_X8_settles_52
  simp only [zlet_d]
  rw [if_neg hne, if_pos trivial, if_pos trivial, h4, zbd_s, hq, zbd_s, key, key]
  by_cases e : q = 0
  · rw [if_pos e, if_pos e]
  · rw [if_neg e, if_neg e]
theorem j191_eq (rc : (Int32 × Int32 × Int32 × Int32 × Int32 × (Nat → Int32) × (Nat → Int32) × (Nat → Int32) × (Nat → Int32) × (Nat → Int32) × (Nat → Int32) × (Nat → Int32) × (Nat → Int64) × (Nat → Int32)) → Option (Int32 × Int32 × Int32 × Int32 × (Nat → Int32) × (Nat → Int32) × (Nat → Int32) × (Nat → Int32) × (Nat → Int32) × (Nat → Int32) × (Nat → Int32) × (Nat → Int64) × (Nat → Int32) × (Nat → Int32))) (s : Int32 × Int32 × Int32 × Int32 × Int32 × (Nat → Int32) × (Nat → Int32) × (Nat → Int32) × (Nat → Int32) × (Nat → Int32) × (Nat → Int32) × (Nat → Int32) × (Nat → Int64) × (Nat → Int32)) {k : Nat} (hs : s.1 = nI k) (N mk mf mi mo mw mn : Nat → Int32) (m41 : Int32) (mt : Nat → Int64) (mq : Nat → Int32) (a b c : Int32) {o : (Nat → Int32) × (Nat → Int32) × (Nat → Int32) × (Nat → Int32) × (Nat → Int32) × (Nat → Int32) × (Nat → Int32)} (ho : f_X8_ticks N mf mi mo mw mn mk = some o) : j_X8_settles_191 rc s N mk mf mi mo mw mn m41 mt mq a b c = rc (nI (k + 1), m41, a, b, c, o.1, o.2.1, o.2.2.1, o.2.2.2.1, o.2.2.2.2.1, o.2.2.2.2.2.1, o.2.2.2.2.2.2, mt, mq) := by
  unfold j_X8_settles_191
  rw [ho, zbd_s]
  simp only [zlet_d]
  rw [hs, nI_1]
theorem settle_go {n t : Nat} (ht : t ≤ 9999) (mz : Nat → Int32) : ∀ (r k f f' T : Nat) (sn : Nat → Int64) (sb : Nat → Int32) (w : R2) (N mf mi mo mw mn mk : Nat → Int32) (mt : Nat → Int64) (mq : Nat → Int32), k + r = 301 → r < f → r + 1 < f' → LR n (t + k) T w N → (∀ m, m < k → sn m = mt m ∧ sb m = mq m) → ∃ o o', zloop (b_X0_follow_34 (-4) (-4) (-4) (-4)) f (nI k, sn, sb, w) = some o ∧ zloop (b_X8_settles_52 mz) f' (nI k, -4, -4, -4, -4, N, mf, mi, mo, mw, mn, mk, mt, mq) = some o' ∧ (o.2.2.1 = o'.1 ∧ o.2.2.2.1 = o'.2.1 ∧ o.2.2.2.2.1 = o'.2.2.1 ∧ o.2.2.2.2.2.1 = o'.2.2.2.1) ∧ ∀ j, j < 114 → o'.2.2.2.2.1 j = mz j := by
  intro r
  induction r with
  | zero =>
    intro k f f' T sn sb w N mf mi mo mw mn mk mt mq hk hf hf' hL hm
    obtain ⟨f, rfl⟩ : ∃ g, f = g + 1 := ⟨f - 1, by omega⟩
    obtain ⟨f', rfl⟩ : ∃ g, f' = g + 1 := ⟨f' - 1, by omega⟩
    obtain rfl : k = 301 := by omega
    have hlt : (300 : Int32) < nI 301 := by decide
    obtain ⟨o', p1, ⟨p2, p3, p4, p5⟩, p6⟩ := rest201_eq mz (-4) (-4) (-4) (-4) N mf mi mo mw mn mk mt mq
    refine ⟨(sn, sb, -4, -4, -4, -4, w), o', ?_, ?_, ⟨p2.symm, p3.symm, p4.symm, p5.symm⟩, p6⟩
    · show b_X0_follow_34 (-4) (-4) (-4) (-4) (zloop (b_X0_follow_34 (-4) (-4) (-4) (-4)) f) (nI 301, sn, sb, w) = _
      unfold b_X0_follow_34
      dsimp only
      rw [if_pos hlt]
    · show b_X8_settles_52 mz (zloop (b_X8_settles_52 mz) f') (nI 301, -4, -4, -4, -4, N, mf, mi, mo, mw, mn, mk, mt, mq) = _
      rw [s52_out mz _ _ _ _ _ _ N mf mi mo mw mn mk mt mq (Or.inl hlt)]
      exact p1
  | succ r ih =>
    intro k f f' T sn sb w N mf mi mo mw mn mk mt mq hk hf hf' hL hm
    obtain ⟨f, rfl⟩ : ∃ g, f = g + 1 := ⟨f - 1, by omega⟩
    obtain ⟨f', rfl⟩ : ∃ g, f' = g + 2 := ⟨f' - 2, by omega⟩
    have hn := hL.1
    have hR := hL.2.2.2.2.2.2.2.2.1
    obtain ⟨o4, p1, p2⟩ := lays_eq mf mi mo mw mn hL.1 hL.2.1.2 hL.2.2.2.1.1 hL.2.2.2.2.2.2.1 hL.2.2.2.2.2.2.2.1 hR
    have hqC := quietC_eq w hL.1.2 hL.2.1.1
    have hqM := quietM_eq w N o4.2.2.2.2 hL.1.2 hL.2.1.2 (fun i hi => (p2 i hi).2.2.2.2)
    have hpC : f_X1_packed w = some (lN (pkN w n 0 0)) := packed_eq w hL.1.2 hL.2.1.1 hR n 0 1000 0 (by omega) (by omega) (by decide)
    have hpM : f_X8_codeOf N = some (lN (pkN w n 0 0)) := codeOf_eq w N hL.1.2 hL.2.1.2 hL.2.2.2.2.2.2.1 hR n 0 1000 0 (by omega) (by omega)
    obtain ⟨w2, o48, T2, t1, t2, t3⟩ := tick1_eq hL (by omega) o4.1 o4.2.1 o4.2.2.1 o4.2.2.2.1 o4.2.2.2.2 mk
    have hne : ¬ (300 : Int32) < nI k := nI_nlt (a := 300) (b := k) (by omega) (by decide)
    generalize lN (pkN w n 0 0) = co at *
    show ∃ o o', b_X0_follow_34 (-4) (-4) (-4) (-4) (zloop (b_X0_follow_34 (-4) (-4) (-4) (-4)) f) (nI k, sn, sb, w) = some o ∧ b_X8_settles_52 mz (zloop (b_X8_settles_52 mz) (f' + 1)) (nI k, -4, -4, -4, -4, N, mf, mi, mo, mw, mn, mk, mt, mq) = some o' ∧ _
    rw [s52_in mz _ (show k ≤ 300 by omega) N mf mi mo mw mn mk mt mq p1 hqM hpM]
    generalize hss : (nI k, (-4 : Int32), (-4 : Int32), (-4 : Int32), (-4 : Int32), N, mf, mi, mo, mw, mn, mk, mt, mq) = s
    have hs1 : s.1 = nI k := by rw [← hss]
    by_cases hq : qF w n 0 = 0
    · rw [hq] at hqC
      rw [if_pos hq]
      have e117 : zloop (b_X8_settles_117 (zloop (b_X8_settles_52 mz) (f' + 1)) s N mk o4.1 o4.2.1 o4.2.2.1 o4.2.2.2.1 o4.2.2.2.2 (-4) (vp_updL mt k co) (upd mq k (N 3))) 1000 (0, -4, -4, -4) = _ := in117_eq (zloop (b_X8_settles_52 mz) (f' + 1)) s N mk o4.1 o4.2.1 o4.2.2.1 o4.2.2.2.1 o4.2.2.2.2 (vp_updL mt k co) (upd mq k (N 3)) (show k ≤ 300 by omega) hs1 k 0 1000 (-4) (-4) (by omega) (by omega)
      rw [e117]
      have hsn : ∀ m, m ≤ k → vp_updL sn k co m = vp_updL mt k co m := fun m hmk => by
        by_cases e : m = k
        · subst e; rw [pk_uLs, pk_uLs]
        · rw [pk_uLn e, pk_uLn e]; exact (hm m (by omega)).1
      have h83 : w 8 0 = N 3 := hL.2.2.1.2.2.2.2.1.trans hL.2.2.1.2.2.2.2.2.symm
      have hsb : ∀ m, m ≤ k → upd sb k (w 8 0) m = upd mq k (N 3) m := fun m hmk => by
        by_cases e : m = k
        · subst e; rw [upd_s, upd_s]; exact h83
        · rw [upd_o e, upd_o e]; exact (hm m (by omega)).2
      have hfl := flF_eqv hsn k 0 (by omega)
      have hfc : f_X0_firstLike (vp_updL sn k co) (nI k) = some (nI (flF (vp_updL mt k co) k k 0)) := by
        rw [← hfl]
        exact firstLike_eq (vp_updL sn k co) (by omega) k 0 1000 (by omega) (by omega)
      have hle := flF_le (vp_updL mt k co) k k 0 (by omega)
      generalize flF (vp_updL mt k co) k k 0 = fl at *
      have hC : b_X0_follow_34 (-4) (-4) (-4) (-4) (zloop (b_X0_follow_34 (-4) (-4) (-4) (-4)) f) (nI k, sn, sb, w) = if nI k ≤ nI fl then zloop (b_X0_follow_34 (-4) (-4) (-4) (-4)) f (nI (k + 1), vp_updL sn k co, upd sb k (w 8 0), w2) else some (vp_updL sn k co, upd sb k (w 8 0), -4, nI fl, nI k - nI fl, upd sb k (w 8 0) k - upd sb k (w 8 0) fl, w) := by
        generalize zloop (b_X0_follow_34 (-4) (-4) (-4) (-4)) f = rc
        unfold b_X0_follow_34 j_X0_follow_97
        dsimp only
        rw [if_neg hne, hqC, zbd_s, if_pos rfl, hpC, zbd_s, zin_n (i := k) (n := 301) (by omega) (by decide), zg_t, zn_n (i := k) (by omega), zlet_d, zg_t, zlet_d, hfc, zbd_s, t1, zbd_s, zin_n (i := fl) (n := 301) (by omega) (by decide), zn_n (i := fl) (by omega), nI_1]
        simp only [zg_t, zlet_d]
      rw [hC]
      by_cases hf1 : fl < k
      · rw [if_neg (nI_ge hf1 (by omega)), if_pos hf1, j191_eq _ s hs1 N mk _ _ _ _ _ _ _ _ _ _ _ t2]
        obtain ⟨o', q1, ⟨q2, q3, q4, q5⟩, q6⟩ := rest201_eq mz (-4) (nI fl) (nI k - nI fl) (upd mq k (N 3) k - upd mq k (N 3) fl) o48.1 o48.2.1 o48.2.2.1 o48.2.2.2.1 o48.2.2.2.2.1 o48.2.2.2.2.2.1 o48.2.2.2.2.2.2 (vp_updL mt k co) (upd mq k (N 3))
        refine ⟨_, o', rfl, ?_, ⟨q2.symm, q3.symm, q4.symm, ?_⟩, q6⟩
        · show b_X8_settles_52 mz (zloop (b_X8_settles_52 mz) f') _ = _
          rw [s52_out mz _ _ _ _ _ _ _ _ _ _ _ _ _ _ _ (Or.inr (Or.inr (nI_nm4 (show fl < 2 ^ 31 by omega))))]
          exact q1
        · rw [q5]
          show upd sb k (w 8 0) k - upd sb k (w 8 0) fl = _
          rw [hsb k (Nat.le_refl k), hsb fl hle]
      · obtain rfl : fl = k := by omega
        rw [if_pos (Int32.le_refl _), if_neg hf1, j191_eq _ s hs1 N mk _ _ _ _ _ _ _ _ _ _ _ t2]
        exact ih (fl + 1) f (f' + 1) T2 (vp_updL sn fl co) (upd sb fl (w 8 0)) w2 o48.1 o48.2.1 o48.2.2.1 o48.2.2.2.1 o48.2.2.2.2.1 o48.2.2.2.2.2.1 o48.2.2.2.2.2.2 (vp_updL mt fl co) (upd mq fl (N 3)) (by omega) (by omega) (by omega) t3 (fun m hmk => ⟨hsn m (by omega), hsb m (by omega)⟩)
    · rw [if_neg hq]
      have hC : b_X0_follow_34 (-4) (-4) (-4) (-4) (zloop (b_X0_follow_34 (-4) (-4) (-4) (-4)) f) (nI k, sn, sb, w) = some (sn, sb, nI k, -4, -4, -4, w) := by
        generalize zloop (b_X0_follow_34 (-4) (-4) (-4) (-4)) f = rc
        unfold b_X0_follow_34 j_X0_follow_51
        dsimp only
        rw [if_neg hne, hqC, zbd_s, if_neg hq, zlet_d]
      rw [hC]
      have hM : zloop (b_X8_settles_117 (zloop (b_X8_settles_52 mz) (f' + 1)) s N mk o4.1 o4.2.1 o4.2.2.1 o4.2.2.2.1 o4.2.2.2.2 (nI k) (vp_updL mt k co) (upd mq k (N 3))) 1000 (0, -4, -4, -4) = j_X8_settles_191 (zloop (b_X8_settles_52 mz) (f' + 1)) s N mk o4.1 o4.2.1 o4.2.2.1 o4.2.2.2.1 o4.2.2.2.2 (nI k) (vp_updL mt k co) (upd mq k (N 3)) (-4) (-4) (-4) := by
        show b_X8_settles_117 (zloop (b_X8_settles_52 mz) (f' + 1)) s N mk o4.1 o4.2.1 o4.2.2.1 o4.2.2.2.1 o4.2.2.2.2 (nI k) (vp_updL mt k co) (upd mq k (N 3)) (zloop (b_X8_settles_117 (zloop (b_X8_settles_52 mz) (f' + 1)) s N mk o4.1 o4.2.1 o4.2.2.1 o4.2.2.2.1 o4.2.2.2.2 (nI k) (vp_updL mt k co) (upd mq k (N 3))) 999) (0, -4, -4, -4) = _
        unfold b_X8_settles_117
        dsimp only
        by_cases e2 : s.1 ≤ 0
        · rw [if_pos e2]
        · rw [if_neg e2, if_neg (nI_nm4 (by omega))]
      rw [hM, j191_eq _ s hs1 N mk _ _ _ _ _ _ _ _ _ _ _ t2]
      obtain ⟨o', q1, ⟨q2, q3, q4, q5⟩, q6⟩ := rest201_eq mz (nI k) (-4) (-4) (-4) o48.1 o48.2.1 o48.2.2.1 o48.2.2.2.1 o48.2.2.2.2.1 o48.2.2.2.2.2.1 o48.2.2.2.2.2.2 (vp_updL mt k co) (upd mq k (N 3))
      refine ⟨_, o', rfl, ?_, ⟨q2.symm, q3.symm, q4.symm, q5.symm⟩, q6⟩
      show b_X8_settles_52 mz (zloop (b_X8_settles_52 mz) f') _ = _
      rw [s52_out mz _ _ _ _ _ _ _ _ _ _ _ _ _ _ _ (Or.inr (Or.inl (nI_nm4 (show k < 2 ^ 31 by omega))))]
      exact q1
theorem settles_def (ms mf mi mo mw mn mk : Nat → Int32) (mt : Nat → Int64) (mq mz : Nat → Int32) : f_X8_settles ms mf mi mo mw mn mk mt mq mz = zloop (b_X8_settles_26 ms mf mi mo mw mn mk mt mq (-4) (-4) (-4) (-4)) 1000 (0, mz) := by
  unfold f_X8_settles
  rw [zlet_d, zlet_d, zlet_d, zlet_d]
theorem b26_end (ms mf mi mo mw mn mk : Nat → Int32) (mt : Nat → Int64) (mq : Nat → Int32) (rc : Int32 × (Nat → Int32) → Option (Int32 × Int32 × Int32 × Int32 × (Nat → Int32) × (Nat → Int32) × (Nat → Int32) × (Nat → Int32) × (Nat → Int32) × (Nat → Int32) × (Nat → Int32) × (Nat → Int64) × (Nat → Int32) × (Nat → Int32))) {x : Int32} (mz : Nat → Int32) (h : 114 ≤ x) : b_X8_settles_26 ms mf mi mo mw mn mk mt mq (-4) (-4) (-4) (-4) rc (x, mz) = zloop (b_X8_settles_52 mz) 1000 (nI 0, -4, -4, -4, -4, ms, mf, mi, mo, mw, mn, mk, mt, mq) := by
  unfold b_X8_settles_26
  dsimp only
  rw [if_pos h]
  unfold j_X8_settles_50
  rw [nI_0]
theorem settlesM_eq (ms mf mi mo mw mn mk : Nat → Int32) (mt : Nat → Int64) (mq mz : Nat → Int32) : ∃ mz', f_X8_settles ms mf mi mo mw mn mk mt mq mz = zloop (b_X8_settles_52 mz') 1000 (nI 0, -4, -4, -4, -4, ms, mf, mi, mo, mw, mn, mk, mt, mq) ∧ ∀ j, j < 114 → mz' j = ms j := by
  obtain ⟨⟨x', mz'⟩, g, ⟨d1, d2⟩, he⟩ := zloop_run (b_X8_settles_26 ms mf mi mo mw mn mk mt mq (-4) (-4) (-4) (-4)) 114 (fun i s => s.1 = nI i ∧ ∀ j, j < i → s.2 j = ms j) (by
    rintro i ⟨y, z⟩ hi ⟨g1, g2⟩
    dsimp only at g1 g2
    subst g1
    refine ⟨(nI (i + 1), upd z i (ms i)), ⟨rfl, fun j hj => ?_⟩, fun rc => ?_⟩
    · show upd z i _ j = ms j
      by_cases e : j = i
      · subst e; rw [upd_s]
      · rw [upd_o e]; exact g2 j (by omega)
    · unfold b_X8_settles_26
      dsimp only
      have hne : ¬ (114 : Int32) ≤ nI i := nI_ge (b := 114) hi (by decide)
      rw [if_neg hne, zin_n (i := i) (n := 114) hi (by decide), zg_t, zg_t, zn_n (i := i) (by omega), zlet_d, zlet_d, nI_1]) 114 0 1000 (0, mz) (by omega) (by omega) ⟨nI_0.symm, fun j hj => absurd hj (by omega)⟩
  dsimp only at d1 d2
  have hle : (114 : Int32) ≤ x' := by rw [d1]; decide
  refine ⟨mz', ?_, d2⟩
  rw [settles_def, he, b26_end ms mf mi mo mw mn mk mt mq _ mz' hle]
theorem followC_eq (sn : Nat → Int64) (sb : Nat → Int32) (tv : R2) {v : R2} (hs : SB v) : ∃ w, f_X0_follow sn sb tv v = zloop (b_X0_follow_34 (-4) (-4) (-4) (-4)) 1000 (nI 0, sn, sb, w) ∧ EQL w v := by
  obtain ⟨w, b1, b2⟩ := copy_eq tv v hs
  refine ⟨w, ?_, b2⟩
  unfold f_X0_follow
  rw [b1, zbd_s, zlet_d, zlet_d, zlet_d, zlet_d, nI_0]
theorem settle_both {n t T : Nat} {v : R2} {ms : Nat → Int32} (ht : t ≤ 9999) (hL : LR n t T v ms) (sn : Nat → Int64) (sb : Nat → Int32) (tv : R2) (mf mi mo mw mn mk : Nat → Int32) (mt : Nat → Int64) (mq mz : Nat → Int32) : ∃ o o', f_X0_follow sn sb tv v = some o ∧ f_X8_settles ms mf mi mo mw mn mk mt mq mz = some o' ∧ (o.2.2.1 = o'.1 ∧ o.2.2.2.1 = o'.2.1 ∧ o.2.2.2.2.1 = o'.2.2.1 ∧ o.2.2.2.2.2.1 = o'.2.2.2.1) ∧ LR n t T v o'.2.2.2.2.1 := by
  obtain ⟨w, a1, a2⟩ := followC_eq sn sb tv hL.2.2.2.2.2.2.2.2.2
  obtain ⟨mz', b1, b2⟩ := settlesM_eq ms mf mi mo mw mn mk mt mq mz
  have hw : LR n (t + 0) T w ms := LR_v a2 hL
  obtain ⟨o, o', e1, e2, e3, e7⟩ := settle_go ht mz' 301 0 1000 1000 T sn sb w ms mf mi mo mw mn mk mt mq (by omega) (by omega) (by omega) hw (fun m hm => absurd hm (by omega))
  exact ⟨o, o', a1.trans e1, b1.trans e2, e3, LR_M (fun j hj => (e7 j hj).trans (b2 j hj)) hL⟩
theorem st_settle {tl : Nat → Int32} {tn pn pz : Int32} {pl : Nat → R2} {v u : R2} {m1 m2 : Int32} {mb ms mp : Nat → Int32} (h : RR tl tn pn pz pl v u m1 m2 mb ms mp) (sn : Nat → Int64) (sb : Nat → Int32) (c0 c1 c2 c3 : Int32) (tv : R2) (m5 m6 m7 m8 : Int32) (mf mi mo mw mn mk : Nat → Int32) (mt : Nat → Int64) (mq mz : Nat → Int32) (x : Int32) : ∃ o o', f_X7_settle sn sb c0 c1 c2 c3 tv v x = some o ∧ f_X8_settle m5 m6 m7 m8 ms mf mi mo mw mn mk mt mq mz x = some o' ∧ o.1 = o'.1 ∧ RR tl tn pn pz pl v u m1 m2 mb o'.2.2.2.2.2.2.1 mp := by
  obtain ⟨h1, ⟨n, t, T, ht, hL⟩, h3, h4⟩ := id h
  obtain ⟨o, o', e1, e2, ⟨e3, e4, e5, e6⟩, e7⟩ := settle_both ht hL sn sb tv mf mi mo mw mn mk mt mq mz
  have hN : RR tl tn pn pz pl v u m1 m2 mb o'.2.2.2.2.1 mp := ⟨h1, ⟨n, t, T, ht, e7⟩, h3, h4⟩
  unfold f_X7_settle f_X8_settle f_X8_in
  rw [e1, e2]
  simp only [zlet_d]
  by_cases c1 : x < 0
  · rw [if_pos c1, if_pos c1, zbd_s, if_pos rfl]
    exact ⟨_, _, rfl, rfl, rfl, h⟩
  · rw [if_neg c1, if_neg c1]
    by_cases c2 : x ≤ 3
    · have c3 : ¬ (3 : Int32) < x := Int32.not_lt.mpr c2
      rw [if_pos c2, if_neg c3, zbd_s, zbd_s, if_neg ne10, zbd_s]
      by_cases k0 : x = 0
      · rw [if_pos k0, if_pos k0]; exact ⟨_, _, rfl, rfl, e3, hN⟩
      · rw [if_neg k0, if_neg k0]
        by_cases k1 : x = 1
        · rw [if_pos k1, if_pos k1]; exact ⟨_, _, rfl, rfl, e4, hN⟩
        · rw [if_neg k1, if_neg k1]
          by_cases k2 : x = 2
          · rw [if_pos k2, if_pos k2]; exact ⟨_, _, rfl, rfl, e5, hN⟩
          · rw [if_neg k2, if_neg k2]; exact ⟨_, _, rfl, rfl, e6, hN⟩
    · have c3 : (3 : Int32) < x := Int32.not_le.mp c2
      rw [if_neg c2, if_pos c3, zbd_s, zbd_s, if_pos rfl]
      exact ⟨_, _, rfl, rfl, rfl, h⟩
