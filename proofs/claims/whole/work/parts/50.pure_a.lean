/-! ===== pure: small words about options, loops and numbers ===== -/
theorem zg_t {ρ : Type} (x : Option ρ) : zg true x = x := rfl
theorem zbd_s {α ρ : Type} (a : α) (k : α → Option ρ) : zbd (some a) k = k a := rfl
theorem zlet_d {α ρ : Type} (a : α) (k : α → Option ρ) : zlet a k = k a := rfl
/-- a loop of known length, by an invariant -/
theorem zloop_inv {σ ρ : Type} (b : (σ → Option ρ) → σ → Option ρ) (n : Nat) (I : Nat → σ → Prop) (Q : ρ → Prop)
    (hexit : ∀ (s : σ) (rc : σ → Option ρ), I n s → ∃ r, b rc s = some r ∧ Q r)
    (hstep : ∀ (i : Nat) (s : σ), i < n → I i s → ∃ t, I (i + 1) t ∧ ∀ rc : σ → Option ρ, b rc s = rc t) :
    ∀ (k i f : Nat) (s : σ), i + k = n → k < f → I i s → ∃ r, zloop b f s = some r ∧ Q r := by
  intro k
  induction k with
  | zero =>
    intro i f s hi hf h
    obtain ⟨f, rfl⟩ : ∃ g, f = g + 1 := ⟨f - 1, by omega⟩
    obtain rfl : i = n := by omega
    exact hexit s _ h
  | succ k ih =>
    intro i f s hi hf h
    obtain ⟨f, rfl⟩ : ∃ g, f = g + 1 := ⟨f - 1, by omega⟩
    obtain ⟨t, ht, hb⟩ := hstep i s (by omega) h
    obtain ⟨r, h1, h2⟩ := ih (i + 1) f t (by omega) (by omega) ht
    exact ⟨r, (hb (zloop b f)).trans h1, h2⟩
/-- two loops side by side -/
theorem zloop_sim {σ σ' ρ ρ' : Type} (b : (σ → Option ρ) → σ → Option ρ) (b' : (σ' → Option ρ') → σ' → Option ρ') (n : Nat) (I : Nat → σ → σ' → Prop) (Q : ρ → ρ' → Prop)
    (hexit : ∀ (s : σ) (s' : σ') (rc : σ → Option ρ) (rc' : σ' → Option ρ'), I n s s' → ∃ r r', b rc s = some r ∧ b' rc' s' = some r' ∧ Q r r')
    (hstep : ∀ (i : Nat) (s : σ) (s' : σ'), i < n → I i s s' → ∃ t t', I (i + 1) t t' ∧ (∀ rc : σ → Option ρ, b rc s = rc t) ∧ ∀ rc' : σ' → Option ρ', b' rc' s' = rc' t') :
    ∀ (k i f f' : Nat) (s : σ) (s' : σ'), i + k = n → k < f → k < f' → I i s s' → ∃ r r', zloop b f s = some r ∧ zloop b' f' s' = some r' ∧ Q r r' := by
  intro k
  induction k with
  | zero =>
    intro i f f' s s' hi hf hf' h
    obtain ⟨f, rfl⟩ : ∃ g, f = g + 1 := ⟨f - 1, by omega⟩
    obtain ⟨f', rfl⟩ : ∃ g, f' = g + 1 := ⟨f' - 1, by omega⟩
    obtain rfl : i = n := by omega
    exact hexit s s' _ _ h
  | succ k ih =>
    intro i f f' s s' hi hf hf' h
    obtain ⟨f, rfl⟩ : ∃ g, f = g + 1 := ⟨f - 1, by omega⟩
    obtain ⟨f', rfl⟩ : ∃ g, f' = g + 1 := ⟨f' - 1, by omega⟩
    obtain ⟨t, t', ht, hb, hb'⟩ := hstep i s s' (by omega) h
    obtain ⟨r, r', h1, h2, h3⟩ := ih (i + 1) f f' t t' (by omega) (by omega) (by omega) ht
    exact ⟨r, r', (hb (zloop b f)).trans h1, (hb' (zloop b' f')).trans h2, h3⟩
theorem zin_n {i n : Nat} (h : i < n) (hn : n < 2 ^ 31) : zin (nI i) n = true := decide_eq_true (nI_in h hn)
theorem zn_n {i : Nat} (h : i < 2 ^ 31) : zn (nI i) = i := nI_clamp h
theorem upd_s (f : Nat → Int32) (k : Nat) (x : Int32) : upd f k x k = x := by simp [upd]
theorem upd_o {f : Nat → Int32} {k j : Nat} {x : Int32} (h : j ≠ k) : upd f k x j = f j := by simp [upd, h]
theorem vau_s {α : Type} (f : Nat → α) (k : Nat) (x : α) : va_up f k x k = x := by simp [va_up]
theorem vau_o {α : Type} {f : Nat → α} {k j : Nat} {x : α} (h : j ≠ k) : va_up f k x j = f j := by simp [va_up, h]
theorem z2_s (v : R2) (r c : Nat) (x : Int32) : z2 v r c x r c = x := by simp [z2, va_up, upd]
theorem z2_r {v : R2} {r c i j : Nat} {x : Int32} (h : i ≠ r) : z2 v r c x i j = v i j := by simp [z2, va_up, h]
theorem z2_c {v : R2} {r c j : Nat} {x : Int32} (h : j ≠ c) : z2 v r c x r j = v r j := by simp [z2, va_up, upd, h]
theorem z2_e (v : R2) (r c i j : Nat) (x : Int32) : z2 v r c x i j = if i = r ∧ j = c then x else v i j := by
  by_cases h : i = r
  · subst h
    by_cases h2 : j = c
    · subst h2; simp [z2_s]
    · simp [h2, z2_c h2]
  · simp [h, z2_r h]
theorem nar0 : vp_nar .boolean 0 = 0 := by decide
theorem nar1 : vp_nar .boolean 1 = 1 := by decide
/-! a stage, by its numbers -/
def jF (g : Nat → Int32) : Int32 := if g 1 - g 2 ≤ g 14 then (if g 14 ≤ g 1 + g 2 then 0 else 2) else 1
theorem jF_eq (g : Nat → Int32) : f_X4_judged g = some (jF g) := by
  unfold f_X4_judged jF
  split
  · split <;> rfl
  · rfl
theorem jF_in (g : Nat → Int32) : jF g = 0 ∨ jF g = 1 ∨ jF g = 2 := by
  unfold jF
  split
  · split
    · exact Or.inl rfl
    · exact Or.inr (Or.inr rfl)
  · exact Or.inr (Or.inl rfl)
def wF (g : Nat → Int32) : Int32 := if jF g = 0 then 0 else if 0 ≤ g 12 then jF g else if g 4 = 1 then 0 else if g 4 = 2 then 3 - jF g else jF g
theorem wF_eq (g : Nat → Int32) : f_X4_wants g = some (wF g) := by
  unfold f_X4_wants wF
  rw [jF_eq, zbd_s]
  unfold j_X4_wants_26 j_X4_wants_45 j_X4_wants_46 j_X4_wants_57
  rcases jF_in g with h | h | h <;> rw [h]
  · rfl
  · by_cases h1 : 0 ≤ g 12
    · simp [h1]
    · by_cases h2 : g 4 = 1
      · simp [h1, h2]
      · by_cases h3 : g 4 = 2
        · simp [h1, h3]
        · simp [h1, h2, h3]
  · by_cases h1 : 0 ≤ g 12
    · simp [h1]
    · by_cases h2 : g 4 = 1
      · simp [h1, h2]
      · by_cases h3 : g 4 = 2
        · simp [h1, h3]
        · simp [h1, h2, h3]
theorem wF_in (g : Nat → Int32) : wF g = 0 ∨ wF g = 1 ∨ wF g = 2 := by
  unfold wF
  rcases jF_in g with h | h | h <;> rw [h]
  · exact Or.inl rfl
  · by_cases h1 : 0 ≤ g 12 <;> by_cases h2 : g 4 = 1 <;> by_cases h3 : g 4 = 2 <;> simp [h1, h2, h3]
  · by_cases h1 : 0 ≤ g 12 <;> by_cases h2 : g 4 = 1 <;> by_cases h3 : g 4 = 2 <;> simp [h1, h2, h3]
def cF (g : Nat → Int32) : Int32 := if g 11 = 0 then (if wF g = 1 then (if 5 ≤ g 7 then 0 else 1) else if wF g = 2 then (if g 7 ≤ -5 then 0 else 1) else 0) else 0
theorem cF_eq (g : Nat → Int32) : f_X4_canAsItWants g = some (cF g) := by
  unfold f_X4_canAsItWants cF
  rw [wF_eq, zbd_s]
  by_cases h : g 11 = 0
  · rw [if_pos h, if_pos h]
    by_cases h1 : wF g = 1
    · rw [if_pos h1, if_pos h1]; split <;> rfl
    · rw [if_neg h1, if_neg h1]
      by_cases h2 : wF g = 2
      · rw [if_pos h2, if_pos h2]; split <;> rfl
      · rw [if_neg h2, if_neg h2]
  · rw [if_neg h, if_neg h]
/-- counting on -/
def coF (g : Nat → Int32) : Nat → Int32 := upd (upd g 8 (if wF g = 0 then 0 else if wF g = g 9 then g 8 + 1 else 1)) 9 (wF g)
theorem coF_eq (g : Nat → Int32) : f_X4_countOn g = some (coF g) := by
  unfold f_X4_countOn coF
  rw [wF_eq, zbd_s]
  unfold j_X4_countOn_36 j_X4_countOn_39
  simp only [zlet_d]
  by_cases h : wF g = 0
  · rw [if_pos h, if_pos h]
  · rw [if_neg h, if_neg h]
    by_cases h2 : wF g = g 9
    · rw [if_pos h2, if_pos h2]
    · rw [if_neg h2, if_neg h2]
/-! the reference's row, place by place -/
theorem of_at (ms : Nat → Int32) {i k : Nat} (hi : i < 4) (hk : k < 12) : f_X8_of ms (nI i) (nI k) = some (ms (6 + 12 * i + k)) := by
  have e : (6 + (12 * nI i)) + nI k = nI (6 + 12 * i + k) := by
    show (nI 6 + nI 12 * nI i) + nI k = _
    rw [pk_mul, nI_add, nI_add]
  unfold f_X8_of
  rw [e, zin_n (by omega) (by decide), zn_n (by omega)]
  rfl
theorem puts_at (ms : Nat → Int32) {i k : Nat} (hi : i < 4) (hk : k < 12) (x : Int32) : f_X8_puts ms (nI i) (nI k) x = some (upd ms (6 + 12 * i + k) x) := by
  have e : (6 + (12 * nI i)) + nI k = nI (6 + 12 * i + k) := by
    show (nI 6 + nI 12 * nI i) + nI k = _
    rw [pk_mul, nI_add, nI_add]
  unfold f_X8_puts
  rw [e, zin_n (by omega) (by decide), zn_n (by omega)]
  rfl
theorem of_0 (ms : Nat → Int32) {i : Nat} (hi : i < 4) : f_X8_of ms (nI i) 0 = some (ms (6 + 12 * i + 0)) := of_at ms hi (k := 0) (by decide)
theorem puts_0 (ms : Nat → Int32) {i : Nat} (hi : i < 4) (x : Int32) : f_X8_puts ms (nI i) 0 x = some (upd ms (6 + 12 * i + 0) x) := puts_at ms hi (k := 0) (by decide) x
theorem of_1 (ms : Nat → Int32) {i : Nat} (hi : i < 4) : f_X8_of ms (nI i) 1 = some (ms (6 + 12 * i + 1)) := of_at ms hi (k := 1) (by decide)
theorem puts_1 (ms : Nat → Int32) {i : Nat} (hi : i < 4) (x : Int32) : f_X8_puts ms (nI i) 1 x = some (upd ms (6 + 12 * i + 1) x) := puts_at ms hi (k := 1) (by decide) x
theorem of_2 (ms : Nat → Int32) {i : Nat} (hi : i < 4) : f_X8_of ms (nI i) 2 = some (ms (6 + 12 * i + 2)) := of_at ms hi (k := 2) (by decide)
theorem puts_2 (ms : Nat → Int32) {i : Nat} (hi : i < 4) (x : Int32) : f_X8_puts ms (nI i) 2 x = some (upd ms (6 + 12 * i + 2) x) := puts_at ms hi (k := 2) (by decide) x
theorem of_3 (ms : Nat → Int32) {i : Nat} (hi : i < 4) : f_X8_of ms (nI i) 3 = some (ms (6 + 12 * i + 3)) := of_at ms hi (k := 3) (by decide)
theorem puts_3 (ms : Nat → Int32) {i : Nat} (hi : i < 4) (x : Int32) : f_X8_puts ms (nI i) 3 x = some (upd ms (6 + 12 * i + 3) x) := puts_at ms hi (k := 3) (by decide) x
theorem of_4 (ms : Nat → Int32) {i : Nat} (hi : i < 4) : f_X8_of ms (nI i) 4 = some (ms (6 + 12 * i + 4)) := of_at ms hi (k := 4) (by decide)
theorem puts_4 (ms : Nat → Int32) {i : Nat} (hi : i < 4) (x : Int32) : f_X8_puts ms (nI i) 4 x = some (upd ms (6 + 12 * i + 4) x) := puts_at ms hi (k := 4) (by decide) x
theorem of_5 (ms : Nat → Int32) {i : Nat} (hi : i < 4) : f_X8_of ms (nI i) 5 = some (ms (6 + 12 * i + 5)) := of_at ms hi (k := 5) (by decide)
theorem puts_5 (ms : Nat → Int32) {i : Nat} (hi : i < 4) (x : Int32) : f_X8_puts ms (nI i) 5 x = some (upd ms (6 + 12 * i + 5) x) := puts_at ms hi (k := 5) (by decide) x
theorem of_6 (ms : Nat → Int32) {i : Nat} (hi : i < 4) : f_X8_of ms (nI i) 6 = some (ms (6 + 12 * i + 6)) := of_at ms hi (k := 6) (by decide)
theorem puts_6 (ms : Nat → Int32) {i : Nat} (hi : i < 4) (x : Int32) : f_X8_puts ms (nI i) 6 x = some (upd ms (6 + 12 * i + 6) x) := puts_at ms hi (k := 6) (by decide) x
theorem of_7 (ms : Nat → Int32) {i : Nat} (hi : i < 4) : f_X8_of ms (nI i) 7 = some (ms (6 + 12 * i + 7)) := of_at ms hi (k := 7) (by decide)
theorem puts_7 (ms : Nat → Int32) {i : Nat} (hi : i < 4) (x : Int32) : f_X8_puts ms (nI i) 7 x = some (upd ms (6 + 12 * i + 7) x) := puts_at ms hi (k := 7) (by decide) x
theorem of_8 (ms : Nat → Int32) {i : Nat} (hi : i < 4) : f_X8_of ms (nI i) 8 = some (ms (6 + 12 * i + 8)) := of_at ms hi (k := 8) (by decide)
theorem puts_8 (ms : Nat → Int32) {i : Nat} (hi : i < 4) (x : Int32) : f_X8_puts ms (nI i) 8 x = some (upd ms (6 + 12 * i + 8) x) := puts_at ms hi (k := 8) (by decide) x
theorem of_9 (ms : Nat → Int32) {i : Nat} (hi : i < 4) : f_X8_of ms (nI i) 9 = some (ms (6 + 12 * i + 9)) := of_at ms hi (k := 9) (by decide)
theorem puts_9 (ms : Nat → Int32) {i : Nat} (hi : i < 4) (x : Int32) : f_X8_puts ms (nI i) 9 x = some (upd ms (6 + 12 * i + 9) x) := puts_at ms hi (k := 9) (by decide) x
theorem of_10 (ms : Nat → Int32) {i : Nat} (hi : i < 4) : f_X8_of ms (nI i) 10 = some (ms (6 + 12 * i + 10)) := of_at ms hi (k := 10) (by decide)
theorem puts_10 (ms : Nat → Int32) {i : Nat} (hi : i < 4) (x : Int32) : f_X8_puts ms (nI i) 10 x = some (upd ms (6 + 12 * i + 10) x) := puts_at ms hi (k := 10) (by decide) x
theorem of_11 (ms : Nat → Int32) {i : Nat} (hi : i < 4) : f_X8_of ms (nI i) 11 = some (ms (6 + 12 * i + 11)) := of_at ms hi (k := 11) (by decide)
theorem puts_11 (ms : Nat → Int32) {i : Nat} (hi : i < 4) (x : Int32) : f_X8_puts ms (nI i) 11 x = some (upd ms (6 + 12 * i + 11) x) := puts_at ms hi (k := 11) (by decide) x
