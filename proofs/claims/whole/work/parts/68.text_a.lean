/-! ===== pure: the text ===== -/
/-- letter ch stands at p -/
def HR (tl : Nat → Int32) (K p : Nat) (ch : Int32) : Prop := p < K ∧ tl p = ch
def TXE (K : Nat) (tl mb : Nat → Int32) : Prop := K ≤ 200 ∧ ∀ k, k < K → tl k = mb k
theorem take_yes {tl : Nat → Int32} {K p : Nat} {ch : Int32} (hK : K ≤ 200) (h : HR tl K p ch) : f_X6_take tl (nI K) (nI p) ch = some (1, nI (p + 1)) := by
  obtain ⟨h1, h2⟩ := h
  unfold f_X6_take
  rw [if_neg (nI_ge h1 (by omega)), zin_n (i := p) (n := 200) (by omega) (by decide), zg_t, zn_n (i := p) (by omega), if_pos h2, zlet_d, nI_1]
theorem take_no {tl : Nat → Int32} {K p : Nat} {ch : Int32} (hK : K ≤ 200) (hp : p ≤ K) (h : ¬ HR tl K p ch) : f_X6_take tl (nI K) (nI p) ch = some (0, nI p) := by
  unfold f_X6_take
  by_cases c : p < K
  · rw [if_neg (nI_ge c (by omega)), zin_n (i := p) (n := 200) (by omega) (by decide), zg_t, zn_n (i := p) (by omega), if_neg (fun q => h ⟨c, q⟩)]
  · rw [if_pos (nI_le (by omega) (by omega))]
theorem here_yes {tl mb : Nat → Int32} {K p : Nat} {ch : Int32} (hT : TXE K tl mb) (h : HR tl K p ch) : f_X8_isHere (nI K) (nI p) mb ch = some 1 := by
  obtain ⟨h1, h2⟩ := h
  have hK := hT.1
  rw [hT.2 p h1] at h2
  unfold f_X8_isHere
  rw [if_neg (nI_ge h1 (by omega)), zin_n (i := p) (n := 200) (by omega) (by decide), zg_t, zn_n (i := p) (by omega), if_pos h2]
theorem here_no {tl mb : Nat → Int32} {K p : Nat} {ch : Int32} (hT : TXE K tl mb) (hp : p ≤ K) (h : ¬ HR tl K p ch) : f_X8_isHere (nI K) (nI p) mb ch = some 0 := by
  have hK := hT.1
  unfold f_X8_isHere
  by_cases c : p < K
  · have h2 : ¬ mb p = ch := fun q => h ⟨c, by rw [hT.2 p c]; exact q⟩
    rw [if_neg (nI_ge c (by omega)), zin_n (i := p) (n := 200) (by omega) (by decide), zg_t, zn_n (i := p) (by omega), if_neg h2]
  · rw [if_pos (nI_le (by omega) (by omega))]
theorem takes_yes {tl mb : Nat → Int32} {K p : Nat} {ch : Int32} (hT : TXE K tl mb) (h : HR tl K p ch) (m4 : Int32) : f_X8_takes (nI K) (nI p) m4 mb ch = some (nI (p + 1), m4) := by
  unfold f_X8_takes
  rw [here_yes hT h, zbd_s, if_neg ne10, zlet_d, nI_1]
theorem zbo0 : zbo 0 = true := by decide
theorem zbo1 : zbo 1 = true := by decide
theorem takes_no {tl mb : Nat → Int32} {K p : Nat} {ch : Int32} (hT : TXE K tl mb) (hp : p ≤ K) (h : ¬ HR tl K p ch) (m4 : Int32) : f_X8_takes (nI K) (nI p) m4 mb ch = some (nI p, 0) := by
  unfold f_X8_takes
  rw [here_no hT hp h, zbd_s, if_pos rfl, zbo0, zg_t, zlet_d]
theorem digits_eq {tl mb : Nat → Int32} {K : Nat} (hT : TXE K tl mb) (lo hi t m4 : Int32) : ∀ (r fg p f f' : Nat) (vl : Int32), fg + r = 4 → p ≤ K → r < f → r < f' → ∃ (fg' p' : Nat) (vl' : Int32), p ≤ p' ∧ p' ≤ K ∧ fg' ≤ 4 ∧ zloop (b_X6_readNumber_25 tl (nI K) lo hi t) f (nI fg, vl, nI p) = j_X6_readNumber_74 lo hi t (nI fg') vl' (nI p') ∧ zloop (b_X8_takesNumber_43 (nI K) m4 mb lo hi t) f' (vl, nI fg, nI p) = j_X8_takesNumber_115 m4 lo hi t vl' (nI fg') (nI p') := by
  have hK := hT.1
  intro r
  induction r with
  | zero =>
    intro fg p f f' vl hf hp h1 h2
    obtain ⟨f, rfl⟩ : ∃ g, f = g + 1 := ⟨f - 1, by omega⟩
    obtain ⟨f', rfl⟩ : ∃ g, f' = g + 1 := ⟨f' - 1, by omega⟩
    obtain rfl : fg = 4 := by omega
    have e4 : (4 : Int32) ≤ nI 4 := by decide
    refine ⟨4, p, vl, Nat.le_refl p, hp, by omega, ?_, ?_⟩
    · rw [zloop_succ]
      unfold b_X6_readNumber_25
      dsimp only
      rw [if_pos e4]
    · rw [zloop_succ]
      unfold b_X8_takesNumber_43 f_X8_in
      dsimp only
      by_cases c : p < K
      · rw [if_neg (nI_ge c (by omega)), zin_n (i := p) (n := 200) (by omega) (by decide), zg_t, zn_n (i := p) (by omega)]
        by_cases d1 : mb p < 48
        · rw [if_pos d1, zbd_s, if_pos rfl]
        · rw [if_neg d1]
          by_cases d2 : 57 < mb p
          · rw [if_pos d2, zbd_s, if_pos rfl]
          · rw [if_neg d2, zbd_s, if_neg ne10, if_pos e4]
      · rw [if_pos (nI_le (by omega) (by omega))]
  | succ r ih =>
    intro fg p f f' vl hf hp h1 h2
    obtain ⟨f, rfl⟩ : ∃ g, f = g + 1 := ⟨f - 1, by omega⟩
    obtain ⟨f', rfl⟩ : ∃ g, f' = g + 1 := ⟨f' - 1, by omega⟩
    have e4 : ¬ (4 : Int32) ≤ nI fg := nI_ge (b := 4) (by omega) (by decide)
    rw [zloop_succ, zloop_succ]
    generalize hrc : zloop (b_X6_readNumber_25 tl (nI K) lo hi t) f = rc
    generalize hrc' : zloop (b_X8_takesNumber_43 (nI K) m4 mb lo hi t) f' = rc'
    unfold b_X6_readNumber_25 b_X8_takesNumber_43 f_X8_in f_X6_isFigure
    dsimp only
    rw [if_neg e4]
    by_cases c : p < K
    · rw [if_neg (nI_ge c (by omega)), if_neg (nI_ge c (by omega)), zin_n (i := p) (n := 200) (by omega) (by decide), zg_t, zg_t, zg_t, zg_t, zg_t, zn_n (i := p) (by omega), ← hT.2 p c]
      by_cases d1 : tl p < 48
      · rw [if_pos d1, zbd_s, zbd_s, if_pos rfl, if_pos rfl]
        exact ⟨fg, p, vl, Nat.le_refl p, hp, by omega, rfl, rfl⟩
      · rw [if_neg d1]
        by_cases d2 : 57 < tl p
        · rw [if_pos d2, zbd_s, zbd_s, if_pos rfl, if_pos rfl]
          exact ⟨fg, p, vl, Nat.le_refl p, hp, by omega, rfl, rfl⟩
        · rw [if_neg d2, zbd_s, zbd_s, if_neg ne10, if_neg ne10, if_neg e4]
          simp only [zlet_d]
          rw [nI_1, nI_1, Int32.mul_comm 10 vl, ← hrc, ← hrc']
          obtain ⟨fg', p', vl', q1, q2, q3, q4, q5⟩ := ih (fg + 1) (p + 1) f f' (vl * 10 + tl p - 48) (by omega) (by omega) (by omega) (by omega)
          exact ⟨fg', p', vl', by omega, q2, q3, q4, q5⟩
    · rw [if_pos (nI_le (by omega) (by omega)), if_pos (nI_le (by omega) (by omega)), zbd_s, if_pos rfl]
      exact ⟨fg, p, vl, Nat.le_refl p, hp, by omega, rfl, rfl⟩
/-- what is made of the figures -/
theorem fin_eq (lo hi t vl : Int32) (P : Int32) {fg : Nat} (hf : fg ≤ 4) (ht : t = 0 ∨ t = 1) : ∃ r, (j_X6_readNumber_74 lo hi t (nI fg) vl P = some (r, P) ∧ j_X8_takesNumber_115 1 lo hi t vl (nI fg) P = some (r, P, 1) ∧ lo ≤ r ∧ r ≤ hi) ∨ (j_X6_readNumber_74 lo hi t (nI fg) vl P = some (10000, P) ∧ j_X8_takesNumber_115 1 lo hi t vl (nI fg) P = some (r, P, 0)) := by
  have key : ∀ y : Int32, ∃ r, (j_X6_readNumber_104 lo hi P y = some (r, P) ∧ j_X8_takesNumber_157 lo hi P 1 y = some (r, P, 1) ∧ lo ≤ r ∧ r ≤ hi) ∨ (j_X6_readNumber_104 lo hi P y = some (10000, P) ∧ j_X8_takesNumber_157 lo hi P 1 y = some (r, P, 0)) := fun y => by
    unfold j_X6_readNumber_104 j_X8_takesNumber_157 j_X6_readNumber_118 j_X8_takesNumber_181 j_X8_takesNumber_182 f_X8_in
    rw [if_neg ne10]
    by_cases c1 : y < lo
    · rw [if_pos c1, if_pos c1, zbd_s, if_pos rfl, zbo0, zg_t, zlet_d]
      exact ⟨y, Or.inr ⟨rfl, rfl⟩⟩
    · rw [if_neg c1, if_neg c1]
      by_cases c2 : y ≤ hi
      · rw [if_pos c2, if_neg (Int32.not_lt.mpr c2), zbd_s, if_neg ne10, zbo1, zg_t, zlet_d]
        exact ⟨y, Or.inl ⟨rfl, rfl, Int32.not_lt.mp c1, c2⟩⟩
      · rw [if_neg c2, if_pos (Int32.not_le.mp c2), zbd_s, if_pos rfl, zbo0, zg_t, zlet_d]
        exact ⟨y, Or.inr ⟨rfl, rfl⟩⟩
  have k0 : ∀ y : Int32, j_X8_takesNumber_157 lo hi P 0 y = some (y, P, 0) := fun y => by
    unfold j_X8_takesNumber_157 j_X8_takesNumber_181 j_X8_takesNumber_182
    rw [if_pos rfl, zbo0, zg_t, zlet_d]
  unfold j_X6_readNumber_74 j_X8_takesNumber_115 j_X8_takesNumber_137 j_X8_takesNumber_141 j_X8_takesNumber_142 j_X6_readNumber_92
  rw [zbo0, zbo1, zg_t, zg_t, zlet_d, zlet_d, if_neg ne10]
  rcases Nat.eq_zero_or_pos fg with h0 | h0
  · subst h0
    have e0 : nI 0 = (0 : Int32) := rfl
    have e1 : nI 0 ≤ (0 : Int32) := by decide
    rw [if_pos e0, if_pos e1, k0, k0]
    rcases ht with h | h
    · rw [if_pos h]; exact ⟨_, Or.inr ⟨rfl, rfl⟩⟩
    · rw [if_neg (by rw [h]; exact ne10)]; exact ⟨_, Or.inr ⟨rfl, rfl⟩⟩
  · rw [if_neg (nI_ne0 h0 (by omega)), if_neg (nI_nle h0 (by omega))]
    rcases ht with h | h
    · subst h
      rw [if_pos rfl, if_pos rfl, if_pos rfl]
      exact key vl
    · subst h
      rw [if_neg ne10, if_neg ne10, if_neg ne10]
      by_cases c : vl = 0
      · rw [if_pos c, if_pos c, k0]
        exact ⟨_, Or.inr ⟨rfl, rfl⟩⟩
      · rw [if_neg c, if_neg c]
        exact key (-vl)
theorem fin_0 (lo hi t vl : Int32) (P y : Int32) : ∃ r, j_X8_takesNumber_115 0 lo hi t vl y P = some (r, P, 0) := by
  unfold j_X8_takesNumber_115 j_X8_takesNumber_141 j_X8_takesNumber_142 j_X8_takesNumber_157 j_X8_takesNumber_181 j_X8_takesNumber_182
  rw [if_pos rfl, zbo0, zg_t, zlet_d, zg_t, zlet_d, if_pos rfl]
  by_cases c : t = 0
  · rw [if_pos c]; exact ⟨_, rfl⟩
  · rw [if_neg c, zg_t, zlet_d, if_pos rfl]; exact ⟨_, rfl⟩
/-- where a number's figures begin -/
theorem begin_eq {tl mb : Nat → Int32} {K p : Nat} (hT : TXE K tl mb) (hp : p ≤ K) (lo hi : Int32) : ∃ (t : Int32) (q : Nat), (t = 0 ∨ t = 1) ∧ p ≤ q ∧ q ≤ K ∧ f_X6_readNumber tl (nI K) (nI p) lo hi = zloop (b_X6_readNumber_25 tl (nI K) lo hi t) 1000 (nI 0, 0, nI q) ∧ ∀ m4, f_X8_takesNumber (nI K) (nI p) m4 mb lo hi = zloop (b_X8_takesNumber_43 (nI K) m4 mb lo hi t) 1000 (0, nI 0, nI q) := by
  have hK := hT.1
  unfold f_X6_readNumber f_X8_takesNumber j_X6_readNumber_17 j_X6_readNumber_18 j_X8_takesNumber_17 j_X8_takesNumber_18 j_X8_takesNumber_33
  by_cases c : 0 ≤ lo
  · refine ⟨0, p, Or.inl rfl, Nat.le_refl p, hp, ?_, fun m4 => ?_⟩
    · rw [if_pos c, nI_0]
    · rw [if_pos c, if_pos rfl, zlet_d, Int32.add_zero, nI_0]
  · by_cases h : HR tl K p 45
    · refine ⟨1, p + 1, Or.inr rfl, by omega, h.1, ?_, fun m4 => ?_⟩
      · rw [if_neg c, take_yes hK h, zbd_s, if_neg ne10, nI_0]
      · rw [if_neg c, here_yes hT h, zbd_s, if_neg ne10, if_neg ne10, zlet_d, nI_1, nI_0]
    · refine ⟨0, p, Or.inl rfl, Nat.le_refl p, hp, ?_, fun m4 => ?_⟩
      · rw [if_neg c, take_no hK hp h, zbd_s, if_pos rfl, nI_0]
      · rw [if_neg c, here_no hT hp h, zbd_s, if_pos rfl, if_pos rfl, zlet_d, Int32.add_zero, nI_0]
theorem num_eq {tl mb : Nat → Int32} {K p : Nat} (hT : TXE K tl mb) (hp : p ≤ K) (lo hi : Int32) : ∃ (q : Nat) (r : Int32), p ≤ q ∧ q ≤ K ∧ ((f_X6_readNumber tl (nI K) (nI p) lo hi = some (r, nI q) ∧ f_X8_takesNumber (nI K) (nI p) 1 mb lo hi = some (r, nI q, 1) ∧ lo ≤ r ∧ r ≤ hi) ∨ (f_X6_readNumber tl (nI K) (nI p) lo hi = some (10000, nI q) ∧ f_X8_takesNumber (nI K) (nI p) 1 mb lo hi = some (r, nI q, 0))) := by
  obtain ⟨t, q, h1, h2, h3, h4, h5⟩ := begin_eq hT hp lo hi
  obtain ⟨fg, q', vl, g1, g2, g3, g4, g5⟩ := digits_eq hT lo hi t 1 4 0 q 1000 1000 0 (by omega) h3 (by omega) (by omega)
  obtain ⟨r, hr⟩ := fin_eq lo hi t vl (nI q') g3 h1
  refine ⟨q', r, by omega, g2, ?_⟩
  rw [h4, h5 1, g4, g5]
  exact hr
theorem num_0 {tl mb : Nat → Int32} {K p : Nat} (hT : TXE K tl mb) (hp : p ≤ K) (lo hi : Int32) : ∃ (q : Nat) (r : Int32), p ≤ q ∧ q ≤ K ∧ f_X8_takesNumber (nI K) (nI p) 0 mb lo hi = some (r, nI q, 0) := by
  obtain ⟨t, q, h1, h2, h3, h4, h5⟩ := begin_eq hT hp lo hi
  obtain ⟨fg, q', vl, g1, g2, g3, g4, g5⟩ := digits_eq hT lo hi t 0 4 0 q 1000 1000 0 (by omega) h3 (by omega) (by omega)
  obtain ⟨r, hr⟩ := fin_0 lo hi t vl (nI q') (nI fg)
  exact ⟨q', r, by omega, g2, by rw [h5 0, g5]; exact hr⟩
