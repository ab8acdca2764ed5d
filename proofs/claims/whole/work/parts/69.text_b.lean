/-! ===== pure: stages and items of the text ===== -/
theorem low_eq : ∀ k, k < 7 → f_X8_lowOf (nI k) = some (z_lo k) ∧ f_X8_highOf (nI k) = some (z_hi k) ∧ z_hi k ≤ 1200 := by decide
theorem j90_no (mb : Nat → Int32) {tl : Nat → Int32} {K p : Nat} (hT : TXE K tl mb) (hp : p ≤ K) (md : Nat → Int32) : ∃ q md', j_X8_takesStage_90 (nI K) mb (nI p) 0 md = some (q, 0, md') := by
  unfold j_X8_takesStage_90 j_X8_takesStage_115
  by_cases h : HR tl K p 59
  · rw [takes_yes hT h, zbd_s, z0i, zg_t, if_pos rfl, zg_t, zlet_d]
    exact ⟨_, _, rfl⟩
  · rw [takes_no hT hp h, zbd_s, z0i, zg_t, if_pos rfl, zg_t, zlet_d]
    exact ⟨_, _, rfl⟩
theorem j90_bad (mb : Nat → Int32) {tl : Nat → Int32} {K p : Nat} (hT : TXE K tl mb) (hp : p ≤ K) (h : ¬ HR tl K p 59) (so : Int32) (md : Nat → Int32) : ∃ q md', j_X8_takesStage_90 (nI K) mb (nI p) so md = some (q, 0, md') := by
  unfold j_X8_takesStage_90 j_X8_takesStage_115
  rw [takes_no hT hp h, zbd_s, z0i, zg_t, if_pos rfl, zg_t, zlet_d]
  exact ⟨_, _, rfl⟩
theorem j90_yes (mb : Nat → Int32) {tl : Nat → Int32} {K p : Nat} (hT : TXE K tl mb) (h : HR tl K p 59) (md : Nat → Int32) : j_X8_takesStage_90 (nI K) mb (nI p) 1 md = some (nI (p + 1), 1, upd md 0 (md 0 + 1)) := by
  unfold j_X8_takesStage_90 j_X8_takesStage_115
  rw [takes_yes hT h, zbd_s, z0i, zg_t, if_neg ne10, zg_t, zlet_d, z0k]
theorem hd_end (m1 : Int32) (mb : Nat → Int32) (x3 : Int32) (rc : Int32 × Int32 × Int32 × (Nat → Int32) → Option (Int32 × Int32 × (Nat → Int32))) (x y so : Int32) (md : Nat → Int32) (h : so = 0 ∨ 7 ≤ x) : b_X8_takesStage_41 m1 mb x3 rc (x, y, so, md) = j_X8_takesStage_90 m1 mb y so md := by
  unfold b_X8_takesStage_41
  dsimp only
  by_cases c : 7 ≤ x
  · rw [if_pos c]
  · rw [if_neg c, if_pos (h.resolve_right c)]
theorem hd_go (m1 : Int32) (mb : Nat → Int32) (x3 : Int32) (rc : Int32 × Int32 × Int32 × (Nat → Int32) → Option (Int32 × Int32 × (Nat → Int32))) {k : Nat} (h0 : 0 < k) (h7 : k < 7) (y : Int32) (md : Nat → Int32) {a b : Int32} (ho : f_X8_takes m1 y 1 mb 44 = some (a, b)) : b_X8_takesStage_41 m1 mb x3 rc (nI k, y, 1, md) = j_X8_takesStage_64 m1 mb x3 rc (nI k, y, 1, md) a b := by
  unfold b_X8_takesStage_41
  dsimp only
  have c : ¬ (7 : Int32) ≤ nI k := nI_ge (b := 7) h7 (by decide)
  rw [if_neg c, if_neg ne10, if_neg (nI_nle h0 (by omega)), ho, zbd_s]
theorem j64_eq (m1 : Int32) (mb : Nat → Int32) {its k : Nat} (hits : its ≤ 42) (hk : k < 7) (rc : Int32 × Int32 × Int32 × (Nat → Int32) → Option (Int32 × Int32 × (Nat → Int32))) (P S y m : Int32) (md : Nat → Int32) {r q so : Int32} (hn : f_X8_takesNumber m1 y m mb (z_lo k) (z_hi k) = some (r, q, so)) : j_X8_takesStage_64 m1 mb (nI its) rc (nI k, P, S, md) y m = rc (nI (k + 1), q, so, upd md (its + k) r) := by
  obtain ⟨l1, l2, -⟩ := low_eq k hk
  unfold j_X8_takesStage_64
  dsimp only
  rw [l1, zbd_s, l2, zbd_s, hn, zbd_s, nI_add, zin_n (i := its + k) (n := 114) (by omega) (by decide), zg_t, zn_n (i := its + k) (by omega), zlet_d, zlet_d, nI_1]
set_option maxHeartbeats 4000000 in
theorem stg_eq {tl mb : Nat → Int32} {K its : Nat} (hT : TXE K tl mb) (v : R2) (h1 : 1 ≤ its) (hits : its ≤ 42) : ∀ (r k p f f' : Nat) (td md : Nat → Int32) (P S : Int32), k + r = 6 → p ≤ K → r + 1 < f → r + 2 < f' → (∃ td' q q' md', zloop (b_X6_readStage_10 tl (nI K) v 6) f (nI k, td, nI p) = some (0, td', q, v) ∧ j_X8_takesStage_64 (nI K) mb (nI its) (zloop (b_X8_takesStage_41 (nI K) mb (nI its)) f') (nI k, P, S, md) (nI p) 1 = some (q', 0, md')) ∨ (∃ td' p' md', p < p' ∧ p' ≤ K ∧ zloop (b_X6_readStage_10 tl (nI K) v 6) f (nI k, td, nI p) = j_X6_readStage_74 v td' (nI p') ∧ j_X8_takesStage_64 (nI K) mb (nI its) (zloop (b_X8_takesStage_41 (nI K) mb (nI its)) f') (nI k, P, S, md) (nI p) 1 = some (nI p', 1, upd md' 0 (md' 0 + 1)) ∧ (∀ j, k ≤ j → j < 7 → td' j = md' (its + j) ∧ z_lo j ≤ td' j ∧ td' j ≤ z_hi j) ∧ (∀ j, j < k → td' j = td j) ∧ ∀ x, (x < its + k ∨ its + 7 ≤ x) → md' x = md x) := by
  have hK := hT.1
  intro r
  induction r with
  | zero =>
    intro k p f f' td md P S hk hp hf hf'
    obtain rfl : k = 6 := by omega
    obtain ⟨f, rfl⟩ : ∃ g, f = g + 2 := ⟨f - 2, by omega⟩
    obtain ⟨f', rfl⟩ : ∃ g, f' = g + 1 := ⟨f' - 1, by omega⟩
    obtain ⟨q, rr, q1, q2, hq⟩ := num_eq hT hp (z_lo 6) (z_hi 6)
    have c6 : ¬ (6 : Int32) < nI 6 := by decide
    have c66 : (6 : Int32) ≤ nI 6 := by decide
    have i6 : zin (nI 6) 7 = true := by decide
    have n6 : zn (nI 6) = 6 := by decide
    have h7 : (7 : Int32) ≤ nI 7 := by decide
    have hC : ∀ o6, f_X6_readNumber tl (nI K) (nI p) (z_lo 6) (z_hi 6) = some o6 → zloop (b_X6_readStage_10 tl (nI K) v 6) (f + 2) (nI 6, td, nI p) = if o6.1 = 10000 then some (0, upd td 6 o6.1, o6.2, v) else j_X6_readStage_60 tl (nI K) v (zloop (b_X6_readStage_10 tl (nI K) v 6) (f + 1)) (nI 6, td, nI p) o6 (upd td 6 o6.1) 59 := fun o6 ho => by
      rw [show f + 2 = (f + 1) + 1 from rfl, zloop_succ]
      unfold b_X6_readStage_10
      dsimp only
      rw [if_neg c6, i6, zg_t, zg_t, n6, ho, zbd_s, zg_t, zlet_d, zg_t, upd_s, if_pos c66]
    rcases hq with ⟨a1, a2, a3, a4⟩ | ⟨a1, a2⟩
    · have hne : ¬ rr = 10000 := fun e => by
        rw [e] at a4
        exact absurd (Int32.le_trans a4 (low_eq 6 (by decide)).2.2) (by decide)
      rw [hC _ a1, if_neg hne, j64_eq (nI K) mb hits (by decide) _ P S (nI p) 1 md a2]
      show _ ∨ _
      have hM : zloop (b_X8_takesStage_41 (nI K) mb (nI its)) (f' + 1) (nI (6 + 1), nI q, 1, upd md (its + 6) rr) = j_X8_takesStage_90 (nI K) mb (nI q) 1 (upd md (its + 6) rr) := by rw [zloop_succ]; exact hd_end (nI K) mb (nI its) (zloop (b_X8_takesStage_41 (nI K) mb (nI its)) f') (nI 7) (nI q) 1 _ (Or.inr h7)
      rw [hM]
      by_cases c : HR tl K q 59
      · right
        refine ⟨upd td 6 rr, q + 1, upd md (its + 6) rr, by omega, c.1, ?_, j90_yes mb hT c _, fun j j1 j2 => ?_, fun j hj => upd_o (by omega), fun x hx => upd_o (by omega)⟩
        · unfold j_X6_readStage_60
          dsimp only
          rw [take_yes hK c, zbd_s, if_neg ne10, zlet_d]
          rw [zloop_succ]
          unfold b_X6_readStage_10
          dsimp only
          rw [if_pos (by decide)]
        · obtain rfl : j = 6 := by omega
          rw [upd_s, upd_s]
          exact ⟨rfl, a3, a4⟩
      · left
        obtain ⟨q', md', e⟩ := j90_bad mb hT q2 c 1 (upd md (its + 6) rr)
        refine ⟨upd td 6 rr, nI q, q', md', ?_, e⟩
        unfold j_X6_readStage_60
        dsimp only
        rw [take_no hK q2 c, zbd_s, if_pos rfl]
    · left
      rw [hC _ a1, if_pos rfl, j64_eq (nI K) mb hits (by decide) _ P S (nI p) 1 md a2]
      have hM : zloop (b_X8_takesStage_41 (nI K) mb (nI its)) (f' + 1) (nI (6 + 1), nI q, 0, upd md (its + 6) rr) = j_X8_takesStage_90 (nI K) mb (nI q) 0 (upd md (its + 6) rr) := by rw [zloop_succ]; exact hd_end (nI K) mb (nI its) (zloop (b_X8_takesStage_41 (nI K) mb (nI its)) f') (nI 7) (nI q) 0 _ (Or.inl rfl)
      rw [hM]
      obtain ⟨q', md', e⟩ := j90_no mb hT q2 (upd md (its + 6) rr)
      exact ⟨_, _, q', md', rfl, e⟩
  | succ r ih =>
    intro k p f f' td md P S hk hp hf hf'
    obtain ⟨f, rfl⟩ : ∃ g, f = g + 1 := ⟨f - 1, by omega⟩
    obtain ⟨f', rfl⟩ : ∃ g, f' = g + 1 := ⟨f' - 1, by omega⟩
    have k7 : k < 7 := by omega
    obtain ⟨q, rr, q1, q2, hq⟩ := num_eq hT hp (z_lo k) (z_hi k)
    have c6 : ¬ (6 : Int32) < nI k := nI_nlt (a := 6) (by omega) (by decide)
    have c66 : ¬ (6 : Int32) ≤ nI k := nI_ge (b := 6) (by omega) (by decide)
    have i6 : zin (nI k) 7 = true := zin_n k7 (by decide)
    have n6 : zn (nI k) = k := zn_n (by omega)
    have hC : ∀ o6, f_X6_readNumber tl (nI K) (nI p) (z_lo k) (z_hi k) = some o6 → zloop (b_X6_readStage_10 tl (nI K) v 6) (f + 1) (nI k, td, nI p) = if o6.1 = 10000 then some (0, upd td k o6.1, o6.2, v) else j_X6_readStage_60 tl (nI K) v (zloop (b_X6_readStage_10 tl (nI K) v 6) f) (nI k, td, nI p) o6 (upd td k o6.1) 44 := fun o6 ho => by
      rw [zloop_succ]
      unfold b_X6_readStage_10
      dsimp only
      rw [if_neg c6, i6, zg_t, zg_t, n6, ho, zbd_s, zg_t, zlet_d, zg_t, upd_s, if_neg c66]
    rcases hq with ⟨a1, a2, a3, a4⟩ | ⟨a1, a2⟩
    · have hne : ¬ rr = 10000 := fun e => by
        rw [e] at a4
        exact absurd (Int32.le_trans a4 (low_eq k k7).2.2) (by decide)
      rw [hC _ a1, if_neg hne, j64_eq (nI K) mb hits k7 _ P S (nI p) 1 md a2]
      by_cases c : HR tl K q 44
      · have hM : zloop (b_X8_takesStage_41 (nI K) mb (nI its)) (f' + 1) (nI (k + 1), nI q, 1, upd md (its + k) rr) = j_X8_takesStage_64 (nI K) mb (nI its) (zloop (b_X8_takesStage_41 (nI K) mb (nI its)) f') (nI (k + 1), nI q, 1, upd md (its + k) rr) (nI (q + 1)) 1 := by
          rw [zloop_succ]
          exact hd_go (nI K) mb (nI its) (zloop (b_X8_takesStage_41 (nI K) mb (nI its)) f') (k := k + 1) (by omega) (by omega) (nI q) _ (takes_yes hT c 1)
        have hC2 : j_X6_readStage_60 tl (nI K) v (zloop (b_X6_readStage_10 tl (nI K) v 6) f) (nI k, td, nI p) (rr, nI q) (upd td k rr) 44 = zloop (b_X6_readStage_10 tl (nI K) v 6) f (nI (k + 1), upd td k rr, nI (q + 1)) := by
          unfold j_X6_readStage_60
          dsimp only
          rw [take_yes hK c, zbd_s, if_neg ne10, zlet_d, nI_1]
        rw [hM, hC2]
        rcases ih (k + 1) (q + 1) f f' (upd td k rr) (upd md (its + k) rr) (nI q) 1 (by omega) c.1 (by omega) (by omega) with ⟨td', b1, b2, md', e1, e2⟩ | ⟨td', p', md', e1, e2, e3, e4, e5, e6, e7⟩
        · exact Or.inl ⟨td', b1, b2, md', e1, e2⟩
        · refine Or.inr ⟨td', p', md', by omega, e2, e3, e4, fun j j1 j2 => ?_, fun j hj => ?_, fun x hx => ?_⟩
          · by_cases e : j = k
            · subst e
              rw [e6 j (by omega), upd_s, e7 (its + j) (by omega), upd_s]
              exact ⟨rfl, a3, a4⟩
            · exact e5 j (by omega) j2
          · rw [e6 j (by omega), upd_o (by omega)]
          · rw [e7 x (by omega), upd_o (by omega)]
      · have hM : zloop (b_X8_takesStage_41 (nI K) mb (nI its)) (f' + 1) (nI (k + 1), nI q, 1, upd md (its + k) rr) = j_X8_takesStage_64 (nI K) mb (nI its) (zloop (b_X8_takesStage_41 (nI K) mb (nI its)) f') (nI (k + 1), nI q, 1, upd md (its + k) rr) (nI q) 0 := by
          rw [zloop_succ]
          exact hd_go (nI K) mb (nI its) (zloop (b_X8_takesStage_41 (nI K) mb (nI its)) f') (k := k + 1) (by omega) (by omega) (nI q) _ (takes_no hT q2 c 1)
        obtain ⟨w, r2, w1, w2, w3⟩ := num_0 hT q2 (z_lo (k + 1)) (z_hi (k + 1))
        obtain ⟨f', rfl⟩ : ∃ g, f' = g + 1 := ⟨f' - 1, by omega⟩
        rw [hM, j64_eq (nI K) mb hits (show k + 1 < 7 by omega) _ _ _ (nI q) 0 _ w3]
        have hM2 : zloop (b_X8_takesStage_41 (nI K) mb (nI its)) (f' + 1) (nI (k + 1 + 1), nI w, 0, upd (upd md (its + k) rr) (its + (k + 1)) r2) = j_X8_takesStage_90 (nI K) mb (nI w) 0 (upd (upd md (its + k) rr) (its + (k + 1)) r2) := by rw [zloop_succ]; exact hd_end (nI K) mb (nI its) (zloop (b_X8_takesStage_41 (nI K) mb (nI its)) f') (nI (k + 1 + 1)) (nI w) 0 _ (Or.inl rfl)
        obtain ⟨q', md', e⟩ := j90_no mb hT w2 (upd (upd md (its + k) rr) (its + (k + 1)) r2)
        rw [hM2]
        left
        refine ⟨upd td k rr, nI q, q', md', ?_, e⟩
        unfold j_X6_readStage_60
        dsimp only
        rw [take_no hK q2 c, zbd_s, if_pos rfl]
    · left
      rw [hC _ a1, if_pos rfl, j64_eq (nI K) mb hits k7 _ P S (nI p) 1 md a2]
      have hM : zloop (b_X8_takesStage_41 (nI K) mb (nI its)) (f' + 1) (nI (k + 1), nI q, 0, upd md (its + k) rr) = j_X8_takesStage_90 (nI K) mb (nI q) 0 (upd md (its + k) rr) := by rw [zloop_succ]; exact hd_end (nI K) mb (nI its) (zloop (b_X8_takesStage_41 (nI K) mb (nI its)) f') (nI (k + 1)) (nI q) 0 _ (Or.inl rfl)
      rw [hM]
      obtain ⟨q', md', e⟩ := j90_no mb hT q2 (upd md (its + k) rr)
      exact ⟨_, _, q', md', rfl, e⟩
theorem layDown_eq (g t : Nat → Int32) : ∃ g', f_X4_layDown g t = some g' ∧ (∀ c, c < 7 → g' c = t c) ∧ ∀ c, 7 ≤ c → c < 12 → g' c = 0 := by
  unfold f_X4_layDown
  rw [if_pos (by decide), show zin 0 7 = true from by decide, show zin 1 7 = true from by decide, show zin 2 7 = true from by decide, show zin 3 7 = true from by decide, show zin 4 7 = true from by decide, show zin 5 7 = true from by decide, show zin 6 7 = true from by decide, zbo0]
  simp only [zg_t, zlet_d]
  refine ⟨_, rfl, fun c hc => ?_, fun c h7 hc => ?_⟩
  · match c, hc with
    | 0, _ => rfl
    | 1, _ => rfl
    | 2, _ => rfl
    | 3, _ => rfl
    | 4, _ => rfl
    | 5, _ => rfl
    | 6, _ => rfl
    | c + 7, h => exact absurd h (by omega)
  · match c, h7, hc with
    | 7, _, _ => rfl
    | 8, _, _ => rfl
    | 9, _, _ => rfl
    | 10, _, _ => rfl
    | 11, _, _ => rfl
    | c + 12, _, h => exact absurd h (by omega)
    | 0, h, _ => exact absurd h (by omega)
    | 1, h, _ => exact absurd h (by omega)
    | 2, h, _ => exact absurd h (by omega)
    | 3, h, _ => exact absurd h (by omega)
    | 4, h, _ => exact absurd h (by omega)
    | 5, h, _ => exact absurd h (by omega)
    | 6, h, _ => exact absurd h (by omega)
/-- a line half read -/
def DQ (s : Nat) (u : R2) (md : Nat → Int32) : Prop := s ≤ 4 ∧ (u 9 0 = nI s ∧ md 0 = nI s) ∧ (u 9 1 = md 1 ∧ inI (u 9 1) 800 1200) ∧ (u 9 2 = 0 ∧ u 8 0 = 0 ∧ u 8 1 = 0) ∧ (∀ j, 2 ≤ j → j < 6 → md j = 0) ∧ FR s u md ∧ RG s u ∧ SB u ∧ ∀ j, 6 + 12 * s ≤ j → j < 114 → md j = 0
theorem le_in {x a b : Int32} {p q : Int} (ha : a.toInt = p) (hb : b.toInt = q) (h1 : a ≤ x) (h2 : x ≤ b) : inI x p q := ⟨ha ▸ Int32.le_iff_toInt_le.mp h1, hb ▸ Int32.le_iff_toInt_le.mp h2⟩
theorem add_DQ {s : Nat} {u : R2} {md md' td : Nat → Int32} (hD : DQ s u md) (hs : s < 4) (h1 : ∀ j, j < 7 → td j = md' (6 + 12 * s + j) ∧ z_lo j ≤ td j ∧ td j ≤ z_hi j) (h2 : ∀ x, (x < 6 + 12 * s ∨ 6 + 12 * s + 7 ≤ x) → md' x = md x) : ∃ u', f_X1_addStage u td = some (1, u') ∧ DQ (s + 1) u' (upd md' 0 (md' 0 + 1)) := by
  obtain ⟨d1, ⟨d2, d3⟩, ⟨d4, d5⟩, ⟨d6, d7, d8⟩, d9, d10, d11, d12, d13⟩ := hD
  obtain ⟨g', e1, e2, e3⟩ := layDown_eq (u s) td
  have r9 : ∀ c, va_up u s g' 9 c = u 9 c := fun c => by rw [vau_o (by omega)]
  have r8 : ∀ c, va_up u s g' 8 c = u 8 c := fun c => by rw [vau_o (by omega)]
  have hlt : nI s < (4 : Int32) := nI_lt (b := 4) hs (by decide)
  have m0 : md' 0 = nI s := (h2 0 (by omega)).trans d3
  have hRow : RGr g' := by
    have q0 := h1 0 (by decide)
    have q1 := h1 1 (by decide)
    have q2 := h1 2 (by decide)
    have q3 := h1 3 (by decide)
    have q4 := h1 4 (by decide)
    have q5 := h1 5 (by decide)
    have q6 := h1 6 (by decide)
    unfold RGr
    rw [e2 0 (by decide), e2 1 (by decide), e2 2 (by decide), e2 3 (by decide), e2 4 (by decide), e2 5 (by decide), e2 6 (by decide), e3 7 (by decide) (by decide), e3 8 (by decide) (by decide), e3 9 (by decide) (by decide), e3 10 (by decide) (by decide)]
    exact ⟨le_in (a := 1) (b := 50) (by decide) (by decide) q0.2.1 q0.2.2, le_in (a := 800) (b := 1200) (by decide) (by decide) q1.2.1 q1.2.2, le_in (a := 1) (b := 99) (by decide) (by decide) q2.2.1 q2.2.2, le_in (a := 1) (b := 9) (by decide) (by decide) q3.2.1 q3.2.2, le_in (a := 0) (b := 2) (by decide) (by decide) q4.2.1 q4.2.2, le_in (a := -50) (b := 50) (by decide) (by decide) q5.2.1 q5.2.2, le_in (a := 0) (b := 9) (by decide) (by decide) q6.2.1 q6.2.2, ⟨by decide, by decide⟩, ⟨by decide, by decide⟩, ⟨by decide, by decide⟩, ⟨by decide, by decide⟩⟩
  refine ⟨z2 (va_up u s g') 9 0 (nI (s + 1)), ?_, by omega, ⟨z2_s _ _ _ _, by rw [upd_s, m0, nI_1]⟩, ⟨?_, ?_⟩, ⟨?_, ?_, ?_⟩, fun j j1 j2 => ?_, fun i hi k hk => ?_, fun i hi => ?_, fun i hi => ?_, fun j j1 j2 => ?_⟩
  · unfold f_X1_addStage
    rw [d2, if_pos hlt, z4 hs, zg_t, n4 hs, e1, zbd_s, zlet_d, r9, d2, nI_1, zlet_d]
  · rw [z2_c (by decide), r9, upd_o (by decide), h2 1 (by omega)]; exact d4
  · rw [z2_c (by decide), r9]; exact d5
  · rw [z2_c (by decide), r9]; exact d6
  · rw [z2_r (by decide), r8]; exact d7
  · rw [z2_r (by decide), r8]; exact d8
  · rw [upd_o (by omega), h2 j (by omega)]; exact d9 j j1 j2
  · have hp := pm_lt hk
    rw [z2_r (by omega), upd_o (by omega)]
    by_cases e : i = s
    · subst e
      rw [vau_s]
      by_cases c7 : k < 7
      · have hpk : pm k = k := by unfold pm; rw [if_pos (by omega)]
        rw [hpk, e2 k c7]
        exact (h1 k c7).1
      · have hpk : 7 ≤ pm k := by
          unfold pm
          by_cases c8 : k < 8
          · rw [if_pos c8]; omega
          · rw [if_neg c8]
            by_cases c11 : k = 11
            · rw [if_pos c11]; omega
            · rw [if_neg c11]; omega
        rw [e3 k (by omega) hk, h2 _ (by omega), d13 _ (by omega) (by omega)]
    · rw [vau_o e, h2 _ (by omega)]
      exact d10 i (by omega) k hk
  · have er : z2 (va_up u s g') 9 0 (nI (s + 1)) i = va_up u s g' i := z2_row i (by omega)
    rw [er]
    by_cases e : i = s
    · subst e; rw [vau_s]; exact hRow
    · rw [vau_o e]; exact d11 i (by omega)
  · rw [z2_r (by omega)]
    by_cases e : i = s
    · subst e; rw [vau_s, e3 11 (by decide) (by decide)]; exact Or.inl rfl
    · rw [vau_o e]; exact d12 i hi
  · rw [upd_o (by omega), h2 j (by omega)]; exact d13 j (by omega) j2
