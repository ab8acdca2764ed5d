/-! ===== pure: numbers in their ranges; tell ===== -/
theorem bm32 {z : Int} (h1 : -2000000000 ≤ z) (h2 : z ≤ 2000000000) : z.bmod (2 ^ 32) = z := Int.bmod_eq_of_le_mul_two (by show -((4294967296 : Nat) : Int) ≤ z * 2; omega) (by show z * 2 < ((4294967296 : Nat) : Int); omega)
theorem tI_add {x y : Int32} (h1 : -2000000000 ≤ x.toInt + y.toInt) (h2 : x.toInt + y.toInt ≤ 2000000000) : (x + y).toInt = x.toInt + y.toInt := by
  rw [Int32.toInt_add]; exact bm32 h1 h2
theorem tI_sub {x y : Int32} (h1 : -2000000000 ≤ x.toInt - y.toInt) (h2 : x.toInt - y.toInt ≤ 2000000000) : (x - y).toInt = x.toInt - y.toInt := by
  rw [Int32.toInt_sub]; exact bm32 h1 h2
theorem tI_mul {x y : Int32} (h1 : -2000000000 ≤ x.toInt * y.toInt) (h2 : x.toInt * y.toInt ≤ 2000000000) : (x * y).toInt = x.toInt * y.toInt := by
  rw [Int32.toInt_mul]; exact bm32 h1 h2
theorem inI_of {x a b : Int32} {p q : Int} (ha : a.toInt = p) (hb : b.toInt = q) (h1 : ¬ x < a) (h2 : ¬ b < x) : inI x p q := ⟨ha ▸ Int32.le_iff_toInt_le.mp (Int32.not_lt.mp h1), hb ▸ Int32.le_iff_toInt_le.mp (Int32.not_lt.mp h2)⟩
/-- the ranges of one stage -/
def RGr (g : Nat → Int32) : Prop := inI (g 0) 1 50 ∧ inI (g 1) 800 1200 ∧ inI (g 2) 1 99 ∧ inI (g 3) 1 9 ∧ inI (g 4) 0 2 ∧ inI (g 5) (-50) 50 ∧ inI (g 6) 0 9 ∧ inI (g 7) (-5) 5 ∧ inI (g 8) 0 9 ∧ inI (g 9) 0 2 ∧ inI (g 10) 0 2
theorem RG_st {n : Nat} {v w : R2} {i : Nat} (h : RG n v) (ho : ∀ j, j ≠ i → w j = v j) (hi : i < n → RGr (w i)) : RG n w := fun j hj => by
  by_cases e : j = i
  · subst e; exact hi hj
  · rw [ho j e]; exact h j hj
theorem z2_row {v : R2} {i k : Nat} {x : Int32} : ∀ j, j ≠ i → z2 v i k x j = v j := fun j hj => funext fun _ => z2_r hj
theorem SB_z2 {v : R2} {i k : Nat} {x : Int32} (h : SB v) (hk : k ≠ 11) : SB (z2 v i k x) := fun j hj => by
  rw [z2_e, if_neg (fun q => hk q.2.symm)]; exact h j hj
theorem RG_5 {n : Nat} {v : R2} {i : Nat} {x : Int32} (h : RG n v) (hx : inI x (-50) 50) : RG n (z2 v i 5 x) := RG_st h z2_row fun hi => by
  have e : ∀ c, c ≠ 5 → z2 v i 5 x i c = v i c := fun c hc => z2_c hc
  unfold RGr
  rw [e 0 (by decide), e 1 (by decide), e 2 (by decide), e 3 (by decide), e 4 (by decide), z2_s, e 6 (by decide), e 7 (by decide), e 8 (by decide), e 9 (by decide), e 10 (by decide)]
  obtain ⟨a0, a1, a2, a3, a4, a5, a6, a7, a8, a9, a10⟩ := h i hi
  exact ⟨a0, a1, a2, a3, a4, hx, a6, a7, a8, a9, a10⟩
theorem RG_7 {n : Nat} {v : R2} {i : Nat} {x : Int32} (h : RG n v) (hx : inI x (-5) 5) : RG n (z2 v i 7 x) := RG_st h z2_row fun hi => by
  have e : ∀ c, c ≠ 7 → z2 v i 7 x i c = v i c := fun c hc => z2_c hc
  unfold RGr
  rw [e 0 (by decide), e 1 (by decide), e 2 (by decide), e 3 (by decide), e 4 (by decide), e 5 (by decide), e 6 (by decide), z2_s, e 8 (by decide), e 9 (by decide), e 10 (by decide)]
  obtain ⟨a0, a1, a2, a3, a4, a5, a6, a7, a8, a9, a10⟩ := h i hi
  exact ⟨a0, a1, a2, a3, a4, a5, a6, hx, a8, a9, a10⟩
theorem RG_3 {n : Nat} {v : R2} {i : Nat} {x : Int32} (h : RG n v) (hx : inI x 1 9) : RG n (z2 v i 3 x) := RG_st h z2_row fun hi => by
  have e : ∀ c, c ≠ 3 → z2 v i 3 x i c = v i c := fun c hc => z2_c hc
  unfold RGr
  rw [e 0 (by decide), e 1 (by decide), e 2 (by decide), z2_s, e 4 (by decide), e 5 (by decide), e 6 (by decide), e 7 (by decide), e 8 (by decide), e 9 (by decide), e 10 (by decide)]
  obtain ⟨a0, a1, a2, a3, a4, a5, a6, a7, a8, a9, a10⟩ := h i hi
  exact ⟨a0, a1, a2, hx, a4, a5, a6, a7, a8, a9, a10⟩
theorem tell_fin {tl : Nat → Int32} {tn pn pz : Int32} {pl : Nat → R2} {v u : R2} {m1 m2 : Int32} {mb ms mp : Nat → Int32} (h : RR tl tn pn pz pl v u m1 m2 mb ms mp) {n t T P q : Nat} (ht : t ≤ 9999) (hL : LR n t T v ms) (hP : RP P q pn pz pl m2 mp) {i k : Nat} (hi : i < n) (hk : k < 8) (hk2 : k < 12) (zero lo hi' z : Int32) (X : Option (Int32 × Int32 × Int32 × (Nat → R2) × R2)) (Y : Option (Int32 × Int32 × Int32 × (Nat → Int32) × (Nat → Int32)))
    (hX : X = if z < lo then some ((-1), pn, pz, pl, v) else if hi' < z then some ((-1), pn, pz, pl, v) else if v i k + zero = z then some ((-2), pn, pz, pl, v) else zbd (f_X2_keep pn pz pl v) fun o5 => zbd (f_X1_reckon (z2 v i k (z - zero))) fun o8 => some (v i k + zero, o5.1, o5.2.1, o5.2.2, o8))
    (hY : Y = if z < lo then some ((-1), 0, m2, ms, mp) else if hi' < z then some ((-1), 0, m2, ms, mp) else if ms (6 + 12 * i + k) + zero = z then some ((-2), 0, m2, ms, mp) else zbd (f_X8_notes m2 ms mp) fun o8 => some (ms (6 + 12 * i + k) + zero, 0, o8.1, upd ms (6 + 12 * i + k) (z - zero), o8.2))
    (hR : ¬ z < lo → ¬ hi' < z → RG n (z2 v i k (z - zero))) : ∃ o o', X = some o ∧ Y = some o' ∧ o.1 = o'.1 ∧ RR tl tn o.2.1 o.2.2.1 o.2.2.2.1 o.2.2.2.2 u m1 o'.2.2.1 mb o'.2.2.2.1 o'.2.2.2.2 := by
  have hp : pm k = k := by unfold pm; rw [if_pos hk]
  have hf : v i k = ms (6 + 12 * i + k) := by
    have := hL.2.2.2.2.2.2.1 i hi k hk2
    rw [hp] at this
    exact this
  rw [hX, hY]
  by_cases c1 : z < lo
  · rw [if_pos c1, if_pos c1]; exact ⟨_, _, rfl, rfl, rfl, h⟩
  · rw [if_neg c1, if_neg c1]
    by_cases c2 : hi' < z
    · rw [if_pos c2, if_pos c2]; exact ⟨_, _, rfl, rfl, rfl, h⟩
    · rw [if_neg c2, if_neg c2, ← hf]
      by_cases c3 : v i k + zero = z
      · rw [if_pos c3, if_pos c3]; exact ⟨_, _, rfl, rfl, rfl, h⟩
      · rw [if_neg c3, if_neg c3]
        obtain ⟨o, o', e1, e2, e3⟩ := keep_eq hL ht hP
        have hQ := LQ_st (k := k) (LR_LQ hL) hi hk2 (hR c1 c2) (SB_z2 hL.2.2.2.2.2.2.2.2.2 (by omega))
        rw [hp] at hQ
        obtain ⟨w, w1, w2⟩ := reckon_LR hQ
        rw [e1, e2, zbd_s, zbd_s, w1, zbd_s]
        exact ⟨_, _, rfl, rfl, rfl, h.1, ⟨n, t, T, ht, w2⟩, ⟨_, _, e3⟩, h.2.2.2⟩
theorem st_tell {tl : Nat → Int32} {tn pn pz : Int32} {pl : Nat → R2} {v u : R2} {m1 m2 : Int32} {mb ms mp : Nat → Int32} (h : RR tl tn pn pz pl v u m1 m2 mb ms mp) (x y z : Int32) : ∃ o o', f_X7_tell pn pz pl v x y z = some o ∧ f_X8_tell m2 ms mp x y z = some o' ∧ o.1 = o'.1 ∧ RR tl tn o.2.1 o.2.2.1 o.2.2.2.1 o.2.2.2.2 u m1 o'.2.2.1 mb o'.2.2.2.1 o'.2.2.2.2 := by
  obtain ⟨h1, ⟨n, t, T, ht, hL⟩, ⟨P, q, hP⟩, h4⟩ := id h
  rcases has_eq v hL.1.2 hL.2.1.1 x with ⟨i, hi, rfl, e⟩ | ⟨hx, e⟩
  · have i4 : i < 4 := by have := hL.1; omega
    have hs := isStage_yes ms hL.1.2 hL.2.1.2 hi
    have hR0 := (LR_LQ hL).2.2.2.2.2.2.2.1
    by_cases y0 : y = 0
    · subst y0
      refine tell_fin h ht hL hP hi (k := 5) (by decide) (by decide) 1000 950 1050 z _ _ ?_ ?_ (fun c1 c2 => RG_5 hR0 ?_)
      · unfold f_X7_tell f_X7_mayBeTold f_X4_valueToTell f_X4_takeTold
        rw [e, zbd_s, if_neg ne10, if_pos rfl]
        by_cases c1 : z < 950
        · rw [if_pos c1, if_pos c1, zbd_s, if_pos rfl]
        · rw [if_neg c1, if_neg c1]
          by_cases c2 : 1050 < z
          · rw [if_pos c2, if_pos c2, zbd_s, if_pos rfl]
          · rw [if_neg c2, if_neg c2, zbd_s, if_neg ne10, z4 i4, zg_t, n4 i4, if_pos rfl, if_pos rfl, zbd_s]
            rfl
      · unfold f_X8_tell
        rw [hs, zlet_d, zbd_s, if_neg ne10, show f_X8_in 0 0 2 = some 1 from rfl, zbd_s, if_neg ne10, if_neg (by decide)]
        unfold j_X8_tell_36 j_X8_tell_57 f_X8_in j_X8_tell_101
        rw [if_pos rfl, if_pos rfl, of_5 ms i4, puts_5 ms i4]
        by_cases c1 : z < 950
        · rw [if_pos c1, if_pos c1, zbd_s, if_pos rfl]
        · rw [if_neg c1, if_neg c1]
          by_cases c2 : 1050 < z
          · rw [if_pos c2, if_pos c2, zbd_s, if_pos rfl]
          · rw [if_neg c2, if_neg c2, zbd_s, if_neg ne10, zbd_s]
            rfl
      · have hz := inI_of (x := z) (a := 950) (b := 1050) (p := 950) (q := 1050) (by decide) (by decide) c1 c2
        have hk : (1000 : Int32).toInt = 1000 := by decide
        have := tI_sub (x := z) (y := 1000) (by rw [hk]; have := hz.1; omega) (by rw [hk]; have := hz.2; omega)
        rw [hk] at this
        unfold inI at hz ⊢
        omega
    · by_cases y1 : y = 1
      · subst y1
        refine tell_fin h ht hL hP hi (k := 7) (by decide) (by decide) 1000 995 1005 z _ _ ?_ ?_ (fun c1 c2 => RG_7 hR0 ?_)
        · unfold f_X7_tell f_X7_mayBeTold f_X4_valueToTell f_X4_takeTold
          rw [e, zbd_s, if_neg ne10, if_neg ne10, if_pos rfl]
          by_cases c1 : z < 995
          · rw [if_pos c1, if_pos c1, zbd_s, if_pos rfl]
          · rw [if_neg c1, if_neg c1]
            by_cases c2 : 1005 < z
            · rw [if_pos c2, if_pos c2, zbd_s, if_pos rfl]
            · rw [if_neg c2, if_neg c2, zbd_s, if_neg ne10, z4 i4, zg_t, n4 i4, if_neg ne10, if_pos rfl, if_neg ne10, if_pos rfl, zbd_s]
              rfl
        · unfold f_X8_tell
          rw [hs, zlet_d, zbd_s, if_neg ne10, show f_X8_in 1 0 2 = some 1 from rfl, zbd_s, if_neg ne10, if_neg (by decide)]
          unfold j_X8_tell_36 j_X8_tell_57 f_X8_in j_X8_tell_101
          rw [if_neg ne10, if_pos rfl, if_neg ne10, if_pos rfl, of_7 ms i4, puts_7 ms i4]
          by_cases c1 : z < 995
          · rw [if_pos c1, if_pos c1, zbd_s, if_pos rfl]
          · rw [if_neg c1, if_neg c1]
            by_cases c2 : 1005 < z
            · rw [if_pos c2, if_pos c2, zbd_s, if_pos rfl]
            · rw [if_neg c2, if_neg c2, zbd_s, if_neg ne10, zbd_s]
              rfl
        · have hz := inI_of (x := z) (a := 995) (b := 1005) (p := 995) (q := 1005) (by decide) (by decide) c1 c2
          have hk : (1000 : Int32).toInt = 1000 := by decide
          have := tI_sub (x := z) (y := 1000) (by rw [hk]; have := hz.1; omega) (by rw [hk]; have := hz.2; omega)
          rw [hk] at this
          unfold inI at hz ⊢
          omega
      · by_cases y2 : y = 2
        · subst y2
          refine tell_fin h ht hL hP hi (k := 3) (by decide) (by decide) 0 1 9 z _ _ ?_ ?_ (fun c1 c2 => RG_3 hR0 ?_)
          · unfold f_X7_tell f_X7_mayBeTold f_X4_valueToTell f_X4_takeTold
            rw [e, zbd_s, if_neg ne10, if_neg y0, if_neg y1, if_pos rfl, Int32.add_zero, Int32.sub_zero]
            by_cases c1 : z < 1
            · rw [if_pos c1, if_pos c1, zbd_s, if_pos rfl]
            · rw [if_neg c1, if_neg c1]
              by_cases c2 : 9 < z
              · rw [if_pos c2, if_pos c2, zbd_s, if_pos rfl]
              · rw [if_neg c2, if_neg c2, zbd_s, if_neg ne10, z4 i4, zg_t, n4 i4, if_neg y0, if_neg y1, if_neg y0, if_neg y1, zbd_s]
                rfl
          · unfold f_X8_tell
            rw [hs, zlet_d, zbd_s, if_neg ne10, show f_X8_in 2 0 2 = some 1 from rfl, zbd_s, if_neg ne10, if_pos (by decide)]
            unfold j_X8_tell_36 j_X8_tell_57 f_X8_in j_X8_tell_101
            rw [if_neg y0, if_neg y1, if_neg y0, if_neg y1, of_3 ms i4, puts_3 ms i4]
            by_cases c1 : z < 1
            · rw [if_pos c1, if_pos c1, zbd_s, if_pos rfl]
            · rw [if_neg c1, if_neg c1]
              by_cases c2 : 9 < z
              · rw [if_pos c2, if_pos c2, zbd_s, if_pos rfl]
              · rw [if_neg c2, if_neg c2, zbd_s, if_neg ne10, zbd_s]
                rfl
          · rw [Int32.sub_zero]
            exact inI_of (x := z) (a := 1) (b := 9) (p := 1) (q := 9) (by decide) (by decide) c1 c2
        · refine ⟨((-1), pn, pz, pl, v), ((-1), 0, m2, ms, mp), ?_, ?_, rfl, h⟩
          · unfold f_X7_tell f_X7_mayBeTold
            rw [e, zbd_s, if_neg ne10, if_neg y0, if_neg y1, if_neg y2, zbd_s, if_pos rfl]
          · unfold f_X8_tell f_X8_in
            rw [hs, zlet_d, zbd_s, if_neg ne10]
            by_cases c1 : y < 0
            · rw [if_pos c1, zbd_s, if_pos rfl]
            · rw [if_neg c1]
              by_cases c2 : 2 < y
              · rw [if_pos c2, zbd_s, if_pos rfl]
              · exfalso
                obtain ⟨j, hj, rfl⟩ := nI_of2 (M := 2) (n := 2) (by decide) c1 (Int32.not_lt.mp c2)
                match j, hj with
                | 0, _ => exact y0 rfl
                | 1, _ => exact y1 rfl
                | 2, _ => exact y2 rfl
                | j + 3, hj => omega
  · refine ⟨((-1), pn, pz, pl, v), ((-1), 0, m2, ms, mp), ?_, ?_, rfl, h⟩
    · unfold f_X7_tell
      rw [e, zbd_s, if_pos rfl]
    · unfold f_X8_tell
      rw [isStage_no ms hL.1 hL.2.1.2 hx, zlet_d, zbd_s, if_pos rfl]
/-! ===== pure: stage, graded, waits, done ===== -/
theorem st_stage {tl : Nat → Int32} {tn pn pz : Int32} {pl : Nat → R2} {v u : R2} {m1 m2 : Int32} {mb ms mp : Nat → Int32} (h : RR tl tn pn pz pl v u m1 m2 mb ms mp) (mf mi mo mw mn : Nat → Int32) (x y : Int32) : ∃ o o', f_X7_stage v x y = some o ∧ f_X8_stage ms mf mi mo mw mn x y = some o' ∧ o = o'.1 := by
  obtain ⟨-, ⟨n, t, T, ht, hL⟩, -, -⟩ := h
  unfold f_X7_stage f_X8_stage
  simp only [zlet_d]
  rcases has_eq v hL.1.2 hL.2.1.1 x with ⟨i, hi, rfl, e⟩ | ⟨hx, e⟩
  · have i4 : i < 4 := by have := hL.1; omega
    have hF := hL.2.2.2.2.2.2.1 i hi
    obtain ⟨o4, p1, p2⟩ := lays_eq mf mi mo mw mn hL.1 hL.2.1.2 hL.2.2.2.1.1 hL.2.2.2.2.2.2.1 hL.2.2.2.2.2.2.2.1 hL.2.2.2.2.2.2.2.2.1
    obtain ⟨q1, q2, q3, q4, q5⟩ := p2 i hi
    rw [e, isStage_yes ms hL.1.2 hL.2.1.2 hi, zbd_s, zbd_s, if_neg ne10, if_neg ne10, z4 i4, zg_t, n4 i4, p1]
    unfold f_X8_in
    by_cases c1 : y < 0
    · rw [if_pos c1, zbd_s, if_pos rfl]
      have ne : ∀ c : Int32, 0 ≤ c → c ≤ 15 → ¬ y = c := fun c k1 k2 k => by subst k; exact absurd c1 (Int32.not_lt.mpr k1)
      refine ⟨-1, _, ?_, rfl, rfl⟩
      unfold f_X4_valueOf
      rw [if_neg (ne 0 (by decide) (by decide)), if_neg (ne 1 (by decide) (by decide)), if_neg (ne 2 (by decide) (by decide)), if_neg (ne 3 (by decide) (by decide)), if_neg (ne 4 (by decide) (by decide)), if_neg (ne 5 (by decide) (by decide)), if_neg (ne 6 (by decide) (by decide)), if_neg (ne 7 (by decide) (by decide)), if_neg (ne 8 (by decide) (by decide)), if_neg (ne 9 (by decide) (by decide)), if_neg (ne 10 (by decide) (by decide)), if_neg (ne 11 (by decide) (by decide)), if_neg (ne 12 (by decide) (by decide)), if_neg (ne 13 (by decide) (by decide)), if_neg (ne 14 (by decide) (by decide)), if_neg (ne 15 (by decide) (by decide))]
      rfl
    · rw [if_neg c1]
      by_cases c2 : 15 < y
      · rw [if_pos c2, zbd_s, if_pos rfl]
        have ne : ∀ c : Int32, 0 ≤ c → c ≤ 15 → ¬ y = c := fun c k1 k2 k => by subst k; exact absurd c2 (Int32.not_lt.mpr k2)
        refine ⟨-1, _, ?_, rfl, rfl⟩
        unfold f_X4_valueOf
        rw [if_neg (ne 0 (by decide) (by decide)), if_neg (ne 1 (by decide) (by decide)), if_neg (ne 2 (by decide) (by decide)), if_neg (ne 3 (by decide) (by decide)), if_neg (ne 4 (by decide) (by decide)), if_neg (ne 5 (by decide) (by decide)), if_neg (ne 6 (by decide) (by decide)), if_neg (ne 7 (by decide) (by decide)), if_neg (ne 8 (by decide) (by decide)), if_neg (ne 9 (by decide) (by decide)), if_neg (ne 10 (by decide) (by decide)), if_neg (ne 11 (by decide) (by decide)), if_neg (ne 12 (by decide) (by decide)), if_neg (ne 13 (by decide) (by decide)), if_neg (ne 14 (by decide) (by decide)), if_neg (ne 15 (by decide) (by decide))]
        rfl
      · rw [if_neg c2, zbd_s, if_neg ne10, zbd_s]
        obtain ⟨j, hj, rfl⟩ := nI_of2 (M := 15) (n := 15) (by decide) c1 (Int32.not_lt.mp c2)
        match j, hj with
        | 0, _ =>
          have k1 : f_X4_valueOf (v i) (nI 0) = some (v i 0) := rfl
          rw [k1, zbd_s]
          rw [if_neg (by decide), if_neg (by decide), if_neg (by decide), if_neg (by decide), if_neg (by decide), if_neg (by decide), if_neg (by decide), if_neg (by decide), if_neg (by decide), if_neg (by decide), if_neg (by decide), of_at ms i4 (k := 0) (by decide), zbd_s]
          exact ⟨_, _, rfl, rfl, hF 0 (by decide)⟩
        | 1, _ =>
          have k1 : f_X4_valueOf (v i) (nI 1) = some (v i 1) := rfl
          rw [k1, zbd_s]
          rw [if_neg (by decide), if_neg (by decide), if_neg (by decide), if_neg (by decide), if_neg (by decide), if_neg (by decide), if_neg (by decide), if_neg (by decide), if_neg (by decide), if_neg (by decide), if_neg (by decide), of_at ms i4 (k := 1) (by decide), zbd_s]
          exact ⟨_, _, rfl, rfl, hF 1 (by decide)⟩
        | 2, _ =>
          have k1 : f_X4_valueOf (v i) (nI 2) = some (v i 2) := rfl
          rw [k1, zbd_s]
          rw [if_neg (by decide), if_neg (by decide), if_neg (by decide), if_neg (by decide), if_neg (by decide), if_neg (by decide), if_neg (by decide), if_neg (by decide), if_neg (by decide), if_neg (by decide), if_neg (by decide), of_at ms i4 (k := 2) (by decide), zbd_s]
          exact ⟨_, _, rfl, rfl, hF 2 (by decide)⟩
        | 3, _ =>
          have k1 : f_X4_valueOf (v i) (nI 3) = some (v i 3) := rfl
          rw [k1, zbd_s]
          rw [if_neg (by decide), if_neg (by decide), if_neg (by decide), if_neg (by decide), if_neg (by decide), if_neg (by decide), if_neg (by decide), if_neg (by decide), if_neg (by decide), if_neg (by decide), if_neg (by decide), of_at ms i4 (k := 3) (by decide), zbd_s]
          exact ⟨_, _, rfl, rfl, hF 3 (by decide)⟩
        | 4, _ =>
          have k1 : f_X4_valueOf (v i) (nI 4) = some (v i 4) := rfl
          rw [k1, zbd_s]
          rw [if_neg (by decide), if_neg (by decide), if_neg (by decide), if_neg (by decide), if_neg (by decide), if_neg (by decide), if_neg (by decide), if_neg (by decide), if_neg (by decide), if_neg (by decide), if_neg (by decide), of_at ms i4 (k := 4) (by decide), zbd_s]
          exact ⟨_, _, rfl, rfl, hF 4 (by decide)⟩
        | 5, _ =>
          have k1 : f_X4_valueOf (v i) (nI 5) = some (v i 5 + 1000) := rfl
          rw [k1, zbd_s]
          rw [if_pos (by decide), of_at ms i4 (k := 5) (by decide), zbd_s]
          exact ⟨_, _, rfl, rfl, congrArg (· + 1000) (hF 5 (by decide))⟩
        | 6, _ =>
          have k1 : f_X4_valueOf (v i) (nI 6) = some (v i 6) := rfl
          rw [k1, zbd_s]
          rw [if_neg (by decide), if_pos (by decide), of_at ms i4 (k := 6) (by decide), zbd_s]
          exact ⟨_, _, rfl, rfl, hF 6 (by decide)⟩
        | 7, _ =>
          have k1 : f_X4_valueOf (v i) (nI 7) = some (v i 7 + 1000) := rfl
          rw [k1, zbd_s]
          rw [if_neg (by decide), if_neg (by decide), if_pos (by decide), of_at ms i4 (k := 7) (by decide), zbd_s]
          exact ⟨_, _, rfl, rfl, congrArg (· + 1000) (hF 7 (by decide))⟩
        | 8, _ =>
          have k1 : f_X4_valueOf (v i) (nI 8) = some (v i 11) := by
            show (if v i 11 = 0 then some 0 else some 1) = some (v i 11)
            rcases hL.2.2.2.2.2.2.2.2.2 i i4 with k | k <;> rw [k] <;> rfl
          rw [k1, zbd_s]
          rw [if_neg (by decide), if_neg (by decide), if_neg (by decide), if_pos (by decide), of_at ms i4 (k := 8) (by decide), zbd_s]
          exact ⟨_, _, rfl, rfl, hF 11 (by decide)⟩
        | 9, _ =>
          have k1 : f_X4_valueOf (v i) (nI 9) = some (v i 12 + 1000) := rfl
          rw [k1, zbd_s]
          rw [if_neg (by decide), if_neg (by decide), if_neg (by decide), if_neg (by decide), if_pos (by decide), zg_t]
          exact ⟨_, _, rfl, rfl, congrArg (· + 1000) q1.symm⟩
        | 10, _ =>
          have k1 : f_X4_valueOf (v i) (nI 10) = some (v i 13 + 1000) := rfl
          rw [k1, zbd_s]
          rw [if_neg (by decide), if_neg (by decide), if_neg (by decide), if_neg (by decide), if_neg (by decide), if_pos (by decide), zg_t]
          exact ⟨_, _, rfl, rfl, congrArg (· + 1000) q2.symm⟩
        | 11, _ =>
          have k1 : f_X4_valueOf (v i) (nI 11) = some (v i 14 + 1000) := rfl
          rw [k1, zbd_s]
          rw [if_neg (by decide), if_neg (by decide), if_neg (by decide), if_neg (by decide), if_neg (by decide), if_neg (by decide), if_pos (by decide), zg_t]
          exact ⟨_, _, rfl, rfl, congrArg (· + 1000) q3.symm⟩
        | 12, _ =>
          have k1 : f_X4_valueOf (v i) (nI 12) = some (jF (v i)) := by
            show zbd (f_X4_judged (v i)) (fun o14 => some o14) = _
            rw [jF_eq, zbd_s]
          rw [k1, zbd_s]
          rw [if_neg (by decide), if_neg (by decide), if_neg (by decide), if_neg (by decide), if_neg (by decide), if_neg (by decide), if_neg (by decide), if_pos (by decide), good_eq ms o4.2.2.1 i4 (v i) (hF 1 (by decide)).symm (hF 2 (by decide)).symm q3, zbd_s]
          exact ⟨_, _, rfl, rfl, rfl⟩
        | 13, _ =>
          have k1 : f_X4_valueOf (v i) (nI 13) = some (wF (v i)) := by
            show zbd (f_X4_wants (v i)) (fun o14 => some o14) = _
            rw [wF_eq, zbd_s]
          rw [k1, zbd_s]
          rw [if_neg (by decide), if_neg (by decide), if_neg (by decide), if_neg (by decide), if_neg (by decide), if_neg (by decide), if_neg (by decide), if_neg (by decide), if_pos (by decide), zg_t]
          exact ⟨_, _, rfl, rfl, q4.symm⟩
        | 14, _ =>
          have k1 : f_X4_valueOf (v i) (nI 14) = some (v i 8) := rfl
          rw [k1, zbd_s]
          rw [if_neg (by decide), if_neg (by decide), if_neg (by decide), if_neg (by decide), if_neg (by decide), if_neg (by decide), if_neg (by decide), if_neg (by decide), if_neg (by decide), if_pos (by decide), of_9 ms i4, zbd_s]
          exact ⟨_, _, rfl, rfl, hF 8 (by decide)⟩
        | 15, _ =>
          have k1 : f_X4_valueOf (v i) (nI 15) = some (if cF (v i) = 0 then 0 else 1) := by
            show zbd (f_X4_canAsItWants (v i)) (fun o19 => if o19 = 0 then some 0 else some 1) = _
            rw [cF_eq, zbd_s]
            split <;> rfl
          rw [k1, zbd_s]
          by_cases c : cF (v i) = 0
          · rw [if_pos c, if_neg (by decide), if_neg (by decide), if_neg (by decide), if_neg (by decide), if_neg (by decide), if_neg (by decide), if_neg (by decide), if_neg (by decide), if_neg (by decide), if_neg (by decide), if_pos (by decide), zg_t, q5, if_pos c]; exact ⟨_, _, rfl, rfl, rfl⟩
          · rw [if_neg c, if_neg (by decide), if_neg (by decide), if_neg (by decide), if_neg (by decide), if_neg (by decide), if_neg (by decide), if_neg (by decide), if_neg (by decide), if_neg (by decide), if_neg (by decide), if_pos (by decide), zg_t, q5, if_neg c]; exact ⟨_, _, rfl, rfl, rfl⟩
        | j + 16, hj => exact absurd hj (by omega)
  · rw [e, isStage_no ms hL.1 hL.2.1.2 hx, zbd_s, zbd_s, if_pos rfl, if_pos rfl]
    exact ⟨_, _, rfl, rfl, rfl⟩
/-- graded from stage i on -/
def gF (v : R2) (g : Int32) : Nat → Nat → Int32
  | 0, _ => 1
  | k + 1, i => if v (i - 1) 3 + g ≤ v i 3 then gF v g k (i + 1) else 0
theorem gF_in (v : R2) (g : Int32) : ∀ k i, gF v g k i = 0 ∨ gF v g k i = 1 := by
  intro k
  induction k with
  | zero => intro i; exact Or.inr rfl
  | succ k ih =>
    intro i
    show (if _ then _ else _) = (0 : Int32) ∨ (if _ then _ else _) = (1 : Int32)
    split
    · exact ih (i + 1)
    · exact Or.inl rfl
theorem sub1 {i : Nat} (h : 0 < i) : nI i - 1 = nI (i - 1) := by
  conv => lhs; rw [show i = (i - 1) + 1 by omega]
  exact nI_pred _
theorem gradeC_eq (v : R2) (g : Int32) {n : Nat} (hn : n ≤ 4) (hv : v 9 0 = nI n) : ∀ (k i f : Nat), 0 < i → i + k = n → k < f → zloop (b_X7_graded_11 v g) f (nI i) = some (gF v g k i) := by
  intro k
  induction k with
  | zero =>
    intro i f h0 hi hf
    obtain ⟨f, rfl⟩ : ∃ g, f = g + 1 := ⟨f - 1, by omega⟩
    show b_X7_graded_11 v g (zloop (b_X7_graded_11 v g) f) (nI i) = _
    unfold b_X7_graded_11
    rw [hv, if_pos (nI_le (by omega) (by omega))]
    rfl
  | succ k ih =>
    intro i f h0 hi hf
    obtain ⟨f, rfl⟩ : ∃ g, f = g + 1 := ⟨f - 1, by omega⟩
    have h1 : b_X7_graded_11 v g (zloop (b_X7_graded_11 v g) f) (nI i) = if v (i - 1) 3 + g ≤ v i 3 then zloop (b_X7_graded_11 v g) f (nI (i + 1)) else some 0 := by
      generalize zloop (b_X7_graded_11 v g) f = rc
      unfold b_X7_graded_11
      rw [hv, if_neg (nI_ge (show i < n by omega) (by omega)), sub1 h0, z4 (show i < 4 by omega), z4 (show i - 1 < 4 by omega), zg_t, zg_t, n4 (show i < 4 by omega), n4 (show i - 1 < 4 by omega), zlet_d, nI_1]
    show b_X7_graded_11 v g (zloop (b_X7_graded_11 v g) f) (nI i) = _
    rw [h1, ih (i + 1) f (by omega) (by omega) (by omega)]
    show _ = some (if v (i - 1) 3 + g ≤ v i 3 then gF v g k (i + 1) else 0)
    split <;> rfl
theorem grd_iff {a b g : Int32} (ha : inI a 1 9) (hb : inI b 1 9) (hg : inI g 0 9) : a - b < g ↔ ¬ b + g ≤ a := by
  have e1 := tI_sub (x := a) (y := b) (by unfold inI at *; omega) (by unfold inI at *; omega)
  have e2 := tI_add (x := b) (y := g) (by unfold inI at *; omega) (by unfold inI at *; omega)
  rw [Int32.lt_iff_toInt_lt, Int32.le_iff_toInt_le, e1, e2]
  omega
theorem gradeM_eq (v : R2) (ms : Nat → Int32) (g : Int32) {n : Nat} (hn : n ≤ 4) (hM : ms 0 = nI n) (hF : FR n v ms) (hR : RG n v) (hg : inI g 0 9) : ∀ (k i f : Nat) (a : Int32), a = 0 ∨ a = 1 → 0 < i → i + k = n → k < f → zloop (b_X8_graded_21 ms g 0) f (a, nI i) = some ((if a = 0 then 0 else gF v g k i), 0) := by
  intro k
  induction k with
  | zero =>
    intro i f a ha h0 hi hf
    obtain ⟨f, rfl⟩ : ∃ g, f = g + 1 := ⟨f - 1, by omega⟩
    show b_X8_graded_21 ms g 0 (zloop (b_X8_graded_21 ms g 0) f) (a, nI i) = _
    unfold b_X8_graded_21
    dsimp only
    rw [z0i, zg_t, z0k, hM, if_pos (nI_le (by omega) (by omega))]
    rcases ha with h | h <;> subst h <;> rfl
  | succ k ih =>
    intro i f a ha h0 hi hf
    obtain ⟨f, rfl⟩ : ∃ g, f = g + 1 := ⟨f - 1, by omega⟩
    have h1 : b_X8_graded_21 ms g 0 (zloop (b_X8_graded_21 ms g 0) f) (a, nI i) = zloop (b_X8_graded_21 ms g 0) f ((if a = 0 then 0 else if v (i - 1) 3 + g ≤ v i 3 then 1 else 0), nI (i + 1)) := by
      generalize zloop (b_X8_graded_21 ms g 0) f = rc
      unfold b_X8_graded_21 j_X8_graded_58 j_X8_graded_59
      dsimp only
      have f3 : ms (6 + 12 * i + 3) = v i 3 := (hF i (by omega) 3 (by decide)).symm
      have f3' : ms (6 + 12 * (i - 1) + 3) = v (i - 1) 3 := (hF (i - 1) (by omega) 3 (by decide)).symm
      rw [z0i, zg_t, z0k, hM, if_neg (nI_ge (show i < n by omega) (by omega)), sub1 h0, of_3 ms (show i < 4 by omega), of_3 ms (show i - 1 < 4 by omega), f3, f3', nI_1, zbd_s, zbd_s, zlet_d, zlet_d]
      by_cases h : a = 0
      · rw [if_pos h, if_pos h]
      · rw [if_neg h, if_neg h]
        have hq := grd_iff (hR i (by omega)).2.2.2.1 (hR (i - 1) (by omega)).2.2.2.1 hg
        by_cases h2 : v (i - 1) 3 + g ≤ v i 3
        · rw [if_neg (fun z => hq.mp z h2), if_pos h2]
        · rw [if_pos (hq.mpr h2), if_neg h2]
    show b_X8_graded_21 ms g 0 (zloop (b_X8_graded_21 ms g 0) f) (a, nI i) = _
    rw [h1, ih (i + 1) f _ (by split; exact Or.inl rfl; split; exact Or.inr rfl; exact Or.inl rfl) (by omega) (by omega) (by omega)]
    show _ = some ((if a = 0 then 0 else if v (i - 1) 3 + g ≤ v i 3 then gF v g k (i + 1) else 0), _)
    by_cases h : a = 0
    · rw [if_pos h, if_pos h, if_pos rfl]
    · rw [if_neg h, if_neg h]
      by_cases h2 : v (i - 1) 3 + g ≤ v i 3
      · rw [if_pos h2, if_pos h2, if_neg ne10]
      · rw [if_neg h2, if_neg h2, if_pos rfl]
theorem st_graded {tl : Nat → Int32} {tn pn pz : Int32} {pl : Nat → R2} {v u : R2} {m1 m2 : Int32} {mb ms mp : Nat → Int32} (h : RR tl tn pn pz pl v u m1 m2 mb ms mp) (x : Int32) : ∃ o o', f_X7_graded v x = some o ∧ f_X8_graded ms x = some o' ∧ o = o'.1 := by
  obtain ⟨-, ⟨n, t, T, ht, hL⟩, -, -⟩ := h
  unfold f_X7_graded f_X8_graded f_X7_isGrade f_X8_in
  rw [zlet_d]
  by_cases c1 : x < 0
  · rw [if_pos c1, zbd_s, zbd_s, if_pos rfl, if_pos rfl]; exact ⟨_, _, rfl, rfl, rfl⟩
  · rw [if_neg c1]
    by_cases c2 : 9 < x
    · rw [if_pos c2, zbd_s, zbd_s, if_pos rfl, if_pos rfl]; exact ⟨_, _, rfl, rfl, rfl⟩
    · rw [if_neg c2, zbd_s, zbd_s, if_neg ne10, if_neg ne10]
      have hg := inI_of (x := x) (a := 0) (b := 9) (p := 0) (q := 9) (by decide) (by decide) c1 c2
      have e1 := gradeC_eq v x hL.1.2 hL.2.1.1 (n - 1) 1 1000 (by decide) (by have := hL.1; omega) (by have := hL.1; omega)
      have e2 := gradeM_eq v ms x hL.1.2 hL.2.1.2 hL.2.2.2.2.2.2.1 hL.2.2.2.2.2.2.2.2.1 hg (n - 1) 1 1000 1 (Or.inr rfl) (by decide) (by have := hL.1; omega) (by have := hL.1; omega)
      refine ⟨_, _, e1, e2, ?_⟩
      show gF v x (n - 1) 1 = if (1 : Int32) = 0 then 0 else gF v x (n - 1) 1
      rw [if_neg ne10]
/-- the wait graded up to a stage -/
def waF (v : R2) (g : Int32) : Nat → Nat → Int32 → Int32
  | 0, _, w => w
  | k + 1, i, w => waF v g k (i + 1) (zmax (v i 3) (w + g))
theorem waitC_eq (v : R2) (g : Int32) {n a : Nat} (hn : n ≤ 4) (ha : a < n) : ∀ (k i f : Nat) (w : Int32), i + k = a + 1 → k < f → zloop (b_X7_waits_36 v (nI a) g) f (w, nI i) = some (waF v g k i w) := by
  intro k
  induction k with
  | zero =>
    intro i f w hi hf
    obtain ⟨f, rfl⟩ : ∃ g, f = g + 1 := ⟨f - 1, by omega⟩
    show b_X7_waits_36 v (nI a) g (zloop (b_X7_waits_36 v (nI a) g) f) (w, nI i) = _
    unfold b_X7_waits_36
    dsimp only
    rw [if_pos (nI_lt (by omega) (by omega))]
    rfl
  | succ k ih =>
    intro i f w hi hf
    obtain ⟨f, rfl⟩ : ∃ g, f = g + 1 := ⟨f - 1, by omega⟩
    have h1 : b_X7_waits_36 v (nI a) g (zloop (b_X7_waits_36 v (nI a) g) f) (w, nI i) = zloop (b_X7_waits_36 v (nI a) g) f (zmax (v i 3) (w + g), nI (i + 1)) := by
      generalize zloop (b_X7_waits_36 v (nI a) g) f = rc
      unfold b_X7_waits_36
      dsimp only
      rw [if_neg (nI_nlt (by omega) (by omega)), z4 (show i < 4 by omega), zg_t, n4 (show i < 4 by omega), zlet_d, zlet_d, nI_1]
    exact h1.trans (ih (i + 1) f _ (by omega) (by omega))
theorem waitM_eq (v : R2) (ms : Nat → Int32) (g : Int32) {n a : Nat} (hn : n ≤ 4) (ha : a < n) (hF : FR n v ms) : ∀ (k i f : Nat) (w : Int32), i + k = a + 1 → k < f → zloop (b_X8_waitOf_10 ms (nI a) g) f (w, nI i) = some (waF v g k i w) := by
  intro k
  induction k with
  | zero =>
    intro i f w hi hf
    obtain ⟨f, rfl⟩ : ∃ g, f = g + 1 := ⟨f - 1, by omega⟩
    show b_X8_waitOf_10 ms (nI a) g (zloop (b_X8_waitOf_10 ms (nI a) g) f) (w, nI i) = _
    unfold b_X8_waitOf_10
    dsimp only
    rw [if_pos (nI_lt (by omega) (by omega))]
    rfl
  | succ k ih =>
    intro i f w hi hf
    obtain ⟨f, rfl⟩ : ∃ g, f = g + 1 := ⟨f - 1, by omega⟩
    have h1 : b_X8_waitOf_10 ms (nI a) g (zloop (b_X8_waitOf_10 ms (nI a) g) f) (w, nI i) = zloop (b_X8_waitOf_10 ms (nI a) g) f (zmax (v i 3) (w + g), nI (i + 1)) := by
      generalize zloop (b_X8_waitOf_10 ms (nI a) g) f = rc
      unfold b_X8_waitOf_10 j_X8_waitOf_42
      dsimp only
      have f3 : ms (6 + 12 * i + 3) = v i 3 := (hF i (by omega) 3 (by decide)).symm
      rw [if_neg (nI_nlt (by omega) (by omega)), of_3 ms (show i < 4 by omega), f3, zbd_s, zbd_s, zlet_d, zlet_d, nI_1]
      by_cases c : v i 3 < w + g
      · rw [if_pos (Int32.le_of_lt c), show zmax (v i 3) (w + g) = w + g from if_pos c]
      · rw [show zmax (v i 3) (w + g) = v i 3 from if_neg c]
        by_cases c2 : v i 3 ≤ w + g
        · rw [if_pos c2, Int32.le_antisymm c2 (Int32.not_lt.mp c)]
        · rw [if_neg c2]
    exact h1.trans (ih (i + 1) f _ (by omega) (by omega))
theorem st_waits {tl : Nat → Int32} {tn pn pz : Int32} {pl : Nat → R2} {v u : R2} {m1 m2 : Int32} {mb ms mp : Nat → Int32} (h : RR tl tn pn pz pl v u m1 m2 mb ms mp) (x y : Int32) : ∃ o o', f_X7_waits v x y = some o ∧ f_X8_waits ms x y = some o' ∧ o = o'.1 := by
  obtain ⟨-, ⟨n, t, T, ht, hL⟩, -, -⟩ := h
  unfold f_X7_waits f_X8_waits f_X7_isGrade f_X8_in
  simp only [zlet_d]
  rcases has_eq v hL.1.2 hL.2.1.1 x with ⟨i, hi, rfl, e⟩ | ⟨hx, e⟩
  · have i4 : i < 4 := by have := hL.1; omega
    rw [e, isStage_yes ms hL.1.2 hL.2.1.2 hi, zbd_s, zbd_s, if_neg ne10, if_neg ne10]
    by_cases c1 : y < 0
    · rw [if_pos c1, zbd_s, zbd_s, if_pos rfl, if_pos rfl]; exact ⟨_, _, rfl, rfl, rfl⟩
    · rw [if_neg c1]
      by_cases c2 : 9 < y
      · rw [if_pos c2, zbd_s, zbd_s, if_pos rfl, if_pos rfl]; exact ⟨_, _, rfl, rfl, rfl⟩
      · rw [if_neg c2, zbd_s, zbd_s, if_neg ne10, if_neg ne10]
        have e1 := waitC_eq v y hL.1.2 hi i 1 1000 (v 0 3) (by omega) (by omega)
        have e2 := waitM_eq v ms y hL.1.2 hi hL.2.2.2.2.2.2.1 i 1 1000 (v 0 3) (by omega) (by omega)
        have f3 : ms (6 + 12 * 0 + 3) = v 0 3 := (hL.2.2.2.2.2.2.1 0 (by omega) 3 (by decide)).symm
        have e3 : f_X8_waitOf ms (nI i) y = some (waF v y i 1 (v 0 3)) := by
          unfold f_X8_waitOf
          rw [show f_X8_of ms 0 3 = some (ms (6 + 12 * 0 + 3)) from of_3 ms (i := 0) (by decide), zbd_s, f3]
          exact e2
        rw [e3, zbd_s, show zin 0 4 = true from by decide, zg_t, show zn 0 = 0 from by decide]
        exact ⟨_, _, e1, rfl, rfl⟩
  · rw [e, isStage_no ms hL.1 hL.2.1.2 hx, zbd_s, zbd_s, if_pos rfl, if_pos rfl]
    exact ⟨_, _, rfl, rfl, rfl⟩
theorem zmin20 {T : Nat} (hT : T < 2 ^ 31) : zmin (nI T) 20 = nI (min T 20) := by
  show (if (20 : Int32) < nI T then (20 : Int32) else nI T) = _
  by_cases h : 20 < T
  · have h1 : (20 : Int32) < nI T := nI_lt (a := 20) h hT
    rw [if_pos h1, show min T 20 = 20 by omega]
    rfl
  · have h1 : ¬ (20 : Int32) < nI T := nI_nlt (a := 20) (b := T) (by omega) (by decide)
    rw [if_neg h1, show min T 20 = T by omega]
theorem st_done {tl : Nat → Int32} {tn pn pz : Int32} {pl : Nat → R2} {v u : R2} {m1 m2 : Int32} {mb ms mp : Nat → Int32} (h : RR tl tn pn pz pl v u m1 m2 mb ms mp) (x y : Int32) : ∃ o o', f_X7_done v x y = some o ∧ f_X8_done ms x y = some o' ∧ o = o'.1 := by
  obtain ⟨-, ⟨n, t, T, ht, hL⟩, -, -⟩ := h
  have hT : T ≤ 41600 := by have := hL.2.2.1; omega
  have h8 : v 8 0 = nI T := hL.2.2.1.2.2.2.2.1
  obtain ⟨l1, l2⟩ := hL.2.2.2.2.2.1
  have k5 : zn 5 = 5 := by decide
  have i5 : zin 5 114 = true := by decide
  unfold f_X7_done f_X8_done f_X8_in f_X5_valueOf f_X5_told
  simp only [zlet_d]
  by_cases c0 : x < 0
  · rw [if_pos c0, if_pos c0]; exact ⟨_, _, rfl, rfl, rfl⟩
  · rw [if_neg c0, if_neg c0]
    by_cases c1 : y < 0
    · rw [if_pos c1, if_pos c1, zbd_s, if_pos rfl]
      refine ⟨-1, (-1, 0), rfl, ?_, rfl⟩
      rfl
    · rw [if_neg c1, if_neg c1]
      by_cases c2 : y ≤ 2
      · have c3 : ¬ (2 : Int32) < y := Int32.not_lt.mpr c2
        rw [if_pos c2, if_neg c3, zbd_s, zbd_s, zbd_s, if_neg ne10, i5, zg_t, zg_t, k5, l1, h8, zmin20 (by omega)]
        by_cases c4 : nI (min T 20) ≤ x
        · rw [if_pos c4, if_pos c4]; exact ⟨_, _, rfl, rfl, rfl⟩
        · rw [if_neg c4, if_neg c4]
          rcases pk_ix x (n := min T 20) (by omega) with k | k | ⟨j, hj, rfl⟩
          · exact absurd k c0
          · exact absurd k c4
          · have jT : j < T := by omega
            have e1 : (nI T - 1) - nI j = nI (T - 1 - j) := by rw [sub1 (by omega), pk_sub (by omega)]
            have er : nI (T - 1 - j) - nI (T - 1 - j) / 20 * 20 = nI ((T - 1 - j) % 20) := pk_rem (a := T - 1 - j) (d := 20) (by omega) (by decide) (by decide)
            have e2 : (nI (min T 20) - 1) - nI j = nI (min T 20 - 1 - j) := by rw [sub1 (by omega), pk_sub (by omega)]
            obtain ⟨a1, a2, a3, -, -⟩ := l2 (T - 1 - j) (by omega) (by omega)
            have ei : T - 1 - j + min T 20 - T = min T 20 - 1 - j := by omega
            rw [ei] at a1 a2 a3
            have hm : (T - 1 - j) % 20 < 20 := Nat.mod_lt _ (by decide)
            rw [if_neg c0, if_pos (nI_lt hj (by omega)), e1, er, zin_n hm (by decide), zn_n (i := (T - 1 - j) % 20) (by omega), e2, zg_t, zg_t, zg_t]
            have e3 : ∀ c, 54 + 3 * nI (min T 20 - 1 - j) + nI c = nI (54 + 3 * (min T 20 - 1 - j) + c) := fun c => by
              show nI 54 + nI 3 * nI (min T 20 - 1 - j) + nI c = _
              rw [pk_mul, nI_add, nI_add]
            obtain ⟨c, hc, rfl⟩ := nI_of2 (M := 2) (n := 2) (by decide) c1 c2
            rw [e3, zin_n (i := 54 + 3 * (min T 20 - 1 - j) + c) (n := 114) (by omega) (by decide), zg_t, zn_n (i := 54 + 3 * (min T 20 - 1 - j) + c) (by omega)]
            match c, hc with
            | 0, _ =>
              rw [if_pos (by decide), zbd_s]
              exact ⟨_, _, rfl, rfl, a1⟩
            | 1, _ =>
              rw [if_neg (by decide), if_pos (by decide), zbd_s]
              exact ⟨_, _, rfl, rfl, a2⟩
            | 2, _ =>
              rw [if_neg (by decide), if_neg (by decide), zbd_s]
              exact ⟨_, _, rfl, rfl, a3⟩
            | c + 3, hc => exact absurd hc (by omega)
      · have c3 : (2 : Int32) < y := Int32.not_le.mp c2
        rw [if_neg c2, if_pos c3, zbd_s, if_pos rfl]
        refine ⟨-1, (-1, 0), rfl, ?_, rfl⟩
        rfl
/-! ===== pure: the ratio in lowest terms ===== -/
theorem trn_in {a b : Int32} (ha : inI a (-5) 5) (hb : inI b 1 50) : ∃ c : Nat, 750 ≤ c ∧ c ≤ 1250 ∧ 1000 + a * b = nI c := by
  have hm : -250 ≤ a.toInt * b.toInt ∧ a.toInt * b.toInt ≤ 250 := by
    obtain ⟨a1, a2⟩ := ha
    obtain ⟨b1, b2⟩ := hb
    have : a.toInt = -5 ∨ a.toInt = -4 ∨ a.toInt = -3 ∨ a.toInt = -2 ∨ a.toInt = -1 ∨ a.toInt = 0 ∨ a.toInt = 1 ∨ a.toInt = 2 ∨ a.toInt = 3 ∨ a.toInt = 4 ∨ a.toInt = 5 := by omega
    rcases this with h | h | h | h | h | h | h | h | h | h | h <;> rw [h] <;> omega
  have e1 := tI_mul (x := a) (y := b) (by omega) (by omega)
  have hk : (1000 : Int32).toInt = 1000 := by decide
  have e2 := tI_add (x := 1000) (y := a * b) (by rw [hk, e1]; omega) (by rw [hk, e1]; omega)
  rw [hk, e1] at e2
  refine ⟨(1000 + a.toInt * b.toInt).toNat, by omega, by omega, Int32.toInt_inj.mp ?_⟩
  rw [e2, nI_toInt (by omega)]
  omega
def cN (v : R2) (k : Nat) : Nat := zn (1000 + v k 7 * v k 0)
theorem cN_eq {v : R2} {k : Nat} (h : RGr (v k)) : 750 ≤ cN v k ∧ cN v k ≤ 1250 ∧ 1000 + v k 7 * v k 0 = nI (cN v k) := by
  obtain ⟨c, c1, c2, c3⟩ := trn_in h.2.2.2.2.2.2.2.1 h.1
  have : cN v k = c := by unfold cN; rw [c3]; exact zn_n (by omega)
  rw [this]
  exact ⟨c1, c2, c3⟩
def PA (v : R2) : Nat → Nat → Nat → Nat
  | 0, _, A => A
  | k + 1, i, A => PA v k (i + 1) (A * cN v i)
theorem PA_le {v : R2} {n : Nat} (hR : RG n v) : ∀ (k i A X : Nat), i + k ≤ n → A ≤ X → PA v k i A ≤ X * 1250 ^ k := by
  intro k
  induction k with
  | zero => intro i A X _ h; show A ≤ X * 1; omega
  | succ k ih =>
    intro i A X hi h
    have h1 := ih (i + 1) (A * cN v i) (X * 1250) (by omega) (Nat.mul_le_mul h (cN_eq (hR i (by omega))).2.1)
    have h2 : X * 1250 * 1250 ^ k = X * 1250 ^ (k + 1) := by rw [Nat.pow_succ, Nat.mul_assoc, Nat.mul_comm 1250]
    rw [h2] at h1
    exact h1
theorem PA_pos {v : R2} {n : Nat} (hR : RG n v) : ∀ (k i A : Nat), i + k ≤ n → 0 < A → 0 < PA v k i A := by
  intro k
  induction k with
  | zero => intro i A _ h; exact h
  | succ k ih =>
    intro i A hi h
    exact ih (i + 1) _ (by omega) (Nat.mul_pos h (by have := (cN_eq (hR i (by omega))).1; omega))
theorem p1000 (B k : Nat) : B * 1000 * 1000 ^ k = B * 1000 ^ (k + 1) := by rw [Nat.pow_succ, Nat.mul_assoc, Nat.mul_comm 1000]
theorem ratC_eq (v : R2) (y : Int32) {n a : Nat} (hn : n ≤ 4) (ha : a < n) (hR : RG n v) : ∀ (k i f A B : Nat), i + k = a + 1 → k < f → zloop (b_X7_ratio_32 v (nI a) y) f (lN A, lN B, nI i) = j_X7_ratio_69 y (lN (PA v k i A)) (lN (B * 1000 ^ k)) := by
  intro k
  induction k with
  | zero =>
    intro i f A B hi hf
    obtain ⟨f, rfl⟩ : ∃ g, f = g + 1 := ⟨f - 1, by omega⟩
    show b_X7_ratio_32 v (nI a) y (zloop (b_X7_ratio_32 v (nI a) y) f) (lN A, lN B, nI i) = _
    unfold b_X7_ratio_32
    dsimp only
    rw [if_pos (nI_lt (by omega) (by omega)), Nat.pow_zero, Nat.mul_one]
    rfl
  | succ k ih =>
    intro i f A B hi hf
    obtain ⟨f, rfl⟩ : ∃ g, f = g + 1 := ⟨f - 1, by omega⟩
    have hc := cN_eq (hR i (by omega))
    have h1 : b_X7_ratio_32 v (nI a) y (zloop (b_X7_ratio_32 v (nI a) y) f) (lN A, lN B, nI i) = zloop (b_X7_ratio_32 v (nI a) y) f (lN (A * cN v i), lN (B * 1000), nI (i + 1)) := by
      generalize zloop (b_X7_ratio_32 v (nI a) y) f = rc
      unfold b_X7_ratio_32 f_X4_turned
      dsimp only
      rw [if_neg (nI_nlt (by omega) (by omega)), z4 (show i < 4 by omega), zg_t, n4 (show i < 4 by omega), zbd_s, zlet_d, zlet_d, zlet_d, nI_1, hc.2.2, nI_l (by omega), lN_mul, show (1000 : Int64) = lN 1000 from rfl, lN_mul]
    rw [← p1000]
    exact h1.trans (ih (i + 1) f (A * cN v i) (B * 1000) (by omega) (by omega))
theorem ratM_eq (v : R2) (ms : Nat → Int32) (y : Int32) {n a : Nat} (hn : n ≤ 4) (ha : a < n) (hR : RG n v) (hF : FR n v ms) : ∀ (k i f A B : Nat), i + k = a + 1 → k < f → zloop (b_X8_ratio_34 ms (nI a) y 0) f (lN A, lN B, nI i) = j_X8_ratio_78 y 0 (lN (PA v k i A)) (lN (B * 1000 ^ k)) := by
  intro k
  induction k with
  | zero =>
    intro i f A B hi hf
    obtain ⟨f, rfl⟩ : ∃ g, f = g + 1 := ⟨f - 1, by omega⟩
    show b_X8_ratio_34 ms (nI a) y 0 (zloop (b_X8_ratio_34 ms (nI a) y 0) f) (lN A, lN B, nI i) = _
    unfold b_X8_ratio_34
    dsimp only
    rw [if_pos (nI_lt (by omega) (by omega)), Nat.pow_zero, Nat.mul_one]
    rfl
  | succ k ih =>
    intro i f A B hi hf
    obtain ⟨f, rfl⟩ : ∃ g, f = g + 1 := ⟨f - 1, by omega⟩
    have hc := cN_eq (hR i (by omega))
    have h1 : b_X8_ratio_34 ms (nI a) y 0 (zloop (b_X8_ratio_34 ms (nI a) y 0) f) (lN A, lN B, nI i) = zloop (b_X8_ratio_34 ms (nI a) y 0) f (lN (A * cN v i), lN (B * 1000), nI (i + 1)) := by
      generalize zloop (b_X8_ratio_34 ms (nI a) y 0) f = rc
      unfold b_X8_ratio_34
      dsimp only
      have f7 : ms (6 + 12 * i + 7) = v i 7 := (hF i (by omega) 7 (by decide)).symm
      have f0 : ms (6 + 12 * i + 0) = v i 0 := (hF i (by omega) 0 (by decide)).symm
      rw [if_neg (nI_nlt (by omega) (by omega)), of_7 ms (show i < 4 by omega), of_0 ms (show i < 4 by omega), zbd_s, zbd_s, zlet_d, zlet_d, zlet_d, nI_1, f7, f0, hc.2.2, nI_l (by omega), lN_mul, show (1000 : Int64) = lN 1000 from rfl, lN_mul]
    rw [← p1000]
    exact h1.trans (ih (i + 1) f (A * cN v i) (B * 1000) (by omega) (by omega))
/-! Euclid -/
theorem lN0 : lN 0 = (0 : Int64) := rfl
theorem gcC_end {x f t : Nat} (ht : t < 100) : zloop b_X7_greatestCommon_3 (f + 1) (lN x, lN 0, nI t) = some (lN x) := by
  show b_X7_greatestCommon_3 (zloop b_X7_greatestCommon_3 f) (lN x, lN 0, nI t) = _
  unfold b_X7_greatestCommon_3
  dsimp only
  have h : ¬ (100 : Int32) ≤ nI t := nI_ge (b := 100) ht (by decide)
  rw [if_neg h, if_pos ((lg_cmp_eq _ _).mpr lN0)]
theorem gcC_step {x y f t : Nat} (ht : t < 100) (hx : x < 2 ^ 63) (hy : 0 < y) (hy2 : y < 2 ^ 63) : zloop b_X7_greatestCommon_3 (f + 1) (lN x, lN y, nI t) = zloop b_X7_greatestCommon_3 f (lN y, lN (x % y), nI (t + 1)) := by
  show b_X7_greatestCommon_3 (zloop b_X7_greatestCommon_3 f) (lN x, lN y, nI t) = _
  generalize zloop b_X7_greatestCommon_3 f = rc
  unfold b_X7_greatestCommon_3
  dsimp only
  have h : ¬ (100 : Int32) ≤ nI t := nI_ge (b := 100) ht (by decide)
  have h2 : ¬ lN y = 0 := fun e => by
    have := (pk_lEQ (a := y) (b := 0) hy2 (by decide)).mp e
    omega
  rw [if_neg h, if_neg (fun e => h2 ((lg_cmp_eq _ _).mp e)), decide_eq_true h2, zg_t, zlet_d, zlet_d, nI_1, pk_lRem hx hy hy2]
theorem gcM_end {p m : Int32} {A B : Int64} {x f : Nat} : zloop (b_X8_ratio_85 p m A B) (f + 1) (lN x, lN 0) = j_X8_ratio_110 p m A B (lN x) := by
  show b_X8_ratio_85 p m A B (zloop (b_X8_ratio_85 p m A B) f) (lN x, lN 0) = _
  unfold b_X8_ratio_85
  dsimp only
  rw [if_pos ((lg_cmp_eq _ _).mpr lN0)]
theorem gcM_step {p m : Int32} {A B : Int64} {x y f : Nat} (hx : x < 2 ^ 63) (hy : 0 < y) (hy2 : y < 2 ^ 63) : zloop (b_X8_ratio_85 p m A B) (f + 1) (lN x, lN y) = zloop (b_X8_ratio_85 p m A B) f (lN y, lN (x % y)) := by
  show b_X8_ratio_85 p m A B (zloop (b_X8_ratio_85 p m A B) f) (lN x, lN y) = _
  generalize zloop (b_X8_ratio_85 p m A B) f = rc
  unfold b_X8_ratio_85
  dsimp only
  have h2 : ¬ lN y = 0 := fun e => by
    have := (pk_lEQ (a := y) (b := 0) hy2 (by decide)).mp e
    omega
  rw [if_neg (fun e => h2 ((lg_cmp_eq _ _).mp e)), decide_eq_true h2, zg_t, zlet_d, pk_lRem hx hy hy2]
theorem mod_half {y r k : Nat} (hr : 0 < r) (hry : r < y) (hy : y < 2 * k) : y % r < k := by
  by_cases h : 2 * r ≤ y
  · have := Nat.mod_lt y hr; omega
  · rw [Nat.mod_eq_sub_mod (by omega), Nat.mod_eq_of_lt (by omega)]; omega
theorem gc_both (p m : Int32) (A B : Int64) : ∀ (k x y t f f' : Nat), y < 2 ^ k → x < 2 ^ 63 → y < 2 ^ 63 → 0 < x → t + 2 * k < 100 → 2 * k < f → 2 * k < f' → ∃ d, 0 < d ∧ d < 2 ^ 63 ∧ zloop b_X7_greatestCommon_3 f (lN x, lN y, nI t) = some (lN d) ∧ zloop (b_X8_ratio_85 p m A B) f' (lN x, lN y) = j_X8_ratio_110 p m A B (lN d) := by
  intro k
  induction k with
  | zero =>
    intro x y t f f' h0 h1 h2 h3 h4 h5 h6
    obtain ⟨f, rfl⟩ : ∃ g, f = g + 1 := ⟨f - 1, by omega⟩
    obtain ⟨f', rfl⟩ : ∃ g, f' = g + 1 := ⟨f' - 1, by omega⟩
    obtain rfl : y = 0 := by rw [Nat.pow_zero] at h0; omega
    exact ⟨x, h3, h1, gcC_end (by omega), gcM_end⟩
  | succ k ih =>
    intro x y t f f' h0 h1 h2 h3 h4 h5 h6
    obtain ⟨f, rfl⟩ : ∃ g, f = g + 2 := ⟨f - 2, by omega⟩
    obtain ⟨f', rfl⟩ : ∃ g, f' = g + 2 := ⟨f' - 2, by omega⟩
    rcases Nat.eq_zero_or_pos y with hy | hy
    · subst hy
      exact ⟨x, h3, h1, gcC_end (by omega), gcM_end⟩
    · rw [gcC_step (by omega) h1 hy h2, gcM_step h1 hy h2]
      have hr : x % y < y := Nat.mod_lt _ hy
      rcases Nat.eq_zero_or_pos (x % y) with hz | hz
      · rw [hz]
        exact ⟨y, hy, h2, gcC_end (by omega), gcM_end⟩
      · rw [gcC_step (by omega) h2 hz (by omega), gcM_step h2 hz (by omega)]
        have hy3 : y < 2 * 2 ^ k := by rw [Nat.pow_succ] at h0; omega
        have hh := mod_half hz hr hy3
        have hlt : y % (x % y) < x % y := Nat.mod_lt _ hz
        exact ih (x % y) (y % (x % y)) (t + 1 + 1) f f' hh (by omega) (by omega) hz (by omega) (by omega) (by omega)
theorem st_ratio {tl : Nat → Int32} {tn pn pz : Int32} {pl : Nat → R2} {v u : R2} {m1 m2 : Int32} {mb ms mp : Nat → Int32} (h : RR tl tn pn pz pl v u m1 m2 mb ms mp) (x y : Int32) : ∃ o o', f_X7_ratio v x y = some o ∧ f_X8_ratio ms x y = some o' ∧ o = o'.1 := by
  obtain ⟨-, ⟨n, t, T, ht, hL⟩, -, -⟩ := h
  have hR := hL.2.2.2.2.2.2.2.2.1
  unfold f_X7_ratio f_X8_ratio f_X8_in
  rw [zlet_d]
  rcases has_eq v hL.1.2 hL.2.1.1 x with ⟨i, hi, rfl, e⟩ | ⟨hx, e⟩
  · have i4 : i < 4 := by have := hL.1; omega
    rw [e, isStage_yes ms hL.1.2 hL.2.1.2 hi, zbd_s, zbd_s, if_neg ne10, if_neg ne10]
    by_cases c1 : y < 0
    · rw [if_pos c1, if_pos c1, zbd_s, if_pos rfl]; exact ⟨_, _, rfl, rfl, rfl⟩
    · rw [if_neg c1, if_neg c1]
      by_cases c2 : y ≤ 1
      · have c3 : ¬ (1 : Int32) < y := Int32.not_lt.mpr c2
        rw [if_pos c2, if_neg c3, zbd_s, if_neg ne10]
        have e1 : zloop (b_X7_ratio_32 v (nI i) y) 1000 (1, 1, 0) = j_X7_ratio_69 y (lN (PA v (i + 1) 0 1)) (lN (1 * 1000 ^ (i + 1))) := ratC_eq v y hL.1.2 hi hR (i + 1) 0 1000 1 1 (by omega) (by omega)
        have e2 : zloop (b_X8_ratio_34 ms (nI i) y 0) 1000 (1, 1, 0) = j_X8_ratio_78 y 0 (lN (PA v (i + 1) 0 1)) (lN (1 * 1000 ^ (i + 1))) := ratM_eq v ms y hL.1.2 hi hR hL.2.2.2.2.2.2.1 (i + 1) 0 1000 1 1 (by omega) (by omega)
        have hA : PA v (i + 1) 0 1 < 2 ^ 63 := Nat.lt_of_le_of_lt (Nat.le_trans (PA_le hR (i + 1) 0 1 1 (by omega) (Nat.le_refl 1)) (Nat.mul_le_mul (Nat.le_refl 1) (Nat.pow_le_pow_right (by decide) (show i + 1 ≤ 4 by omega)))) (by decide)
        have hB : 1 * 1000 ^ (i + 1) < 2 ^ 40 := Nat.lt_of_le_of_lt (Nat.mul_le_mul (Nat.le_refl 1) (Nat.pow_le_pow_right (by decide) (show i + 1 ≤ 4 by omega))) (by decide)
        have hA0 := PA_pos hR (i + 1) 0 1 (by omega) (by decide)
        rw [e1, e2]
        generalize PA v (i + 1) 0 1 = A at *
        generalize 1 * 1000 ^ (i + 1) = B at *
        obtain ⟨d, d0, d1, d2, d3⟩ := gc_both y 0 (lN A) (lN B) 40 A B 0 1000 1000 hB hA (Nat.lt_trans hB (by decide)) hA0 (by decide) (by decide) (by decide)
        unfold j_X7_ratio_69 f_X7_greatestCommon j_X8_ratio_78
        have d2' : zloop b_X7_greatestCommon_3 1000 (lN A, lN B, 0) = some (lN d) := d2
        have hd : ¬ lN d = 0 := fun e => by
          have := (pk_lEQ (a := d) (b := 0) d1 (by decide)).mp e
          omega
        have hg : 0 ≤ lg_cmp (lN d) 1 := (lg_cmp_ge _ _).mpr ((pk_lLE (a := 1) (b := d) (by decide) d1).mpr d0)
        rw [d2', d3, zbd_s, if_pos hg]
        unfold j_X8_ratio_110
        rw [decide_eq_true hd, zg_t, zg_t, zg_t, zg_t]
        by_cases c : y = 0
        · rw [if_pos c, if_pos c]; exact ⟨_, _, rfl, rfl, rfl⟩
        · rw [if_neg c, if_neg c]; exact ⟨_, _, rfl, rfl, rfl⟩
      · have c3 : (1 : Int32) < y := Int32.not_le.mp c2
        rw [if_neg c2, if_pos c3, zbd_s, if_pos rfl]
        exact ⟨_, _, rfl, rfl, rfl⟩
  · rw [e, isStage_no ms hL.1 hL.2.1.2 hx, zbd_s, zbd_s, if_pos rfl, if_pos rfl]
    exact ⟨_, _, rfl, rfl, rfl⟩
/-! ===== pure: steps unlike each other, count ===== -/
def pcN (M : Nat) : Nat := (M.testBit 0).toNat + (M.testBit 1).toNat + (M.testBit 2).toNat + (M.testBit 3).toNat + (M.testBit 4).toNat + (M.testBit 5).toNat + (M.testBit 6).toNat + (M.testBit 7).toNat
theorem pc_cnt : ∀ M, M < 256 → f_J6_bitCount_0f7a4 (nI M) = some (nI (pcN M)) := by decide +kernel
theorem pc_or : ∀ M, M < 256 → ∀ c, c < 8 → nI M ||| (1 <<< (nI c &&& 31)) = nI (M ||| 2 ^ c) ∧ M ||| 2 ^ c < 256 ∧ pcN (M ||| 2 ^ c) = pcN M + (if M.testBit c then 0 else 1) := by decide +kernel
/-- the kinds of the first k -/
def mkN (cd : Nat → Nat) : Nat → Nat
  | 0 => 0
  | k + 1 => mkN cd k ||| 2 ^ cd k
theorem mkN_bit (cd : Nat → Nat) : ∀ (k c : Nat), (mkN cd k).testBit c = true ↔ ∃ e, e < k ∧ cd e = c := by
  intro k
  induction k with
  | zero => intro c; show Nat.testBit 0 c = true ↔ _; rw [Nat.zero_testBit]; exact ⟨fun h => (nomatch h), fun ⟨e, h, _⟩ => absurd h (by omega)⟩
  | succ k ih =>
    intro c
    show (mkN cd k ||| 2 ^ cd k).testBit c = true ↔ _
    rw [Nat.testBit_or, Bool.or_eq_true, ih c, Nat.testBit_two_pow, decide_eq_true_iff]
    constructor
    · rintro (⟨e, h1, h2⟩ | h)
      · exact ⟨e, by omega, h2⟩
      · exact ⟨k, by omega, h⟩
    · rintro ⟨e, h1, h2⟩
      by_cases hk : e = k
      · subst hk; exact Or.inr h2
      · exact Or.inl ⟨e, by omega, h2⟩
theorem mkN_lt (cd : Nat → Nat) {K : Nat} (h : ∀ e, e < K → cd e < 8) : ∀ k, k ≤ K → mkN cd k < 256 := by
  intro k
  induction k with
  | zero => intro _; show (0 : Nat) < 256; decide
  | succ k ih => intro hk; exact (pc_or _ (ih (by omega)) _ (h k (by omega))).2.1
theorem mkN_eq {c1 c2 : Nat → Nat} {K : Nat} (h1 : ∀ e, e < K → ∃ s, s < K ∧ c2 s = c1 e) (h2 : ∀ s, s < K → ∃ e, e < K ∧ c1 e = c2 s) : mkN c1 K = mkN c2 K := by
  refine Nat.eq_of_testBit_eq fun c => ?_
  rw [Bool.eq_iff_iff, mkN_bit, mkN_bit]
  constructor
  · rintro ⟨e, a, rfl⟩; exact h1 e a
  · rintro ⟨s, a, rfl⟩; exact h2 s a
/-- the kind of a step: its stage and its way -/
def kdN (x y : Int32) : Nat := zn x * 2 + zn y - 1
theorem kd_in {x y : Int32} (hx : ∃ j, j < 4 ∧ x = nI j) (hy : y = 1 ∨ y = 2) : kdN x y < 8 ∧ x * 2 + y - 1 = nI (kdN x y) := by
  obtain ⟨j, hj, rfl⟩ := hx
  have : ∀ j, j < 4 → (kdN (nI j) 1 < 8 ∧ nI j * 2 + 1 - 1 = nI (kdN (nI j) 1)) ∧ kdN (nI j) 2 < 8 ∧ nI j * 2 + 2 - 1 = nI (kdN (nI j) 2) := by decide +kernel
  rcases hy with rfl | rfl
  · exact (this j hj).1
  · exact (this j hj).2
theorem kd_iff {x y x' y' : Int32} (hx : ∃ j, j < 4 ∧ x = nI j) (hy : y = 1 ∨ y = 2) (hx' : ∃ j, j < 4 ∧ x' = nI j) (hy' : y' = 1 ∨ y' = 2) : kdN x y = kdN x' y' ↔ x = x' ∧ y = y' := by
  obtain ⟨j, hj, rfl⟩ := hx
  obtain ⟨k, hk, rfl⟩ := hx'
  have key : ∀ j, j < 4 → ∀ k, k < 4 → (kdN (nI j) 1 = kdN (nI k) 1 ↔ nI j = nI k) ∧ (kdN (nI j) 2 = kdN (nI k) 2 ↔ nI j = nI k) ∧ ¬ kdN (nI j) 1 = kdN (nI k) 2 ∧ ¬ kdN (nI j) 2 = kdN (nI k) 1 := by decide +kernel
  obtain ⟨a1, a2, a3, a4⟩ := key j hj k hk
  have n12 : ¬ (1 : Int32) = 2 := by decide
  have n21 : ¬ (2 : Int32) = 1 := by decide
  rcases hy with rfl | rfl <;> rcases hy' with rfl | rfl
  · rw [a1]; exact ⟨fun h => ⟨h, rfl⟩, fun h => h.1⟩
  · exact ⟨fun h => absurd h a3, fun h => absurd h.2 n12⟩
  · exact ⟨fun h => absurd h a4, fun h => absurd h.2 n21⟩
  · rw [a2]; exact ⟨fun h => ⟨h, rfl⟩, fun h => h.1⟩
theorem unC_eq (lg lw : Nat → Int32) {T : Nat} (hT : T < 2 ^ 31) (hx : ∀ s, s < min T 20 → (∃ j, j < 4 ∧ lg s = nI j) ∧ (lw s = 1 ∨ lw s = 2)) : ∀ (k i f : Nat), i + k = min T 20 → k < f → zloop (b_X5_unlikeTold_4 lg lw (nI T)) f (nI (mkN (fun s => kdN (lg s) (lw s)) i), nI i) = some (nI (pcN (mkN (fun s => kdN (lg s) (lw s)) (min T 20)))) := by
  have hlt := mkN_lt (fun s => kdN (lg s) (lw s)) (K := min T 20) (fun e he => (kd_in (hx e he).1 (hx e he).2).1)
  intro k
  induction k with
  | zero =>
    intro i f hi hf
    obtain ⟨f, rfl⟩ : ∃ g, f = g + 1 := ⟨f - 1, by omega⟩
    obtain rfl : i = min T 20 := by omega
    show b_X5_unlikeTold_4 lg lw (nI T) (zloop (b_X5_unlikeTold_4 lg lw (nI T)) f) _ = _
    unfold b_X5_unlikeTold_4 f_X5_told j_X5_unlikeTold_40
    dsimp only
    rw [zmin20 hT, zbd_s, if_pos (Int32.le_refl _), pc_cnt _ (hlt _ (Nat.le_refl _)), zbd_s]
  | succ k ih =>
    intro i f hi hf
    obtain ⟨f, rfl⟩ : ∃ g, f = g + 1 := ⟨f - 1, by omega⟩
    have h1 : b_X5_unlikeTold_4 lg lw (nI T) (zloop (b_X5_unlikeTold_4 lg lw (nI T)) f) (nI (mkN (fun s => kdN (lg s) (lw s)) i), nI i) = zloop (b_X5_unlikeTold_4 lg lw (nI T)) f (nI (mkN (fun s => kdN (lg s) (lw s)) (i + 1)), nI (i + 1)) := by
      generalize zloop (b_X5_unlikeTold_4 lg lw (nI T)) f = rc
      unfold b_X5_unlikeTold_4 f_X5_told
      dsimp only
      have hk := kd_in (hx i (by omega)).1 (hx i (by omega)).2
      rw [zmin20 hT, zbd_s, if_neg (nI_ge (by omega) (by omega)), zin_n (i := i) (n := 20) (by omega) (by decide), zg_t, zg_t, zn_n (i := i) (by omega), zlet_d, zlet_d, nI_1, hk.2, (pc_or _ (hlt i (by omega)) _ hk.1).1]
      rfl
    exact h1.trans (ih (i + 1) f (by omega) (by omega))
theorem un19_eq (ms : Nat → Int32) (rc4 : Int32 × Int32 → Option Int32) (a : Int32) {K k : Nat} (hK : K ≤ 20) (hk : k < K) (hx : ∀ e, e < K → (∃ j, j < 4 ∧ ms (54 + 3 * e + 1) = nI j) ∧ (ms (54 + 3 * e + 2) = 1 ∨ ms (54 + 3 * e + 2) = 2)) : ∀ (r m f : Nat) (b : Int32), (b = 0 ∨ b = 1) → m + r = k → r < f → (b = 0 ↔ ¬ ∃ e, e < m ∧ kdN (ms (54 + 3 * e + 1)) (ms (54 + 3 * e + 2)) = kdN (ms (54 + 3 * k + 1)) (ms (54 + 3 * k + 2))) → ∃ b', (b' = 0 ↔ ¬ ∃ e, e < k ∧ kdN (ms (54 + 3 * e + 1)) (ms (54 + 3 * e + 2)) = kdN (ms (54 + 3 * k + 1)) (ms (54 + 3 * k + 2))) ∧ zloop (b_X8_unlike_19 ms rc4 (a, nI k)) f (b, nI m) = j_X8_unlike_101 rc4 (a, nI k) b' := by
  have e3 : ∀ e c, 54 + 3 * nI e + nI c = nI (54 + 3 * e + c) := fun e c => by
    show nI 54 + nI 3 * nI e + nI c = _
    rw [pk_mul, nI_add, nI_add]
  intro r
  induction r with
  | zero =>
    intro m f b hb hm hf hi
    obtain ⟨f, rfl⟩ : ∃ g, f = g + 1 := ⟨f - 1, by omega⟩
    obtain rfl : m = k := by omega
    refine ⟨b, hi, ?_⟩
    show b_X8_unlike_19 ms rc4 (a, nI m) (zloop (b_X8_unlike_19 ms rc4 (a, nI m)) f) (b, nI m) = _
    unfold b_X8_unlike_19
    dsimp only
    rw [if_pos (Int32.le_refl _)]
  | succ r ih =>
    intro m f b hb hm hf hi
    obtain ⟨f, rfl⟩ : ∃ g, f = g + 1 := ⟨f - 1, by omega⟩
    have hiff := kd_iff (hx m (by omega)).1 (hx m (by omega)).2 (hx k (by omega)).1 (hx k (by omega)).2
    have h1 : b_X8_unlike_19 ms rc4 (a, nI k) (zloop (b_X8_unlike_19 ms rc4 (a, nI k)) f) (b, nI m) = zloop (b_X8_unlike_19 ms rc4 (a, nI k)) f ((if b = 0 then (if kdN (ms (54 + 3 * m + 1)) (ms (54 + 3 * m + 2)) = kdN (ms (54 + 3 * k + 1)) (ms (54 + 3 * k + 2)) then 1 else 0) else 1), nI (m + 1)) := by
      generalize zloop (b_X8_unlike_19 ms rc4 (a, nI k)) f = rc
      unfold b_X8_unlike_19 j_X8_unlike_89 j_X8_unlike_93 j_X8_unlike_94
      dsimp only
      have q1 : 54 + 3 * nI m + 1 = nI (54 + 3 * m + 1) := e3 m 1
      have q2 : 54 + 3 * nI m + 2 = nI (54 + 3 * m + 2) := e3 m 2
      have q3 : 54 + 3 * nI k + 1 = nI (54 + 3 * k + 1) := e3 k 1
      have q4 : 54 + 3 * nI k + 2 = nI (54 + 3 * k + 2) := e3 k 2
      rw [if_neg (nI_ge (by omega) (by omega)), q1, q2, q3, q4, zin_n (i := 54 + 3 * m + 1) (n := 114) (by omega) (by decide), zin_n (i := 54 + 3 * m + 2) (n := 114) (by omega) (by decide), zin_n (i := 54 + 3 * k + 1) (n := 114) (by omega) (by decide), zin_n (i := 54 + 3 * k + 2) (n := 114) (by omega) (by decide), zn_n (i := 54 + 3 * m + 1) (by omega), zn_n (i := 54 + 3 * m + 2) (by omega), zn_n (i := 54 + 3 * k + 1) (by omega), zn_n (i := 54 + 3 * k + 2) (by omega), zg_t, zg_t, zg_t, zg_t, nI_1]
      simp only [zlet_d]
      by_cases c0 : b = 0
      · rw [if_pos c0, if_pos c0]
        by_cases c1 : ms (54 + 3 * m + 1) = ms (54 + 3 * k + 1)
        · rw [if_pos c1]
          by_cases c2 : ms (54 + 3 * m + 2) = ms (54 + 3 * k + 2)
          · rw [if_pos c2, if_pos (hiff.mpr ⟨c1, c2⟩)]
          · rw [if_neg c2, if_neg (fun z => c2 (hiff.mp z).2)]
        · rw [if_neg c1, if_neg (fun z => c1 (hiff.mp z).1)]
      · rw [if_neg c0, if_neg c0]
    obtain ⟨b', p1, p2⟩ := ih (m + 1) f (if b = 0 then (if kdN (ms (54 + 3 * m + 1)) (ms (54 + 3 * m + 2)) = kdN (ms (54 + 3 * k + 1)) (ms (54 + 3 * k + 2)) then 1 else 0) else 1) (by split; split; exact Or.inr rfl; exact Or.inl rfl; exact Or.inr rfl) (by omega) (by omega) (by
      by_cases c0 : b = 0
      · rw [if_pos c0]
        have hi' := hi.mp c0
        by_cases c1 : kdN (ms (54 + 3 * m + 1)) (ms (54 + 3 * m + 2)) = kdN (ms (54 + 3 * k + 1)) (ms (54 + 3 * k + 2))
        · rw [if_pos c1]
          exact ⟨fun h => absurd h ne10, fun h => absurd ⟨m, by omega, c1⟩ h⟩
        · rw [if_neg c1]
          refine ⟨fun _ => ?_, fun _ => rfl⟩
          rintro ⟨e, h1, h2⟩
          by_cases hem : e = m
          · subst hem; exact c1 h2
          · exact hi' ⟨e, by omega, h2⟩
      · rw [if_neg c0]
        refine ⟨fun h => absurd h ne10, fun h => absurd (hi.mpr ?_) c0⟩
        rintro ⟨e, h1, h2⟩
        exact h ⟨e, by omega, h2⟩)
    exact ⟨b', p1, h1.trans p2⟩
theorem unM_eq (ms : Nat → Int32) {K : Nat} (hK : K ≤ 20) (h5 : ms 5 = nI K) (hx : ∀ e, e < K → (∃ j, j < 4 ∧ ms (54 + 3 * e + 1) = nI j) ∧ (ms (54 + 3 * e + 2) = 1 ∨ ms (54 + 3 * e + 2) = 2)) : ∀ (r k f : Nat), k + r = K → r < f → zloop (b_X8_unlike_4 ms) f (nI (pcN (mkN (fun e => kdN (ms (54 + 3 * e + 1)) (ms (54 + 3 * e + 2))) k)), nI k) = some (nI (pcN (mkN (fun e => kdN (ms (54 + 3 * e + 1)) (ms (54 + 3 * e + 2))) K))) := by
  have k5 : zn 5 = 5 := by decide
  have i5 : zin 5 114 = true := by decide
  have hlt := mkN_lt (fun e => kdN (ms (54 + 3 * e + 1)) (ms (54 + 3 * e + 2))) (K := K) (fun e he => (kd_in (hx e he).1 (hx e he).2).1)
  intro r
  induction r with
  | zero =>
    intro k f hi hf
    obtain ⟨f, rfl⟩ : ∃ g, f = g + 1 := ⟨f - 1, by omega⟩
    obtain rfl : k = K := by omega
    show b_X8_unlike_4 ms (zloop (b_X8_unlike_4 ms) f) _ = _
    unfold b_X8_unlike_4
    dsimp only
    rw [i5, zg_t, k5, h5, if_pos (Int32.le_refl _)]
  | succ r ih =>
    intro k f hi hf
    obtain ⟨f, rfl⟩ : ∃ g, f = g + 1 := ⟨f - 1, by omega⟩
    have hk := kd_in (hx k (by omega)).1 (hx k (by omega)).2
    have h1 : b_X8_unlike_4 ms (zloop (b_X8_unlike_4 ms) f) (nI (pcN (mkN (fun e => kdN (ms (54 + 3 * e + 1)) (ms (54 + 3 * e + 2))) k)), nI k) = zloop (b_X8_unlike_4 ms) f (nI (pcN (mkN (fun e => kdN (ms (54 + 3 * e + 1)) (ms (54 + 3 * e + 2))) (k + 1))), nI (k + 1)) := by
      generalize zloop (b_X8_unlike_4 ms) f = rc
      unfold b_X8_unlike_4
      dsimp only
      rw [i5, zg_t, k5, h5, if_neg (nI_ge (by omega) (by omega))]
      obtain ⟨b', p1, p2⟩ := un19_eq ms rc (nI (pcN (mkN (fun e => kdN (ms (54 + 3 * e + 1)) (ms (54 + 3 * e + 2))) k))) hK (show k < K by omega) hx k 0 1000 0 (Or.inl rfl) (by omega) (by omega) ⟨fun _ h => by obtain ⟨e, h, _⟩ := h; omega, fun _ => rfl⟩
      have p2' : zloop (b_X8_unlike_19 ms rc (nI (pcN (mkN (fun e => kdN (ms (54 + 3 * e + 1)) (ms (54 + 3 * e + 2))) k)), nI k)) 1000 (0, 0) = _ := p2
      rw [p2']
      unfold j_X8_unlike_101 j_X8_unlike_111
      dsimp only
      have hq := (pc_or _ (hlt k (by omega)) _ hk.1).2.2
      have hb := mkN_bit (fun e => kdN (ms (54 + 3 * e + 1)) (ms (54 + 3 * e + 2))) k (kdN (ms (54 + 3 * k + 1)) (ms (54 + 3 * k + 2)))
      have hm : mkN (fun e => kdN (ms (54 + 3 * e + 1)) (ms (54 + 3 * e + 2))) (k + 1) = mkN (fun e => kdN (ms (54 + 3 * e + 1)) (ms (54 + 3 * e + 2))) k ||| 2 ^ kdN (ms (54 + 3 * k + 1)) (ms (54 + 3 * k + 2)) := rfl
      rw [hm, hq]
      simp only [zlet_d]
      rw [nI_1 k]
      by_cases c : b' = 0
      · rw [if_pos c, if_neg (fun z => p1.mp c (hb.mp z)), nI_1]
      · have hz : ∃ e, e < k ∧ kdN (ms (54 + 3 * e + 1)) (ms (54 + 3 * e + 2)) = kdN (ms (54 + 3 * k + 1)) (ms (54 + 3 * k + 2)) := Classical.byContradiction fun z => c (p1.mpr z)
        rw [if_neg c, if_pos (hb.mpr hz), Int32.add_zero]
        rfl
    exact h1.trans (ih (k + 1) f (by omega) (by omega))
theorem unlike_eq {n t T : Nat} {v : R2} {ms : Nat → Int32} (hL : LR n t T v ms) : ∃ a, f_X5_unlikeTold (v 6) (v 7) (v 8 0) = some a ∧ f_X8_unlike ms = some a := by
  have hT : T ≤ 41600 := by have := hL.2.2.1; omega
  obtain ⟨l1, l2⟩ := hL.2.2.2.2.2.1
  have hq : ∀ s, s < min T 20 → ∃ q, q < T ∧ T ≤ q + 20 ∧ q % 20 = s := fun s hs => by
    by_cases h : T ≤ 20
    · exact ⟨s, by omega, by omega, by omega⟩
    · by_cases h2 : s < T % 20
      · exact ⟨T / 20 * 20 + s, by omega, by omega, by omega⟩
      · exact ⟨T / 20 * 20 + s - 20, by omega, by omega, by omega⟩
  have hC : ∀ s, s < min T 20 → (∃ j, j < 4 ∧ v 6 s = nI j) ∧ (v 7 s = 1 ∨ v 7 s = 2) := fun s hs => by
    obtain ⟨q, q1, q2, rfl⟩ := hq s hs
    exact (l2 q q1 q2).2.2.2
  have hM : ∀ e, e < min T 20 → (∃ j, j < 4 ∧ ms (54 + 3 * e + 1) = nI j) ∧ (ms (54 + 3 * e + 2) = 1 ∨ ms (54 + 3 * e + 2) = 2) := fun e he => by
    obtain ⟨-, a2, a3, a4, a5⟩ := l2 (e + T - min T 20) (by omega) (by omega)
    rw [a2] at a4
    rw [a3] at a5
    rw [show e + T - min T 20 + min T 20 - T = e by omega] at a4 a5
    exact ⟨a4, a5⟩
  have e1 := unC_eq (v 6) (v 7) (T := T) (by omega) hC (min T 20) 0 1000 (by omega) (by omega)
  have e2 := unM_eq ms (K := min T 20) (by omega) l1 hM (min T 20) 0 1000 (by omega) (by omega)
  have e3 : mkN (fun s => kdN (v 6 s) (v 7 s)) (min T 20) = mkN (fun e => kdN (ms (54 + 3 * e + 1)) (ms (54 + 3 * e + 2))) (min T 20) := by
    refine mkN_eq (fun s hs => ?_) (fun e he => ?_)
    · obtain ⟨q, q1, q2, rfl⟩ := hq s hs
      obtain ⟨-, a2, a3, -, -⟩ := l2 q q1 q2
      refine ⟨q + min T 20 - T, by omega, ?_⟩
      show kdN _ _ = kdN _ _
      rw [a2, a3]
    · obtain ⟨-, a2, a3, -, -⟩ := l2 (e + T - min T 20) (by omega) (by omega)
      rw [show e + T - min T 20 + min T 20 - T = e by omega] at a2 a3
      refine ⟨(e + T - min T 20) % 20, by omega, ?_⟩
      show kdN _ _ = kdN _ _
      rw [a2, a3]
  have m0 : ∀ cd : Nat → Nat, nI (mkN cd 0) = 0 := fun _ => rfl
  have m1 : ∀ cd : Nat → Nat, nI (pcN (mkN cd 0)) = 0 := fun _ => by show nI (pcN 0) = 0; decide
  rw [m0, nI_0, e3] at e1
  rw [m1, nI_0] at e2
  refine ⟨_, ?_, e2⟩
  unfold f_X5_unlikeTold
  rw [hL.2.2.1.2.2.2.2.1]
  exact e1
theorem st_count {tl : Nat → Int32} {tn pn pz : Int32} {pl : Nat → R2} {v u : R2} {m1 m2 : Int32} {mb ms mp : Nat → Int32} (h : RR tl tn pn pz pl v u m1 m2 mb ms mp) (mf mi mo mw mn : Nat → Int32) (x : Int32) : ∃ o o', f_X7_count tn pz v x = some o ∧ f_X8_count m1 m2 ms mf mi mo mw mn x = some o' ∧ o = o'.1 := by
  obtain ⟨⟨K, kk1, kk2, kk3, -⟩, ⟨n, t, T, ht, hL⟩, ⟨P, q, hP⟩, -⟩ := h
  obtain ⟨o4, p1, p2⟩ := lays_eq mf mi mo mw mn hL.1 hL.2.1.2 hL.2.2.2.1.1 hL.2.2.2.2.2.2.1 hL.2.2.2.2.2.2.2.1 hL.2.2.2.2.2.2.2.2.1
  unfold f_X7_count f_X8_count
  simp only [zlet_d]
  rw [p1, zbd_s]
  by_cases c0 : x = 0
  · rw [if_pos c0, if_pos c0, c0, show zin 0 114 = true from by decide, zg_t, show zn 0 = 0 from by decide]
    exact ⟨_, _, rfl, rfl, hL.2.1.1.trans hL.2.1.2.symm⟩
  by_cases c1 : x = 1
  · rw [if_neg c0, if_pos c1, if_neg c0, if_pos c1, c1, show zin 1 114 = true from by decide, zg_t, show zn 1 = 1 from by decide]
    exact ⟨_, _, rfl, rfl, hL.2.2.2.1.1⟩
  by_cases c2 : x = 2
  · rw [if_neg c0, if_neg c1, if_pos c2, if_neg c0, if_neg c1, if_pos c2, c2, show zin 2 114 = true from by decide, zg_t, show zn 2 = 2 from by decide]
    exact ⟨_, _, rfl, rfl, hL.2.2.1.2.2.1.trans hL.2.2.1.2.2.2.1.symm⟩
  by_cases c3 : x = 3
  · rw [if_neg c0, if_neg c1, if_neg c2, if_pos c3, if_neg c0, if_neg c1, if_neg c2, if_pos c3, c3, show zin 3 114 = true from by decide, zg_t, show zn 3 = 3 from by decide]
    exact ⟨_, _, rfl, rfl, hL.2.2.1.2.2.2.2.1.trans hL.2.2.1.2.2.2.2.2.symm⟩
  by_cases c4 : x = 4
  · rw [if_neg c0, if_neg c1, if_neg c2, if_neg c3, if_pos c4, if_neg c0, if_neg c1, if_neg c2, if_neg c3, if_pos c4, c4, show zin 4 114 = true from by decide, zg_t, show zn 4 = 4 from by decide]
    exact ⟨_, _, rfl, rfl, hL.2.2.2.2.1⟩
  by_cases c5 : x = 5
  · rw [if_neg c0, if_neg c1, if_neg c2, if_neg c3, if_neg c4, if_pos c5, if_neg c0, if_neg c1, if_neg c2, if_neg c3, if_neg c4, if_pos c5, goodC_eq v hL.1.2 hL.2.1.1, goodM_eq v ms o4.2.2.1 hL.1.2 hL.2.1.2 hL.2.2.2.2.2.2.1 (fun i hi => (p2 i hi).2.2.1), zbd_s, zbd_s]
    exact ⟨_, _, rfl, rfl, rfl⟩
  by_cases c6 : x = 6
  · rw [if_neg c0, if_neg c1, if_neg c2, if_neg c3, if_neg c4, if_neg c5, if_pos c6, if_neg c0, if_neg c1, if_neg c2, if_neg c3, if_neg c4, if_neg c5, if_pos c6, stuckC_eq v hL.1.2 hL.2.1.1 hL.2.2.2.2.2.2.2.2.2, stuckM_eq v ms hL.1.2 hL.2.1.2 hL.2.2.2.2.2.2.1, zbd_s, zbd_s]
    exact ⟨_, _, rfl, rfl, rfl⟩
  by_cases c7 : x = 7
  · rw [if_neg c0, if_neg c1, if_neg c2, if_neg c3, if_neg c4, if_neg c5, if_neg c6, if_pos c7, if_neg c0, if_neg c1, if_neg c2, if_neg c3, if_neg c4, if_neg c5, if_neg c6, if_pos c7, offC_eq v hL.1.2 hL.2.1.1, offM_eq v ms o4.2.2.1 hL.1.2 hL.2.1.2 hL.2.2.2.2.2.2.1 (fun i hi => (p2 i hi).2.2.1), zbd_s, zbd_s]
    exact ⟨_, _, rfl, rfl, rfl⟩
  by_cases c8 : x = 8
  · rw [if_neg c0, if_neg c1, if_neg c2, if_neg c3, if_neg c4, if_neg c5, if_neg c6, if_neg c7, if_pos c8, if_neg c0, if_neg c1, if_neg c2, if_neg c3, if_neg c4, if_neg c5, if_neg c6, if_neg c7, if_pos c8]
    exact ⟨_, _, rfl, rfl, hP.2.2.2.1.trans hP.2.2.2.2.1.symm⟩
  by_cases c9 : x = 9
  · rw [if_neg c0, if_neg c1, if_neg c2, if_neg c3, if_neg c4, if_neg c5, if_neg c6, if_neg c7, if_neg c8, if_pos c9, if_neg c0, if_neg c1, if_neg c2, if_neg c3, if_neg c4, if_neg c5, if_neg c6, if_neg c7, if_neg c8, if_pos c9]
    exact ⟨_, _, rfl, rfl, kk2.trans kk3.symm⟩
  by_cases c10 : x = 10
  · rw [if_neg c0, if_neg c1, if_neg c2, if_neg c3, if_neg c4, if_neg c5, if_neg c6, if_neg c7, if_neg c8, if_neg c9, if_pos c10, if_neg c0, if_neg c1, if_neg c2, if_neg c3, if_neg c4, if_neg c5, if_neg c6, if_neg c7, if_neg c8, if_neg c9, if_pos c10, quietC_eq v hL.1.2 hL.2.1.1, quietM_eq v ms o4.2.2.2.2 hL.1.2 hL.2.1.2 (fun i hi => (p2 i hi).2.2.2.2), zbd_s, zbd_s]
    by_cases c : qF v n 0 = 0
    · rw [if_pos c, if_pos c]; exact ⟨_, _, rfl, rfl, rfl⟩
    · rw [if_neg c, if_neg c]; exact ⟨_, _, rfl, rfl, rfl⟩
  by_cases c11 : x = 11
  · obtain ⟨a, a1, a2⟩ := unlike_eq hL
    rw [if_neg c0, if_neg c1, if_neg c2, if_neg c3, if_neg c4, if_neg c5, if_neg c6, if_neg c7, if_neg c8, if_neg c9, if_neg c10, if_pos c11, if_neg c0, if_neg c1, if_neg c2, if_neg c3, if_neg c4, if_neg c5, if_neg c6, if_neg c7, if_neg c8, if_neg c9, if_neg c10, if_pos c11, a1, a2, zbd_s, zbd_s]
    exact ⟨_, _, rfl, rfl, rfl⟩
  rw [if_neg c0, if_neg c1, if_neg c2, if_neg c3, if_neg c4, if_neg c5, if_neg c6, if_neg c7, if_neg c8, if_neg c9, if_neg c10, if_neg c11, if_neg c0, if_neg c1, if_neg c2, if_neg c3, if_neg c4, if_neg c5, if_neg c6, if_neg c7, if_neg c8, if_neg c9, if_neg c10, if_neg c11]
  exact ⟨_, _, rfl, rfl, rfl⟩
/-! ===== pure: a tick, its pieces ===== -/
theorem zloop_run {σ ρ : Type} (b : (σ → Option ρ) → σ → Option ρ) (n : Nat) (I : Nat → σ → Prop)
    (hstep : ∀ (i : Nat) (s : σ), i < n → I i s → ∃ t, I (i + 1) t ∧ ∀ rc : σ → Option ρ, b rc s = rc t) :
    ∀ (k i f : Nat) (s : σ), i + k = n → k < f → I i s → ∃ s' g, I n s' ∧ zloop b f s = b (zloop b g) s' := by
  intro k
  induction k with
  | zero =>
    intro i f s hi hf h
    obtain ⟨f, rfl⟩ : ∃ g, f = g + 1 := ⟨f - 1, by omega⟩
    obtain rfl : i = n := by omega
    exact ⟨s, f, h, rfl⟩
  | succ k ih =>
    intro i f s hi hf h
    obtain ⟨f, rfl⟩ : ∃ g, f = g + 1 := ⟨f - 1, by omega⟩
    obtain ⟨t, ht, hb⟩ := hstep i s (by omega) h
    obtain ⟨s', g, h1, h2⟩ := ih (i + 1) f t (by omega) (by omega) ht
    exact ⟨s', g, h1, (hb (zloop b f)).trans h2⟩
theorem wF_eqv {g g' : Nat → Int32} (h : g' 1 = g 1 ∧ g' 2 = g 2 ∧ g' 4 = g 4 ∧ g' 12 = g 12 ∧ g' 14 = g 14) : wF g' = wF g := by
  obtain ⟨h1, h2, h4, h12, h14⟩ := h
  unfold wF jF
  rw [h1, h2, h4, h12, h14]
theorem cF_eqv {g g' : Nat → Int32} (h : g' 1 = g 1 ∧ g' 2 = g 2 ∧ g' 4 = g 4 ∧ g' 12 = g 12 ∧ g' 14 = g 14) (h7 : g' 7 = g 7) (h11 : g' 11 = g 11) : cF g' = cF g := by
  unfold cF
  rw [wF_eqv h, h7, h11]
theorem coF_o (g : Nat → Int32) {c : Nat} (h8 : c ≠ 8) (h9 : c ≠ 9) : coF g c = g c := by
  unfold coF
  rw [upd_o h9, upd_o h8]
theorem coF_8 (g : Nat → Int32) : coF g 8 = (if wF g = 0 then 0 else if wF g = g 9 then g 8 + 1 else 1) := by
  unfold coF
  rw [upd_o (by decide), upd_s]
theorem coF_9 (g : Nat → Int32) : coF g 9 = wF g := by
  unfold coF
  rw [upd_s]
theorem wF_co (g : Nat → Int32) : wF (coF g) = wF g := wF_eqv ⟨coF_o g (by decide) (by decide), coF_o g (by decide) (by decide), coF_o g (by decide) (by decide), coF_o g (by decide) (by decide), coF_o g (by decide) (by decide)⟩
theorem cF_co (g : Nat → Int32) : cF (coF g) = cF g := cF_eqv ⟨coF_o g (by decide) (by decide), coF_o g (by decide) (by decide), coF_o g (by decide) (by decide), coF_o g (by decide) (by decide), coF_o g (by decide) (by decide)⟩ (coF_o g (by decide) (by decide)) (coF_o g (by decide) (by decide))
/-- whether a stage's count is full -/
def clF (g : Nat → Int32) : Int32 := if coF g 8 < g 3 then 0 else 1
theorem runA_eq (v : R2) {n : Nat} (hn : n ≤ 4) (h0 : v 9 0 = nI n) : ∃ w, f_X1_runTick v = j_X1_runTick_57 w ∧ (∀ j, j < n → w j = coF (v j)) ∧ (∀ j, n ≤ j → j ≠ 4 → w j = v j) ∧ ∀ j, j < n → w 4 j = clF (v j) := by
  obtain ⟨⟨x, w⟩, g, ⟨h1, h2, h3, h4⟩, he⟩ := zloop_run b_X1_runTick_2 n (fun k s => s.1 = nI k ∧ (∀ j, j < k → s.2 j = coF (v j)) ∧ (∀ j, k ≤ j → j ≠ 4 → s.2 j = v j) ∧ ∀ j, j < k → s.2 4 j = clF (v j)) (by
    rintro k ⟨x, w⟩ hk ⟨h1, h2, h3, h4⟩
    dsimp only at h1 h2 h3 h4
    subst h1
    have a4 : k < 4 := by omega
    refine ⟨(nI (k + 1), va_up (va_up w k (coF (v k))) 4 (upd (w 4) k (clF (v k)))), ⟨rfl, fun j hj => ?_, fun j hj hj4 => ?_, fun j hj => ?_⟩, fun rc => ?_⟩
    · show va_up (va_up w k _) 4 _ j = _
      rw [vau_o (by omega)]
      by_cases e : j = k
      · subst e; rw [vau_s]
      · rw [vau_o e]; exact h2 j (by omega)
    · show va_up (va_up w k _) 4 _ j = _
      rw [vau_o hj4, vau_o (by omega)]
      exact h3 j (by omega) hj4
    · show va_up (va_up w k (coF (v k))) 4 (upd (w 4) k (clF (v k))) 4 j = _
      rw [vau_s]
      by_cases e : j = k
      · subst e; rw [upd_s]
      · rw [upd_o e]; exact h4 j (by omega)
    · have e9 : w 9 0 = nI n := by rw [h3 9 (by omega) (by decide)]; exact h0
      have ek : w k = v k := h3 k (Nat.le_refl k) (by omega)
      have e4 : va_up w k (coF (v k)) 4 = w 4 := vau_o (by omega)
      unfold b_X1_runTick_2 j_X1_runTick_50
      dsimp only
      rw [if_neg (show ¬ w 9 0 ≤ nI k by rw [e9]; exact nI_ge hk (by omega)), z4 a4, zg_t, n4 a4, ek, coF_eq, zbd_s, zlet_d, zg_t, zg_t, vau_s, coF_o (v k) (c := 3) (by decide) (by decide), zg_t, zg_t, zlet_d, zlet_d, zlet_d, zlet_d, nI_1, nar0, nar1, e4]
      unfold clF
      split <;> rfl) n 0 1000 (0, v) (by omega) (by omega) ⟨nI_0.symm, fun j h => absurd h (by omega), fun _ _ _ => rfl, fun j h => absurd h (by omega)⟩
  dsimp only at h1 h2 h3 h4
  refine ⟨w, ?_, h2, h3, h4⟩
  unfold f_X1_runTick
  rw [he]
  unfold b_X1_runTick_2
  dsimp only
  have e9 : w 9 0 = nI n := by rw [h3 9 (by omega) (by decide)]; exact h0
  rw [if_pos (show w 9 0 ≤ x by rw [e9, h1]; exact Int32.le_refl _)]
theorem counts_eq (v : R2) (ms mw mk : Nat → Int32) {n : Nat} (hn : n ≤ 4) (hM : ms 0 = nI n) (hF : FR n v ms) (hw : ∀ i, i < n → mw i = wF (v i)) : ∃ o, f_X8_counts ms mw mk = some o ∧ (∀ j, j < n → o.1 (6 + 12 * j + 9) = coF (v j) 8 ∧ o.1 (6 + 12 * j + 10) = wF (v j) ∧ o.2 j = clF (v j)) ∧ ∀ x, (∀ j, j < n → x ≠ 6 + 12 * j + 9 ∧ x ≠ 6 + 12 * j + 10) → o.1 x = ms x := by
  unfold f_X8_counts
  refine zloop_inv (b_X8_counts_2 mw) n (fun k s => s.1 = nI k ∧ (∀ j, j < k → s.2.1 (6 + 12 * j + 9) = coF (v j) 8 ∧ s.2.1 (6 + 12 * j + 10) = wF (v j) ∧ s.2.2 j = clF (v j)) ∧ ∀ x, (∀ j, j < k → x ≠ 6 + 12 * j + 9 ∧ x ≠ 6 + 12 * j + 10) → s.2.1 x = ms x) _ ?_ ?_ n 0 1000 _ (by omega) (by omega) ?_
  · rintro ⟨x, N, c⟩ rc ⟨h1, h2, h3⟩
    dsimp only at h1 h2 h3
    unfold b_X8_counts_2
    dsimp only
    rw [z0i, zg_t, z0k, if_pos (show N 0 ≤ x by rw [h3 0 (fun j _ => by omega), hM, h1]; exact Int32.le_refl _)]
    exact ⟨_, rfl, h2, h3⟩
  · rintro k ⟨x, N, c⟩ hk ⟨h1, h2, h3⟩
    dsimp only at h1 h2 h3
    subst h1
    have a4 : k < 4 := by omega
    refine ⟨(nI (k + 1), upd (upd N (6 + 12 * k + 9) (coF (v k) 8)) (6 + 12 * k + 10) (wF (v k)), upd c k (clF (v k))), ⟨rfl, fun j hj => ?_, fun x hx => ?_⟩, fun rc => ?_⟩
    · show upd (upd N _ _) _ _ (6 + 12 * j + 9) = _ ∧ upd (upd N _ _) _ _ (6 + 12 * j + 10) = _ ∧ upd c k _ j = _
      by_cases e : j = k
      · subst e
        rw [upd_o (by omega), upd_s, upd_s, upd_s]
        exact ⟨rfl, rfl, rfl⟩
      · rw [upd_o (by omega), upd_o (by omega), upd_o (by omega), upd_o (by omega), upd_o e]
        exact h2 j (by omega)
    · show upd (upd N _ _) _ _ x = ms x
      obtain ⟨q1, q2⟩ := hx k (by omega)
      rw [upd_o q2, upd_o q1]
      exact h3 x (fun j hj => hx j (by omega))
    · have f9 : N (6 + 12 * k + 9) = v k 8 := by rw [h3 _ (fun j _ => by omega)]; exact (hF k hk 8 (by decide)).symm
      have f10 : N (6 + 12 * k + 10) = v k 9 := by rw [h3 _ (fun j _ => by omega)]; exact (hF k hk 9 (by decide)).symm
      have f3 : N (6 + 12 * k + 3) = v k 3 := by rw [h3 _ (fun j _ => by omega)]; exact (hF k hk 3 (by decide)).symm
      have key : ∀ t1 : Int32, j_X8_counts_58 mw rc (nI k, N, c) t1 = rc (nI (k + 1), upd (upd N (6 + 12 * k + 9) t1) (6 + 12 * k + 10) (wF (v k)), upd c k (if t1 < v k 3 then 0 else 1)) := fun t1 => by
        unfold j_X8_counts_58 j_X8_counts_100
        dsimp only
        rw [puts_9 N a4, zbd_s, z4 a4, zg_t, n4 a4, hw k hk, puts_10 _ a4, zbd_s, of_9 _ a4, zbd_s, of_3 _ a4, zbd_s, upd_o (by omega), upd_s, upd_o (by omega), upd_o (by omega), f3, zg_t, zg_t, zlet_d, zlet_d, zlet_d, zlet_d, nI_1, nar0, nar1]
        split <;> rfl
      unfold b_X8_counts_2
      dsimp only
      rw [z0i, zg_t, z0k, if_neg (show ¬ N 0 ≤ nI k by rw [h3 0 (fun j _ => by omega), hM]; exact nI_ge hk (by omega)), z4 a4, zg_t, zg_t, n4 a4, hw k hk, of_10 N a4, zbd_s, f10, of_9 N a4, zbd_s, f9, key, key, key]
      unfold clF
      rw [coF_8]
      by_cases c1 : wF (v k) = 0
      · rw [if_pos c1, if_pos c1]
      · rw [if_neg c1, if_neg c1]
        by_cases c2 : wF (v k) = v k 9
        · rw [if_pos c2, if_pos c2]
        · rw [if_neg c2, if_neg c2]
  · exact ⟨nI_0.symm, fun j h => absurd h (by omega), fun _ _ => rfl⟩
/-! passing calls on -/
def nxF (W : Nat → Int32) : Nat → Nat → Nat
  | 0, k => k
  | r + 1, k => if W k = 0 then nxF W r (k + 1) else k
theorem nxF_le (W : Nat → Int32) {n : Nat} : ∀ (r k : Nat), k + r = n → k ≤ nxF W r k ∧ nxF W r k ≤ n := by
  intro r
  induction r with
  | zero => intro k h; exact ⟨Nat.le_refl _, by show k ≤ n; omega⟩
  | succ r ih =>
    intro k h
    show k ≤ (if W k = 0 then nxF W r (k + 1) else k) ∧ (if W k = 0 then nxF W r (k + 1) else k) ≤ n
    split
    · have := ih (k + 1) (by omega); omega
    · omega
theorem callNext_eq (w : R2) (W : Nat → Int32) {n : Nat} (hn : n ≤ 4) (h0 : w 9 0 = nI n) (hW : ∀ k, k < n → wF (w k) = W k) : ∀ (r k f : Nat), k + r = n → r < f → zloop (b_X1_callNextBehind_4 w) f (nI k) = some (if nxF W r k < n then va_up w 4 (upd (w 4) (nxF W r k) 1) else w) := by
  intro r
  induction r with
  | zero =>
    intro k f hk hf
    obtain ⟨f, rfl⟩ : ∃ g, f = g + 1 := ⟨f - 1, by omega⟩
    show b_X1_callNextBehind_4 w (zloop (b_X1_callNextBehind_4 w) f) (nI k) = _
    unfold b_X1_callNextBehind_4
    rw [h0, if_pos (nI_le (by omega) (by omega)), if_neg (show ¬ nxF W 0 k < n from by show ¬ k < n; omega)]
  | succ r ih =>
    intro k f hk hf
    obtain ⟨f, rfl⟩ : ∃ g, f = g + 1 := ⟨f - 1, by omega⟩
    have a4 : k < 4 := by omega
    have h1 : b_X1_callNextBehind_4 w (zloop (b_X1_callNextBehind_4 w) f) (nI k) = if W k = 0 then zloop (b_X1_callNextBehind_4 w) f (nI (k + 1)) else some (va_up w 4 (upd (w 4) k 1)) := by
      generalize zloop (b_X1_callNextBehind_4 w) f = rc
      unfold b_X1_callNextBehind_4 j_X1_callNextBehind_24
      rw [h0, if_neg (nI_ge (show k < n by omega) (by omega)), z4 a4, zg_t, zg_t, n4 a4, wF_eq, zbd_s, hW k (by omega), zlet_d, zlet_d, nI_1, nar1]
    show b_X1_callNextBehind_4 w (zloop (b_X1_callNextBehind_4 w) f) (nI k) = _
    rw [h1]
    show _ = some (if (if W k = 0 then nxF W r (k + 1) else k) < n then va_up w 4 (upd (w 4) (if W k = 0 then nxF W r (k + 1) else k) 1) else w)
    by_cases c : W k = 0
    · rw [if_pos c, if_pos c]
      exact ih (k + 1) f (by omega) (by omega)
    · rw [if_neg c, if_neg c, if_pos (by omega)]
theorem pass34_eq (ms mw : Nat → Int32) (rc : Int32 × (Nat → Int32) → Option (Nat → Int32)) (i : Nat) (c : Nat → Int32) (W : Nat → Int32) {n : Nat} (hn : n ≤ 4) (h0 : ms 0 = nI n) (hW : ∀ k, k < n → mw k = W k) : ∀ (r k f : Nat), k + r = n → r < f → zloop (b_X8_passesOn_34 ms mw rc (nI i, c)) f (nI k) = rc (nI (i + 1), if nxF W r k < n then upd c (nxF W r k) 1 else c) := by
  have j59 : ∀ k, k ≤ n → j_X8_passesOn_59 ms rc (nI i, c) (nI k) = rc (nI (i + 1), if k < n then upd c k 1 else c) := fun k hk => by
    unfold j_X8_passesOn_59 j_X8_passesOn_76
    dsimp only
    rw [z0i, zg_t, z0k, h0, nI_1]
    by_cases h : k < n
    · rw [if_neg (nI_ge h (by omega)), z4 (show k < 4 by omega), zg_t, n4 (show k < 4 by omega), zlet_d, zlet_d, nar1, if_pos h]
    · rw [if_pos (nI_le (by omega) (by omega)), zlet_d, if_neg h]
  intro r
  induction r with
  | zero =>
    intro k f hk hf
    obtain ⟨f, rfl⟩ : ∃ g, f = g + 1 := ⟨f - 1, by omega⟩
    show b_X8_passesOn_34 ms mw rc (nI i, c) (zloop (b_X8_passesOn_34 ms mw rc (nI i, c)) f) (nI k) = _
    unfold b_X8_passesOn_34
    rw [z0i, zg_t, z0k, h0, if_pos (nI_le (by omega) (by omega)), j59 k (by omega)]
    rfl
  | succ r ih =>
    intro k f hk hf
    obtain ⟨f, rfl⟩ : ∃ g, f = g + 1 := ⟨f - 1, by omega⟩
    have a4 : k < 4 := by omega
    have h1 : b_X8_passesOn_34 ms mw rc (nI i, c) (zloop (b_X8_passesOn_34 ms mw rc (nI i, c)) f) (nI k) = if W k = 0 then zloop (b_X8_passesOn_34 ms mw rc (nI i, c)) f (nI (k + 1)) else rc (nI (i + 1), if k < n then upd c k 1 else c) := by
      generalize zloop (b_X8_passesOn_34 ms mw rc (nI i, c)) f = rc'
      unfold b_X8_passesOn_34
      rw [z0i, zg_t, z0k, h0, if_neg (nI_ge (show k < n by omega) (by omega)), z4 a4, zg_t, n4 a4, hW k (by omega), zlet_d, nI_1, j59 k (by omega)]
    show b_X8_passesOn_34 ms mw rc (nI i, c) (zloop (b_X8_passesOn_34 ms mw rc (nI i, c)) f) (nI k) = _
    rw [h1]
    show _ = rc (nI (i + 1), if (if W k = 0 then nxF W r (k + 1) else k) < n then upd c (if W k = 0 then nxF W r (k + 1) else k) 1 else c)
    by_cases c : W k = 0
    · rw [if_pos c, if_pos c]
      exact ih (k + 1) f (by omega) (by omega)
    · rw [if_neg c, if_neg c]
theorem pass_eq (w : R2) (N mw mn mk : Nat → Int32) (W C K0 : Nat → Int32) {n : Nat} (hn : n ≤ 4) (h0 : w 9 0 = nI n) (hN : N 0 = nI n) (hw : ∀ k, k < n → wF (w k) = W k ∧ cF (w k) = C k ∧ mw k = W k ∧ mn k = C k) (hk : ∀ k, k < n → w 4 k = mk k ∧ mk k = K0 k) : ∃ w' mk', f_X1_passCallsOn w = some w' ∧ f_X8_passesOn N mw mn mk = some mk' ∧ (∀ j, j ≠ 4 → w' j = w j) ∧ (∀ k, k < n → w' 4 k = mk' k ∧ (mk' k = 0 → K0 k = 0)) := by
  unfold f_X1_passCallsOn f_X8_passesOn
  refine (zloop_sim b_X1_passCallsOn_2 (b_X8_passesOn_2 N mw mn) n (fun i s s' => s.1 = nI i ∧ s'.1 = nI i ∧ (∀ j, j ≠ 4 → s.2 j = w j) ∧ ∀ k, k < n → s.2 4 k = s'.2 k ∧ (s'.2 k = 0 → K0 k = 0)) (fun r r' => (∀ j, j ≠ 4 → r j = w j) ∧ ∀ k, k < n → r 4 k = r' k ∧ (r' k = 0 → K0 k = 0)) ?_ ?_ n 0 1000 1000 (0, w) (0, mk) (by omega) (by omega) (by omega) ?_).elim fun r hr => hr.elim fun r' hr => ⟨r, r', hr.1, hr.2.1, hr.2.2⟩
  · rintro ⟨x, z⟩ ⟨y, c⟩ rc rc' ⟨h1, h2, h3, h4⟩
    dsimp only at h1 h2 h3 h4
    unfold b_X1_passCallsOn_2 b_X8_passesOn_2
    dsimp only
    rw [if_pos (show z 9 0 ≤ x by rw [h3 9 (by decide), h0, h1]; exact Int32.le_refl _), z0i, zg_t, z0k, hN, h2, if_pos (Int32.le_refl _)]
    exact ⟨_, _, rfl, rfl, h3, h4⟩
  · rintro i ⟨x, z⟩ ⟨y, c⟩ hi ⟨h1, h2, h3, h4⟩
    dsimp only at h1 h2 h3 h4
    subst h1
    subst h2
    have a4 : i < 4 := by omega
    obtain ⟨hk1, hk2⟩ := h4 i hi
    have z9 : z 9 0 = nI n := by rw [h3 9 (by decide)]; exact h0
    have zi : z i = w i := h3 i (by omega)
    by_cases c1 : c i = 0
    · refine ⟨(nI (i + 1), z), (nI (i + 1), c), ⟨rfl, rfl, h3, h4⟩, fun rc => ?_, fun rc => ?_⟩
      · unfold b_X1_passCallsOn_2 j_X1_passCallsOn_36
        dsimp only
        rw [if_neg (show ¬ z 9 0 ≤ nI i by rw [z9]; exact nI_ge hi (by omega)), z4 a4, zg_t, n4 a4, if_pos (hk1.trans c1), zlet_d, nI_1]
      · unfold b_X8_passesOn_2 j_X8_passesOn_76
        dsimp only
        rw [z0i, zg_t, z0k, hN, if_neg (nI_ge hi (by omega)), z4 a4, zg_t, n4 a4, if_pos c1, zlet_d, nI_1]
    · by_cases c2 : C i = 0
      · have nn := nxF_le W (n := n) (n - (i + 1)) (i + 1) (by omega)
        refine ⟨(nI (i + 1), if nxF W (n - (i + 1)) (i + 1) < n then va_up z 4 (upd (z 4) (nxF W (n - (i + 1)) (i + 1)) 1) else z), (nI (i + 1), if nxF W (n - (i + 1)) (i + 1) < n then upd c (nxF W (n - (i + 1)) (i + 1)) 1 else c), ⟨rfl, rfl, fun j hj => ?_, fun k hk => ?_⟩, fun rc => ?_, fun rc => ?_⟩
        · show (if nxF W (n - (i + 1)) (i + 1) < n then va_up z 4 (upd (z 4) (nxF W (n - (i + 1)) (i + 1)) 1) else z) j = w j
          split
          · rw [vau_o hj]; exact h3 j hj
          · exact h3 j hj
        · show (if nxF W (n - (i + 1)) (i + 1) < n then va_up z 4 (upd (z 4) (nxF W (n - (i + 1)) (i + 1)) 1) else z) 4 k = (if nxF W (n - (i + 1)) (i + 1) < n then upd c (nxF W (n - (i + 1)) (i + 1)) 1 else c) k ∧ ((if nxF W (n - (i + 1)) (i + 1) < n then upd c (nxF W (n - (i + 1)) (i + 1)) 1 else c) k = 0 → K0 k = 0)
          split
          · rw [vau_s]
            by_cases e : k = nxF W (n - (i + 1)) (i + 1)
            · rw [← e, upd_s, upd_s]; exact ⟨rfl, fun q => absurd q ne10⟩
            · rw [upd_o e, upd_o e]; exact h4 k hk
          · exact h4 k hk
        · unfold b_X1_passCallsOn_2 j_X1_passCallsOn_36 f_X1_callNextBehind
          dsimp only
          rw [if_neg (show ¬ z 9 0 ≤ nI i by rw [z9]; exact nI_ge hi (by omega)), z4 a4, zg_t, zg_t, n4 a4, if_neg (show ¬ z 4 i = 0 by rw [hk1]; exact c1), zi, cF_eq, zbd_s, (hw i hi).2.1, if_pos c2, zlet_d, nI_1, callNext_eq z W hn z9 (fun k hk => by rw [h3 k (by omega)]; exact (hw k hk).1) (n - (i + 1)) (i + 1) 1000 (by omega) (by omega), zbd_s, zlet_d]
        · unfold b_X8_passesOn_2
          dsimp only
          rw [z0i, zg_t, z0k, hN, if_neg (nI_ge hi (by omega)), z4 a4, zg_t, zg_t, n4 a4, if_neg c1, (hw i hi).2.2.2, if_pos c2, zlet_d, nI_1, pass34_eq N mw rc i c W hn hN (fun k hk => (hw k hk).2.2.1) (n - (i + 1)) (i + 1) 1000 (by omega) (by omega)]
      · refine ⟨(nI (i + 1), z), (nI (i + 1), c), ⟨rfl, rfl, h3, h4⟩, fun rc => ?_, fun rc => ?_⟩
        · unfold b_X1_passCallsOn_2 j_X1_passCallsOn_36
          dsimp only
          rw [if_neg (show ¬ z 9 0 ≤ nI i by rw [z9]; exact nI_ge hi (by omega)), z4 a4, zg_t, zg_t, n4 a4, if_neg (show ¬ z 4 i = 0 by rw [hk1]; exact c1), zi, cF_eq, zbd_s, (hw i hi).2.1, if_neg c2, zlet_d, nI_1]
        · unfold b_X8_passesOn_2 j_X8_passesOn_76
          dsimp only
          rw [z0i, zg_t, z0k, hN, if_neg (nI_ge hi (by omega)), z4 a4, zg_t, zg_t, n4 a4, if_neg c1, (hw i hi).2.2.2, if_neg c2, zlet_d, nI_1]
  · exact ⟨nI_0.symm, nI_0.symm, fun _ _ => rfl, fun k hk' => ⟨(hk k hk').1, fun q => (hk k hk').2 ▸ q⟩⟩
/-! ===== pure: a step done, a tick ===== -/
theorem j113_eq (N mw : Nat → Int32) {i K t : Nat} (hi : i < 4) (hK : K < 20) (h5 : N 5 = nI K) (h2 : N 2 = nI t) : j_X8_notesStep_113 mw (nI i) N = some (upd (upd (upd (upd N (54 + 3 * K) (nI t)) (54 + 3 * K + 1) (nI i)) (54 + 3 * K + 2) (mw i)) 5 (nI (K + 1))) := by
  have k5 : zn 5 = 5 := by decide
  have i5 : zin 5 114 = true := by decide
  have k2 : zn 2 = 2 := by decide
  have i2 : zin 2 114 = true := by decide
  have q0 : 54 + 3 * nI K = nI (54 + 3 * K) := by
    show nI 54 + nI 3 * nI K = _
    rw [pk_mul, nI_add]
  have q1 : nI (54 + 3 * K) + 1 = nI (54 + 3 * K + 1) := nI_add _ 1
  have q2 : nI (54 + 3 * K) + 2 = nI (54 + 3 * K + 2) := nI_add _ 2
  unfold j_X8_notesStep_113
  rw [i5, i2, zg_t, k5, k2, h5, h2, q0, zlet_d, zg_t, q1, q2, zin_n (i := 54 + 3 * K) (n := 114) (by omega) (by decide), zin_n (i := 54 + 3 * K + 1) (n := 114) (by omega) (by decide), zin_n (i := 54 + 3 * K + 2) (n := 114) (by omega) (by decide), zn_n (i := 54 + 3 * K) (by omega), zn_n (i := 54 + 3 * K + 1) (by omega), zn_n (i := 54 + 3 * K + 2) (by omega), z4 hi, n4 hi, zg_t, zlet_d, zg_t, zlet_d, zg_t, zg_t, zlet_d, zg_t, zg_t, zlet_d, upd_o (by omega), upd_o (by omega), upd_o (by omega), h5, nI_1]
theorem notesStep_eq (N mw : Nat → Int32) {i t T : Nat} (hi : i < 4) (h2 : N 2 = nI t) (h3 : N 3 = nI T) (h5 : N 5 = nI (min T 20)) : ∃ N', f_X8_notesStep N mw (nI i) = some N' ∧ (N' 0 = N 0 ∧ N' 1 = N 1 ∧ N' 2 = N 2 ∧ N' 3 = nI (T + 1)) ∧ N' 4 = N 4 + (if N (6 + 12 * i + 11) ≤ 0 then 0 else if N (6 + 12 * i + 11) = mw i then 0 else 1) ∧ N' 5 = nI (min (T + 1) 20) ∧ (∀ x, 6 ≤ x → x < 54 → N' x = if x = 6 + 12 * i + 11 then mw i else N x) ∧ (∀ e c, e + 1 < min (T + 1) 20 → c < 3 → N' (54 + 3 * e + c) = N (54 + 3 * (if T < 20 then e else e + 1) + c)) ∧ N' (54 + 3 * (min (T + 1) 20 - 1)) = nI t ∧ N' (54 + 3 * (min (T + 1) 20 - 1) + 1) = nI i ∧ N' (54 + 3 * (min (T + 1) 20 - 1) + 2) = mw i := by
  have k3 : zn 3 = 3 := by decide
  have i3 : zin 3 114 = true := by decide
  have k4 : zn 4 = 4 := by decide
  have i4 : zin 4 114 = true := by decide
  have k5 : zn 5 = 5 := by decide
  have i5 : zin 5 114 = true := by decide
  have e1 : f_X8_notesStep N mw (nI i) = j_X8_notesStep_48 mw (nI i) (upd N 3 (nI (T + 1))) (if N (6 + 12 * i + 11) ≤ 0 then 0 else if N (6 + 12 * i + 11) = mw i then 0 else 1) := by
    unfold f_X8_notesStep j_X8_notesStep_47
    rw [i3, i4, zg_t, zg_t, k3, h3, nI_1, zlet_d, zg_t, of_11 _ hi, zbd_s, zbd_s, upd_o (by omega), z4 hi, zg_t, n4 hi]
    by_cases c1 : N (6 + 12 * i + 11) ≤ 0
    · rw [if_pos c1, if_pos c1]
    · rw [if_neg c1, if_neg c1]
      by_cases c2 : N (6 + 12 * i + 11) = mw i
      · rw [if_pos c2, if_pos c2]
      · rw [if_neg c2, if_neg c2]
  rw [e1]
  generalize (if N (6 + 12 * i + 11) ≤ 0 then (0 : Int32) else if N (6 + 12 * i + 11) = mw i then 0 else 1) = a
  obtain ⟨N1, hN1⟩ : ∃ N1, N1 = upd (upd (upd N 3 (nI (T + 1))) 4 (N 4 + a)) (6 + 12 * i + 11) (mw i) := ⟨_, rfl⟩
  have e2 : j_X8_notesStep_48 mw (nI i) (upd N 3 (nI (T + 1))) a = if nI (min T 20) = 20 then zloop (b_X8_notesStep_77 mw (nI i)) 1000 (54, N1) else j_X8_notesStep_113 mw (nI i) N1 := by
    unfold j_X8_notesStep_48
    rw [i4, zg_t, k4, upd_o (show (4 : Nat) ≠ 3 by decide), zlet_d, z4 hi, zg_t, n4 hi, puts_11 _ hi, zbd_s, i5, zg_t, k5, ← hN1]
    have : N1 5 = nI (min T 20) := by rw [hN1, upd_o (by omega), upd_o (by decide), upd_o (by decide)]; exact h5
    rw [this]
  rw [e2]
  have a0 : N1 0 = N 0 := by rw [hN1, upd_o (by omega), upd_o (by decide), upd_o (by decide)]
  have a1 : N1 1 = N 1 := by rw [hN1, upd_o (by omega), upd_o (by decide), upd_o (by decide)]
  have a2 : N1 2 = N 2 := by rw [hN1, upd_o (by omega), upd_o (by decide), upd_o (by decide)]
  have a3 : N1 3 = nI (T + 1) := by rw [hN1, upd_o (by omega), upd_o (by decide), upd_s]
  have a4 : N1 4 = N 4 + a := by rw [hN1, upd_o (by omega), upd_s]
  have a5 : N1 5 = nI (min T 20) := by rw [hN1, upd_o (by omega), upd_o (by decide), upd_o (by decide)]; exact h5
  have a6 : ∀ x, 6 ≤ x → x < 54 → N1 x = if x = 6 + 12 * i + 11 then mw i else N x := fun x q1 q2 => by
    rw [hN1]
    by_cases c : x = 6 + 12 * i + 11
    · subst c; rw [upd_s, if_pos rfl]
    · rw [upd_o c, if_neg c, upd_o (by omega), upd_o (by omega)]
  have a7 : ∀ x, 54 ≤ x → N1 x = N x := fun x q1 => by rw [hN1, upd_o (by omega), upd_o (by omega), upd_o (by omega)]
  clear hN1 e1 e2
  by_cases hT : T < 20
  · have hm : min T 20 = T := by omega
    have hm1 : min (T + 1) 20 = T + 1 := by omega
    rw [hm] at a5 ⊢
    have ne : ¬ nI T = (20 : Int32) := fun e => by
      have := (nI_eq (a := T) (b := 20) (by omega) (by decide)).mp e
      omega
    rw [if_neg ne, j113_eq N1 mw hi hT a5 (a2.trans h2), hm1]
    refine ⟨_, rfl, ⟨?_, ?_, ?_, ?_⟩, ?_, ?_, fun x q1 q2 => ?_, fun e c q1 q2 => ?_, ?_, ?_, ?_⟩
    · rw [upd_o (by omega), upd_o (by omega), upd_o (by omega), upd_o (by omega)]; exact a0
    · rw [upd_o (by omega), upd_o (by omega), upd_o (by omega), upd_o (by omega)]; exact a1
    · rw [upd_o (by omega), upd_o (by omega), upd_o (by omega), upd_o (by omega)]; exact a2
    · rw [upd_o (by omega), upd_o (by omega), upd_o (by omega), upd_o (by omega)]; exact a3
    · rw [upd_o (by omega), upd_o (by omega), upd_o (by omega), upd_o (by omega)]; exact a4
    · rw [upd_s]
    · rw [upd_o (by omega), upd_o (by omega), upd_o (by omega), upd_o (by omega)]; exact a6 x q1 q2
    · rw [upd_o (by omega), upd_o (by omega), upd_o (by omega), upd_o (by omega), if_pos hT]; exact a7 _ (by omega)
    · rw [show T + 1 - 1 = T by omega, upd_o (by omega), upd_o (by omega), upd_o (by omega), upd_s]
    · rw [show T + 1 - 1 = T by omega, upd_o (by omega), upd_o (by omega), upd_s]
    · rw [show T + 1 - 1 = T by omega, upd_o (by omega), upd_s]
  · have hm : min T 20 = 20 := by omega
    have hm1 : min (T + 1) 20 = 20 := by omega
    have e20 : nI 20 = (20 : Int32) := rfl
    rw [hm] at a5 ⊢
    rw [if_pos e20, hm1]
    obtain ⟨⟨x, N2⟩, g, ⟨b1, b2, b3⟩, he⟩ := zloop_run (b_X8_notesStep_77 mw (nI i)) 57 (fun k s => s.1 = nI (54 + k) ∧ (∀ x, 54 ≤ x → x < 54 + k → s.2 x = N1 (x + 3)) ∧ ∀ x, (x < 54 ∨ 54 + k ≤ x) → s.2 x = N1 x) (by
      rintro k ⟨x, z⟩ hk ⟨h1, h2, h3⟩
      dsimp only at h1 h2 h3
      subst h1
      have q3 : nI (54 + k) + 3 = nI (54 + k + 3) := nI_add _ 3
      refine ⟨(nI (54 + (k + 1)), upd z (54 + k) (z (54 + k + 3))), ⟨rfl, fun x q1 q2 => ?_, fun x q => ?_⟩, fun rc => ?_⟩
      · show upd z (54 + k) _ x = _
        by_cases e : x = 54 + k
        · subst e; rw [upd_s]; exact h3 _ (by omega)
        · rw [upd_o e]; exact h2 x q1 (by omega)
      · show upd z (54 + k) _ x = _
        rw [upd_o (by omega)]; exact h3 x (by omega)
      · unfold b_X8_notesStep_77
        dsimp only
        have hne : ¬ (111 : Int32) ≤ nI (54 + k) := nI_ge (b := 111) (by omega) (by decide)
        rw [if_neg hne, q3, zin_n (i := 54 + k + 3) (n := 114) (by omega) (by decide), zin_n (i := 54 + k) (n := 114) (by omega) (by decide), zg_t, zg_t, zn_n (i := 54 + k + 3) (by omega), zn_n (i := 54 + k) (by omega), zlet_d, zlet_d, nI_1]
        rfl) 57 0 1000 (54, N1) (by omega) (by omega) ⟨rfl, fun x q1 q2 => absurd q1 (by omega), fun _ _ => rfl⟩
    dsimp only at b1 b2 b3
    rw [he]
    unfold b_X8_notesStep_77 j_X8_notesStep_103
    dsimp only
    have hle : (111 : Int32) ≤ x := by rw [b1]; decide
    have b5 : N2 5 = nI 20 := by rw [b3 5 (by omega)]; exact a5
    rw [if_pos hle, i5, zg_t, zg_t, k5, b5, nI_pred, zlet_d, j113_eq (upd N2 5 (nI 19)) mw hi (K := 19) (t := t) (by decide) (upd_s _ _ _) (by rw [upd_o (by decide), b3 2 (by omega), a2]; exact h2)]
    refine ⟨_, rfl, ⟨?_, ?_, ?_, ?_⟩, ?_, ?_, fun x q1 q2 => ?_, fun e c q1 q2 => ?_, ?_, ?_, ?_⟩
    · rw [upd_o (by omega), upd_o (by omega), upd_o (by omega), upd_o (by omega), upd_o (by omega), b3 _ (by omega)]; exact a0
    · rw [upd_o (by omega), upd_o (by omega), upd_o (by omega), upd_o (by omega), upd_o (by omega), b3 _ (by omega)]; exact a1
    · rw [upd_o (by omega), upd_o (by omega), upd_o (by omega), upd_o (by omega), upd_o (by omega), b3 _ (by omega)]; exact a2
    · rw [upd_o (by omega), upd_o (by omega), upd_o (by omega), upd_o (by omega), upd_o (by omega), b3 _ (by omega)]; exact a3
    · rw [upd_o (by omega), upd_o (by omega), upd_o (by omega), upd_o (by omega), upd_o (by omega), b3 _ (by omega)]; exact a4
    · rw [upd_s]
    · rw [upd_o (by omega), upd_o (by omega), upd_o (by omega), upd_o (by omega), upd_o (by omega), b3 _ (by omega)]; exact a6 x q1 q2
    · rw [upd_o (by omega), upd_o (by omega), upd_o (by omega), upd_o (by omega), upd_o (by omega), b2 _ (by omega) (by omega), if_neg hT, show 54 + 3 * (e + 1) + c = 54 + 3 * e + c + 3 by omega]
      exact a7 _ (by omega)
    · rw [upd_o (by omega), upd_o (by omega), upd_o (by omega), upd_s]
    · rw [upd_o (by omega), upd_o (by omega), upd_s]
    · rw [upd_o (by omega), upd_s]
theorem LG_add {T t i : Nat} {w w' : R2} {N N' : Nat → Int32} {way : Int32} (h : LG T w N) (hi : i < 4) (hway : way = 1 ∨ way = 2) (h5 : ∀ s, w' 5 s = if s = T % 20 then nI t else w 5 s) (h6 : ∀ s, w' 6 s = if s = T % 20 then nI i else w 6 s) (h7 : ∀ s, w' 7 s = if s = T % 20 then way else w 7 s) (hN5 : N' 5 = nI (min (T + 1) 20)) (hsh : ∀ e c, e + 1 < min (T + 1) 20 → c < 3 → N' (54 + 3 * e + c) = N (54 + 3 * (if T < 20 then e else e + 1) + c)) (n0 : N' (54 + 3 * (min (T + 1) 20 - 1)) = nI t) (n1 : N' (54 + 3 * (min (T + 1) 20 - 1) + 1) = nI i) (n2 : N' (54 + 3 * (min (T + 1) 20 - 1) + 2) = way) : LG (T + 1) w' N' := by
  refine ⟨hN5, fun q q1 q2 => ?_⟩
  rw [h5, h6, h7]
  by_cases e : q = T
  · subst e
    rw [if_pos rfl, if_pos rfl, if_pos rfl, show q + min (q + 1) 20 - (q + 1) = min (q + 1) 20 - 1 by omega]
    exact ⟨n0.symm, n1.symm, n2.symm, ⟨i, hi, rfl⟩, hway⟩
  · have ne : q % 20 ≠ T % 20 := by omega
    rw [if_neg ne, if_neg ne, if_neg ne]
    obtain ⟨a1, a2, a3, a4, a5⟩ := h.2 q (by omega) (by omega)
    have ei : (if T < 20 then q + min (T + 1) 20 - (T + 1) else q + min (T + 1) 20 - (T + 1) + 1) = q + min T 20 - T := by
      by_cases c : T < 20
      · rw [if_pos c]; omega
      · rw [if_neg c]; omega
    have s0 : N' (54 + 3 * (q + min (T + 1) 20 - (T + 1))) = N (54 + 3 * (q + min T 20 - T)) := by rw [← ei]; exact hsh _ 0 (by omega) (by decide)
    have s1 : N' (54 + 3 * (q + min (T + 1) 20 - (T + 1)) + 1) = N (54 + 3 * (q + min T 20 - T) + 1) := by rw [← ei]; exact hsh _ 1 (by omega) (by decide)
    have s2 : N' (54 + 3 * (q + min (T + 1) 20 - (T + 1)) + 2) = N (54 + 3 * (q + min T 20 - T) + 2) := by rw [← ei]; exact hsh _ 2 (by omega) (by decide)
    rw [s0, s1, s2]
    exact ⟨a1, a2, a3, a4, a5⟩
/-- what holds within a tick -/
def TQ (n t T : Nat) (w : R2) (N : Nat → Int32) : Prop := (1 ≤ n ∧ n ≤ 4) ∧ (w 9 0 = nI n ∧ N 0 = nI n) ∧ (w 9 2 = nI t ∧ N 2 = nI t ∧ w 8 0 = nI T ∧ N 3 = nI T) ∧ w 9 1 = N 1 ∧ w 8 1 = N 4 ∧ LG T w N ∧ FR n w N
theorem TQ_st {n t T : Nat} {v : R2} {M : Nat → Int32} {x : Int32} {i k : Nat} (h : TQ n t T v M) (hi : i < n) (hk : k < 12) : TQ n t T (z2 v i k x) (upd M (6 + 12 * i + pm k) x) := by
  obtain ⟨h1, ⟨h2, h3⟩, ⟨h6, h7, h8, h9⟩, h10, h12, ⟨h13, h14⟩, h15⟩ := h
  have hp := pm_lt hk
  refine ⟨h1, ⟨by rw [z2_r (by omega)]; exact h2, by rw [upd_o (by omega)]; exact h3⟩, ⟨by rw [z2_r (by omega)]; exact h6, by rw [upd_o (by omega)]; exact h7, by rw [z2_r (by omega)]; exact h8, by rw [upd_o (by omega)]; exact h9⟩, by rw [z2_r (by omega), upd_o (by omega)]; exact h10, by rw [z2_r (by omega), upd_o (by omega)]; exact h12, ⟨by rw [upd_o (by omega)]; exact h13, fun q hq hT => ?_⟩, fun j hj c hc => ?_⟩
  · rw [z2_r (by omega), z2_r (by omega), z2_r (by omega), upd_o (by omega), upd_o (by omega), upd_o (by omega)]
    exact h14 q hq hT
  · have hpc := pm_lt hc
    by_cases e : j = i ∧ c = k
    · obtain ⟨rfl, rfl⟩ := e
      rw [z2_s, upd_s]
    · rw [z2_e, if_neg e, upd_o (fun z => e ?_)]
      · exact h15 j hj c hc
      · have e1 : j = i := by omega
        subst e1
        exact ⟨rfl, pm_inj c hc k hk (by omega)⟩
theorem zpLg_o {v : R2} {lt lg lw : Nat → Int32} {lo lb : Int32} {r : Nat} (h5 : r ≠ 5) (h6 : r ≠ 6) (h7 : r ≠ 7) (h8 : r ≠ 8) : zpLg v lt lg lw lo lb r = v r := by
  unfold zpLg
  rw [vau_o h8, vau_o h7, vau_o h6, vau_o h5]
theorem zpLg_5 {v : R2} {lt lg lw : Nat → Int32} {lo lb : Int32} : zpLg v lt lg lw lo lb 5 = lt := by
  unfold zpLg
  rw [vau_o (by decide), vau_o (by decide), vau_o (by decide), vau_s]
theorem zpLg_6 {v : R2} {lt lg lw : Nat → Int32} {lo lb : Int32} : zpLg v lt lg lw lo lb 6 = lg := by
  unfold zpLg
  rw [vau_o (by decide), vau_o (by decide), vau_s]
theorem zpLg_7 {v : R2} {lt lg lw : Nat → Int32} {lo lb : Int32} : zpLg v lt lg lw lo lb 7 = lw := by
  unfold zpLg
  rw [vau_o (by decide), vau_s]
theorem zpLg_80 {v : R2} {lt lg lw : Nat → Int32} {lo lb : Int32} : zpLg v lt lg lw lo lb 8 0 = lo := by
  unfold zpLg
  rw [vau_s, upd_o (by decide), upd_s]
theorem zpLg_81 {v : R2} {lt lg lw : Nat → Int32} {lo lb : Int32} : zpLg v lt lg lw lo lb 8 1 = lb := by
  unfold zpLg
  rw [vau_s, upd_s]
def dirF (g : Nat → Int32) : Int32 := if wF g = 1 then 1 else -1
theorem heed_eq {n t T : Nat} {w : R2} {N : Nat → Int32} (hq : TQ n t T w N) (hT : T ≤ 50000) {i : Nat} (hi : i < n) (mw : Nat → Int32) (hw : mw i = wF (w i)) (hc : ¬ cF (w i) = 0) (hl : inI (w i 10) 0 2) : ∃ w' N', f_X1_heedCall w (nI i) = some w' ∧ f_X8_notesStep (upd N (6 + 12 * i + 7) (w i 7 + dirF (w i))) mw (nI i) = some N' ∧ TQ n t (T + 1) w' (upd (upd N' (6 + 12 * i + 9) 0) (6 + 12 * i + 10) 0) ∧ w' i = upd (upd (upd (upd (w i) 7 (w i 7 + dirF (w i))) 10 (wF (w i))) 8 0) 9 0 ∧ (∀ j, j < 5 → j ≠ i → w' j = w j) ∧ w' 9 1 = w 9 1 := by
  have i4 : i < 4 := by have := hq.1; omega
  have hway : wF (w i) = 1 ∨ wF (w i) = 2 := by
    rcases wF_in (w i) with h | h | h
    · exfalso
      apply hc
      unfold cF
      rw [h]
      split <;> rfl
    · exact Or.inl h
    · exact Or.inr h
  have hc' : f_X4_canAsItWants (w i) = some (cF (w i)) := cF_eq _
  have hw' : f_X4_wants (w i) = some (wF (w i)) := wF_eq _
  generalize hW : wF (w i) = W at *
  have hd : dirF (w i) = if W = 1 then 1 else -1 := by unfold dirF; rw [hW]
  generalize dirF (w i) = d at *
  have q1 : TQ n t T (z2 w i 7 (w i 7 + d)) (upd N (6 + 12 * i + 7) (w i 7 + d)) := TQ_st (k := 7) hq hi (by decide)
  generalize hN7 : upd N (6 + 12 * i + 7) (w i 7 + d) = N7 at *
  generalize hW1 : z2 w i 7 (w i 7 + d) = W1 at *
  have w1i : W1 i = upd (w i) 7 (w i 7 + d) := by rw [← hW1]; exact vau_s _ _ _
  have w1o : ∀ j, j ≠ i → W1 j = w j := fun j hj => by rw [← hW1]; exact z2_row j hj
  obtain ⟨g1, ⟨g2, g3⟩, ⟨g4, g5, g6, g7⟩, g8, g9, g10, g11⟩ := q1
  obtain ⟨N', p1, ⟨p2, p3, p4, p5⟩, p6, p7, p8, p9, p10, p11, p12⟩ := notesStep_eq N7 mw i4 g5 g7 g10.1
  have hlast : N7 (6 + 12 * i + 11) = w i 10 := by
    have := g11 i hi 10 (by decide)
    rw [w1i, upd_o (by decide)] at this
    exact this.symm
  rw [hlast, hw] at p6
  have er : nI T - nI T / 20 * 20 = nI (T % 20) := pk_rem (a := T) (d := 20) (by omega) (by decide) (by decide)
  have hm : T % 20 < 20 := Nat.mod_lt _ (by decide)
  obtain ⟨W2, hW2⟩ : ∃ W2, W2 = zpLg W1 (upd (W1 5) (T % 20) (nI t)) (upd (W1 6) (T % 20) (nI i)) (upd (W1 7) (T % 20) W) (nI (T + 1)) (W1 8 1) := ⟨_, rfl⟩
  have W2o : ∀ r, r ≠ 5 → r ≠ 6 → r ≠ 7 → r ≠ 8 → W2 r = W1 r := fun r a b c d => by rw [hW2]; exact zpLg_o a b c d
  obtain ⟨W3, c1, c2, c3, c4⟩ : ∃ W3 : R2, f_X1_heedCall w (nI i) = j_X1_heedCall_79 (nI i) W W3 ∧ (∀ r, r ≠ 8 → W3 r = W2 r) ∧ W3 8 0 = nI (T + 1) ∧ W3 8 1 = N' 4 := by
    have hj34 : f_X1_heedCall w (nI i) = j_X1_heedCall_34 w (nI i) W d := by
      unfold f_X1_heedCall
      rw [z4 i4, zg_t, n4 i4, hc', zbd_s, if_neg hc, hw', zbd_s, hd]
      split <;> rfl
    have w2i : W2 i 10 = w i 10 := by rw [W2o i (by omega) (by omega) (by omega) (by omega), w1i, upd_o (by decide)]
    have w281 : W2 8 1 = N7 4 := by rw [hW2, zpLg_81]; exact g9
    have w280 : W2 8 0 = nI (T + 1) := by rw [hW2, zpLg_80]
    have hadd : f_X1_heedCall w (nI i) = if W2 i 10 = 0 then j_X1_heedCall_79 (nI i) W W2 else if W2 i 10 = W then j_X1_heedCall_79 (nI i) W W2 else j_X1_heedCall_79 (nI i) W (z2 W2 8 1 (W2 8 1 + 1)) := by
      rw [hj34]
      unfold j_X1_heedCall_34 f_X5_add
      simp only [zlet_d]
      rw [n4 i4, hW1, g6, g4, er, zin_n hm (by decide), zn_n (i := T % 20) (by omega)]
      simp only [zg_t, zbd_s]
      rw [nI_1, ← hW2]
    rw [hadd, w2i]
    by_cases k0 : w i 10 = 0
    · refine ⟨W2, if_pos k0, fun _ _ => rfl, w280, ?_⟩
      rw [p6, w281, if_pos (by rw [k0]; exact Int32.le_refl _), Int32.add_zero]
    · have k0' : ¬ w i 10 ≤ 0 := fun q => k0 (by
        have h1 := Int32.le_iff_toInt_le.mp q
        have h0 : (0 : Int32).toInt = 0 := by decide
        rw [h0] at h1
        refine Int32.toInt_inj.mp ?_
        rw [h0]
        have := hl.1
        omega)
      rw [if_neg k0]
      by_cases k1 : w i 10 = W
      · refine ⟨W2, if_pos k1, fun _ _ => rfl, w280, ?_⟩
        rw [p6, w281, if_neg k0', if_pos k1, Int32.add_zero]
      · refine ⟨z2 W2 8 1 (W2 8 1 + 1), if_neg k1, fun r hr => funext fun _ => z2_r hr, ?_, ?_⟩
        · rw [z2_c (by decide)]; exact w280
        · rw [z2_s, p6, w281, if_neg k0', if_neg k1]
  have hfin : f_X1_heedCall w (nI i) = some (z2 (z2 (z2 W3 i 10 W) i 8 0) i 9 0) := by
    rw [c1]
    unfold j_X1_heedCall_79 j_X1_heedCall_84
    rw [n4 i4, zlet_d, zlet_d, zlet_d]
  have W3o : ∀ r, r ≠ 5 → r ≠ 6 → r ≠ 7 → r ≠ 8 → W3 r = W1 r := fun r a b c d => (c2 r d).trans (W2o r a b c d)
  have q4 : TQ n t (T + 1) (z2 W3 i 10 W) N' := by
    refine ⟨g1, ⟨?_, p2.trans g3⟩, ⟨?_, p4.trans g5, ?_, p5⟩, ?_, ?_, ?_, fun j hj c hc2 => ?_⟩
    · rw [z2_r (by omega), W3o 9 (by decide) (by decide) (by decide) (by decide)]; exact g2
    · rw [z2_r (by omega), W3o 9 (by decide) (by decide) (by decide) (by decide)]; exact g4
    · rw [z2_r (by omega)]; exact c3
    · rw [z2_r (by omega), W3o 9 (by decide) (by decide) (by decide) (by decide), p3]; exact g8
    · rw [z2_r (by omega)]; exact c4
    · refine LG_add (t := t) (i := i) g10 i4 hway (fun s => ?_) (fun s => ?_) (fun s => ?_) p7 p9 p10 p11 (p12.trans hw)
      · rw [z2_r (by omega), c2 5 (by decide), hW2, zpLg_5]; rfl
      · rw [z2_r (by omega), c2 6 (by decide), hW2, zpLg_6]; rfl
      · rw [z2_r (by omega), c2 7 (by decide), hW2, zpLg_7]; rfl
    · have hpc := pm_lt hc2
      rw [p8 _ (by omega) (by omega), z2_e]
      by_cases e : j = i ∧ c = 10
      · obtain ⟨rfl, rfl⟩ := e
        rw [if_pos ⟨rfl, rfl⟩, if_pos (show 6 + 12 * j + pm 10 = 6 + 12 * j + 11 from rfl)]
        exact hw.symm
      · rw [if_neg e, if_neg (fun z => e ?_), W3o j (by omega) (by omega) (by omega) (by omega)]
        · exact g11 j hj c hc2
        · have e1 : j = i := by omega
          subst e1
          refine ⟨rfl, pm_inj c hc2 10 (by decide) ?_⟩
          show pm c = 11
          omega
  refine ⟨_, N', hfin, p1, ?_, ?_, fun j hj hji => ?_, ?_⟩
  · exact TQ_st (k := 9) (TQ_st (k := 8) q4 hi (by decide)) hi (by decide)
  · show va_up _ i _ i = _
    rw [vau_s]
    show upd (va_up (z2 W3 i 10 W) i _ i) 9 0 = _
    rw [vau_s]
    show upd (upd (va_up W3 i _ i) 8 0) 9 0 = _
    rw [vau_s, W3o i (by omega) (by omega) (by omega) (by omega), w1i]
  · rw [z2_row j hji, z2_row j hji, z2_row j hji, W3o j (by omega) (by omega) (by omega) (by omega), w1o j hji]
  · rw [z2_r (by omega), z2_r (by omega), z2_r (by omega), W3o 9 (by decide) (by decide) (by decide) (by decide), w1o 9 (by omega)]
/-! ===== pure: the tick ===== -/
theorem RGr_mk {g g' : Nat → Int32} (h : RGr g) (e : ∀ c, c < 7 → g' c = g c) (h7 : inI (g' 7) (-5) 5) (h8 : inI (g' 8) 0 9) (h9 : inI (g' 9) 0 2) (h10 : inI (g' 10) 0 2) : RGr g' := by
  obtain ⟨a0, a1, a2, a3, a4, a5, a6, -, -, -, -⟩ := h
  unfold RGr
  rw [e 0 (by decide), e 1 (by decide), e 2 (by decide), e 3 (by decide), e 4 (by decide), e 5 (by decide), e 6 (by decide)]
  exact ⟨a0, a1, a2, a3, a4, a5, a6, h7, h8, h9, h10⟩
theorem inI_00 : inI 0 0 9 := ⟨by decide, by decide⟩
theorem inI_02 : inI 0 0 2 := ⟨by decide, by decide⟩
theorem wF_rg (g : Nat → Int32) : inI (wF g) 0 2 := by
  rcases wF_in g with h | h | h <;> rw [h] <;> exact ⟨by decide, by decide⟩
theorem RGr_co {g : Nat → Int32} (h : RGr g) (hc : clF g = 0) : RGr (coF g) := by
  have h3 := h.2.2.2.1
  have h8 := h.2.2.2.2.2.2.2.2.1
  have hlt : coF g 8 < g 3 := Classical.byContradiction fun q => by
    unfold clF at hc
    rw [if_neg q] at hc
    exact ne10 hc
  refine RGr_mk h (fun c hc => coF_o g (by omega) (by omega)) ?_ ?_ ?_ ?_
  · rw [coF_o g (by decide) (by decide)]; exact h.2.2.2.2.2.2.2.1
  · have hl := Int32.lt_iff_toInt_lt.mp hlt
    rw [coF_8] at hl ⊢
    by_cases c1 : wF g = 0
    · rw [if_pos c1]; exact inI_00
    · rw [if_neg c1] at hl ⊢
      by_cases c2 : wF g = g 9
      · rw [if_pos c2] at hl ⊢
        have k1 : (1 : Int32).toInt = 1 := by decide
        have := tI_add (x := g 8) (y := 1) (by rw [k1]; unfold inI at h8; omega) (by rw [k1]; unfold inI at h8; omega)
        rw [k1] at this
        unfold inI at h8 h3 ⊢
        omega
      · rw [if_neg c2]; exact ⟨by decide, by decide⟩
  · rw [coF_9]; exact wF_rg g
  · rw [coF_o g (by decide) (by decide)]; exact h.2.2.2.2.2.2.2.2.2.2
theorem RGr_nc {g : Nat → Int32} (h : RGr g) : RGr (upd (upd (coF g) 8 0) 9 0) := by
  refine RGr_mk h (fun c hc => ?_) ?_ ?_ ?_ ?_
  · rw [upd_o (by omega), upd_o (by omega)]; exact coF_o g (by omega) (by omega)
  · rw [upd_o (by decide), upd_o (by decide), coF_o g (by decide) (by decide)]; exact h.2.2.2.2.2.2.2.1
  · rw [upd_o (by decide), upd_s]; exact inI_00
  · rw [upd_s]; exact inI_02
  · rw [upd_o (by decide), upd_o (by decide), coF_o g (by decide) (by decide)]; exact h.2.2.2.2.2.2.2.2.2.2
theorem RGr_can {g : Nat → Int32} (h : RGr g) (hc : ¬ cF g = 0) : RGr (upd (upd (upd (upd (coF g) 7 (coF g 7 + dirF (coF g))) 10 (wF (coF g))) 8 0) 9 0) := by
  refine RGr_mk h (fun c hc => ?_) ?_ ?_ ?_ ?_
  · rw [upd_o (by omega), upd_o (by omega), upd_o (by omega), upd_o (by omega)]; exact coF_o g (by omega) (by omega)
  · rw [upd_o (by decide), upd_o (by decide), upd_o (by decide), upd_s, coF_o g (by decide) (by decide)]
    have h7 := h.2.2.2.2.2.2.2.1
    unfold dirF
    rw [wF_co]
    unfold cF at hc
    by_cases c0 : g 11 = 0
    · rw [if_pos c0] at hc
      by_cases c1 : wF g = 1
      · rw [if_pos c1] at hc ⊢
        have c2 : ¬ 5 ≤ g 7 := fun q => hc (if_pos q)
        have c3 := Int32.lt_iff_toInt_lt.mp (Int32.not_le.mp c2)
        have k5 : (5 : Int32).toInt = 5 := by decide
        have k1 : (1 : Int32).toInt = 1 := by decide
        rw [k5] at c3
        have := tI_add (x := g 7) (y := 1) (by rw [k1]; unfold inI at h7; omega) (by rw [k1]; unfold inI at h7; omega)
        rw [k1] at this
        unfold inI at h7 ⊢
        omega
      · rw [if_neg c1] at hc ⊢
        by_cases c4 : wF g = 2
        · rw [if_pos c4] at hc
          have c2 : ¬ g 7 ≤ -5 := fun q => hc (if_pos q)
          have c3 := Int32.lt_iff_toInt_lt.mp (Int32.not_le.mp c2)
          have k5 : (-5 : Int32).toInt = -5 := by decide
          have k1 : (-1 : Int32).toInt = -1 := by decide
          rw [k5] at c3
          have := tI_add (x := g 7) (y := -1) (by rw [k1]; unfold inI at h7; omega) (by rw [k1]; unfold inI at h7; omega)
          rw [k1] at this
          unfold inI at h7 ⊢
          omega
        · rw [if_neg c4] at hc
          exact absurd rfl hc
    · rw [if_neg c0] at hc
      exact absurd rfl hc
  · rw [upd_o (by decide), upd_s]; exact inI_00
  · rw [upd_s]; exact inI_02
  · rw [upd_o (by decide), upd_o (by decide), upd_s]; exact wF_rg _
theorem tickC_eq {n t T : Nat} {v w : R2} {N : Nat → Int32} (ht : t ≤ 10399) (hT : T ≤ 4 * t) (hq : TQ n t T w N) (hv : RG n v) (hr : ∀ j, j < n → w j = coF (v j)) (hs : SB w) (h91 : inI (w 9 1) 800 1200) (mf mi mo mw mn mk : Nat → Int32) (hmw : ∀ j, j < n → mw j = wF (v j)) (hmn : ∀ j, j < n → mn j = cF (v j)) (hmk : ∀ j, j < n → w 4 j = mk j ∧ (mk j = 0 → clF (v j) = 0)) : ∃ o o' T', zloop b_X1_runTick_63 1000 (0, w) = some o ∧ zloop (b_X8_ticks_14 mf mi mo mw mn mk) 1000 (0, N) = some o' ∧ LR n (t + 1) T' o o'.1 := by
  have hn := hq.1
  refine (zloop_sim b_X1_runTick_63 (b_X8_ticks_14 mf mi mo mw mn mk) n (fun i s s' => s.1 = nI i ∧ s'.1 = nI i ∧ ∃ T', T' ≤ 4 * t + i ∧ TQ n t T' s.2 s'.2 ∧ (∀ j, i ≤ j → j < n → s.2 j = coF (v j)) ∧ (∀ j, j < i → RGr (s.2 j)) ∧ (∀ j, j < n → s.2 4 j = mk j) ∧ SB s.2 ∧ inI (s.2 9 1) 800 1200) (fun r r' => ∃ T', LR n (t + 1) T' r r'.1) ?_ ?_ n 0 1000 1000 (0, w) (0, N) (by omega) (by omega) (by omega) ?_).elim fun r hr => hr.elim fun r' hr => hr.2.2.elim fun T' hT' => ⟨r, r', T', hr.1, hr.2.1, hT'⟩
  · rintro ⟨x, z⟩ ⟨y, M⟩ rc rc' ⟨h1, h2, T', hT', hQ, h3, h4, h5, h6, h7⟩
    dsimp only at h1 h2 hQ h3 h4 h5 h6 h7
    obtain ⟨g1, ⟨g2, g3⟩, ⟨g4, g5, g6, g7⟩, g8, g9, g10, g11⟩ := hQ
    have k2 : zn 2 = 2 := by decide
    have i2 : zin 2 114 = true := by decide
    have hLQ : LQ n (t + 1) T' (z2 z 9 2 (nI (t + 1))) (upd M 2 (nI (t + 1))) := by
      refine ⟨g1, ⟨by rw [z2_c (by decide)]; exact g2, by rw [upd_o (by decide)]; exact g3⟩, ⟨by omega, by omega, z2_s _ _ _ _, upd_s _ _ _, by rw [z2_r (by decide)]; exact g6, by rw [upd_o (by decide)]; exact g7⟩, ⟨by rw [z2_c (by decide), upd_o (by decide)]; exact g8, by rw [z2_c (by decide)]; exact h7⟩, by rw [z2_r (by decide), upd_o (by decide)]; exact g9, ⟨by rw [upd_o (by decide)]; exact g10.1, fun q q1 q2 => ?_⟩, fun j hj c hc => ?_, fun j hj => ?_, fun j hj => ?_⟩
      · rw [z2_r (by decide), z2_r (by decide), z2_r (by decide), upd_o (by omega), upd_o (by omega), upd_o (by omega)]
        exact g10.2 q q1 q2
      · rw [z2_r (by omega), upd_o (by omega)]
        exact g11 j hj c hc
      · rw [z2_row j (by omega)]
        exact h4 j hj
      · rw [z2_r (by omega)]
        exact h6 j hj
    obtain ⟨o, o1, o2⟩ := reckon_LR hLQ
    unfold b_X1_runTick_63 j_X1_runTick_91 b_X8_ticks_14 j_X8_ticks_93
    dsimp only
    rw [if_pos (show z 9 0 ≤ x by rw [g2, h1]; exact Int32.le_refl _), g4, nI_1, zlet_d, o1, zbd_s, z0i, zg_t, z0k, if_pos (show M 0 ≤ y by rw [g3, h2]; exact Int32.le_refl _), i2, zg_t, zg_t, k2, g5, nI_1, zlet_d]
    exact ⟨_, _, rfl, rfl, T', o2⟩
  · rintro i ⟨x, z⟩ ⟨y, M⟩ hi ⟨h1, h2, T', hT', hQ, h3, h4, h5, h6, h7⟩
    dsimp only at h1 h2 hQ h3 h4 h5 h6 h7
    subst h1
    subst h2
    have i4 : i < 4 := by omega
    have zi : z i = coF (v i) := h3 i (Nat.le_refl i) hi
    have hz := hmk i hi
    have hz5 := h5 i hi
    by_cases c1 : mk i = 0
    · refine ⟨(nI (i + 1), z), (nI (i + 1), M), ⟨rfl, rfl, T', by omega, hQ, fun j hj => h3 j (by omega), fun j hj => ?_, h5, h6, h7⟩, fun rc => ?_, fun rc => ?_⟩
      · show RGr (z j)
        by_cases e : j = i
        · subst e; rw [zi]; exact RGr_co (hv j hi) (hz.2 c1)
        · exact h4 j (by omega)
      · unfold b_X1_runTick_63 j_X1_runTick_85
        dsimp only
        rw [if_neg (show ¬ z 9 0 ≤ nI i by rw [hQ.2.1.1]; exact nI_ge hi (by omega)), z4 i4, zg_t, n4 i4, if_pos (hz5.trans c1), zlet_d, nI_1]
      · unfold b_X8_ticks_14 j_X8_ticks_87
        dsimp only
        rw [z0i, zg_t, z0k, if_neg (show ¬ M 0 ≤ nI i by rw [hQ.2.1.2]; exact nI_ge hi (by omega)), z4 i4, zg_t, n4 i4, if_pos c1, zlet_d, nI_1]
    · by_cases c2 : cF (v i) = 0
      · refine ⟨(nI (i + 1), z2 (z2 z i 8 0) i 9 0), (nI (i + 1), upd (upd M (6 + 12 * i + 9) 0) (6 + 12 * i + 10) 0), ⟨rfl, rfl, T', by omega, TQ_st (k := 9) (TQ_st (k := 8) hQ hi (by decide)) hi (by decide), fun j hj hjn => ?_, fun j hj => ?_, fun j hj => ?_, fun j hj => ?_, ?_⟩, fun rc => ?_, fun rc => ?_⟩
        · show z2 (z2 z i 8 0) i 9 0 j = _
          rw [z2_row j (by omega), z2_row j (by omega)]; exact h3 j (by omega) hjn
        · show RGr (z2 (z2 z i 8 0) i 9 0 j)
          by_cases e : j = i
          · subst e
            have : z2 (z2 z j 8 0) j 9 0 j = upd (upd (coF (v j)) 8 0) 9 0 := by
              show va_up _ j _ j = _
              rw [vau_s]
              show upd (va_up z j _ j) 9 0 = _
              rw [vau_s, zi]
            rw [this]
            exact RGr_nc (hv j hi)
          · rw [z2_row j e, z2_row j e]; exact h4 j (by omega)
        · show z2 (z2 z i 8 0) i 9 0 4 j = _
          rw [z2_r (by omega), z2_r (by omega)]; exact h5 j hj
        · exact SB_z2 (SB_z2 h6 (by decide)) (by decide) j hj
        · show inI (z2 (z2 z i 8 0) i 9 0 9 1) _ _
          rw [z2_r (by omega), z2_r (by omega)]; exact h7
        · unfold b_X1_runTick_63 j_X1_runTick_85 f_X1_heedCall j_X1_heedCall_84
          dsimp only
          rw [if_neg (show ¬ z 9 0 ≤ nI i by rw [hQ.2.1.1]; exact nI_ge hi (by omega)), z4 i4, zg_t, n4 i4, if_neg (show ¬ z 4 i = 0 by rw [hz5]; exact c1), zg_t, zi, cF_eq, zbd_s, cF_co, if_pos c2, zlet_d, zlet_d, zbd_s, zlet_d, nI_1]
        · unfold b_X8_ticks_14 j_X8_ticks_71 j_X8_ticks_87
          dsimp only
          rw [z0i, zg_t, z0k, if_neg (show ¬ M 0 ≤ nI i by rw [hQ.2.1.2]; exact nI_ge hi (by omega)), z4 i4, zg_t, zg_t, n4 i4, if_neg c1, hmn i hi, if_pos c2, puts_9 M i4, zbd_s, puts_10 _ i4, zbd_s, zlet_d, nI_1]
      · have wz : wF (z i) = wF (v i) := by rw [zi]; exact wF_co _
        have cz : ¬ cF (z i) = 0 := by rw [zi, cF_co]; exact c2
        obtain ⟨w', N', e1, e2, e3, e4, e5, e6⟩ := heed_eq hQ (by omega) hi mw ((hmw i hi).trans wz.symm) cz (by rw [zi, coF_o _ (by decide) (by decide)]; exact (hv i hi).2.2.2.2.2.2.2.2.2.2)
        refine ⟨(nI (i + 1), w'), (nI (i + 1), upd (upd N' (6 + 12 * i + 9) 0) (6 + 12 * i + 10) 0), ⟨rfl, rfl, T' + 1, by omega, e3, fun j hj hjn => ?_, fun j hj => ?_, fun j hj => ?_, fun j hj => ?_, ?_⟩, fun rc => ?_, fun rc => ?_⟩
        · show w' j = _
          rw [e5 j (by omega) (by omega)]; exact h3 j (by omega) hjn
        · show RGr (w' j)
          by_cases e : j = i
          · subst e
            rw [e4, zi]
            exact RGr_can (hv j hi) c2
          · rw [e5 j (by omega) e]; exact h4 j (by omega)
        · show w' 4 j = _
          rw [e5 4 (by decide) (by omega)]; exact h5 j hj
        · show w' j 11 = 0 ∨ w' j 11 = 1
          by_cases e : j = i
          · subst e
            rw [e4, upd_o (by decide), upd_o (by decide), upd_o (by decide), upd_o (by decide)]
            exact h6 j hj
          · rw [e5 j (by omega) e]; exact h6 j hj
        · show inI (w' 9 1) _ _
          rw [e6]; exact h7
        · unfold b_X1_runTick_63 j_X1_runTick_85
          dsimp only
          rw [if_neg (show ¬ z 9 0 ≤ nI i by rw [hQ.2.1.1]; exact nI_ge hi (by omega)), z4 i4, zg_t, n4 i4, if_neg (show ¬ z 4 i = 0 by rw [hz5]; exact c1), e1, zbd_s, zlet_d, nI_1]
        · have f7 : M (6 + 12 * i + 7) = z i 7 := (hQ.2.2.2.2.2.2 i hi 7 (by decide)).symm
          have hwy : f_X8_way (mw i) = some (dirF (z i)) := by
            have hww : wF (v i) = 1 ∨ wF (v i) = 2 := by
              rcases wF_in (v i) with h | h | h
              · exfalso
                apply c2
                unfold cF
                rw [h]
                split <;> rfl
              · exact Or.inl h
              · exact Or.inr h
            unfold f_X8_way dirF
            rw [hmw i hi, wz]
            rcases hww with h | h <;> rw [h] <;> rfl
          unfold b_X8_ticks_14 j_X8_ticks_71 j_X8_ticks_87
          dsimp only
          rw [z0i, zg_t, z0k, if_neg (show ¬ M 0 ≤ nI i by rw [hQ.2.1.2]; exact nI_ge hi (by omega)), z4 i4, zg_t, zg_t, n4 i4, if_neg c1, hmn i hi, if_neg c2, of_7 M i4, zbd_s, zg_t, hwy, zbd_s, f7, puts_7 M i4, zbd_s, e2, zbd_s, puts_9 N' i4, zbd_s, puts_10 _ i4, zbd_s, zlet_d, nI_1]
  · exact ⟨nI_0.symm, nI_0.symm, T, by omega, hq, fun j _ hj => hr j hj, fun j hj => absurd hj (by omega), fun j hj => (hmk j hj).1, hs, h91⟩
theorem tick1_eq {n t T : Nat} {v : R2} {ms : Nat → Int32} (hL : LR n t T v ms) (ht : t ≤ 10399) (mf mi mo mw mn mk : Nat → Int32) : ∃ w o T', f_X1_runTick v = some w ∧ f_X8_ticks ms mf mi mo mw mn mk = some o ∧ LR n (t + 1) T' w o.1 := by
  obtain ⟨o4, p1, p2⟩ := lays_eq mf mi mo mw mn hL.1 hL.2.1.2 hL.2.2.2.1.1 hL.2.2.2.2.2.2.1 hL.2.2.2.2.2.2.2.1 hL.2.2.2.2.2.2.2.2.1
  obtain ⟨hn, ⟨h2, h3⟩, ⟨h4, h5, h6, h7, h8, h9⟩, ⟨h10, h11⟩, h12, ⟨h13, h14⟩, h15, h16, h20, h21⟩ := hL
  obtain ⟨wA, a1, a2, a3, a4⟩ := runA_eq v hn.2 h2
  obtain ⟨oC, b1, b2, b3⟩ := counts_eq v ms o4.2.2.2.1 mk hn.2 h3 h15 (fun i hi => (p2 i hi).2.2.2.1)
  have wA9 : ∀ c, wA 9 c = v 9 c := fun c => by rw [a3 9 (by omega) (by decide)]
  have oC0 : oC.1 0 = nI n := by rw [b3 0 (fun j _ => by omega)]; exact h3
  obtain ⟨wB, kB, c1, c2, c3, c4⟩ := pass_eq wA oC.1 o4.2.2.2.1 o4.2.2.2.2 oC.2 (fun j => wF (v j)) (fun j => cF (v j)) (fun j => clF (v j)) hn.2 (by rw [wA9]; exact h2) oC0 (fun k hk => ⟨by rw [a2 k hk]; exact wF_co _, by rw [a2 k hk]; exact cF_co _, (p2 k hk).2.2.2.1, (p2 k hk).2.2.2.2⟩) (fun k hk => ⟨(a4 k hk).trans (b2 k hk).2.2.symm, (b2 k hk).2.2⟩)
  have wBo : ∀ j, n ≤ j → j ≠ 4 → wB j = v j := fun j q1 q2 => (c3 j q2).trans (a3 j q1 q2)
  have hQ : TQ n t T wB oC.1 := by
    refine ⟨hn, ⟨by rw [wBo 9 (by omega) (by decide)]; exact h2, oC0⟩, ⟨by rw [wBo 9 (by omega) (by decide)]; exact h6, by rw [b3 2 (fun j _ => by omega)]; exact h7, by rw [wBo 8 (by omega) (by decide)]; exact h8, by rw [b3 3 (fun j _ => by omega)]; exact h9⟩, by rw [wBo 9 (by omega) (by decide), b3 1 (fun j _ => by omega)]; exact h10, by rw [wBo 8 (by omega) (by decide), b3 4 (fun j _ => by omega)]; exact h12, ⟨by rw [b3 5 (fun j _ => by omega)]; exact h13, fun q q1 q2 => ?_⟩, fun j hj k hk => ?_⟩
    · rw [wBo 5 (by omega) (by decide), wBo 6 (by omega) (by decide), wBo 7 (by omega) (by decide), b3 _ (fun j _ => by omega), b3 _ (fun j _ => by omega), b3 _ (fun j _ => by omega)]
      exact h14 q q1 q2
    · rw [c3 j (by omega), a2 j hj]
      by_cases e8 : k = 8
      · subst e8; exact (b2 j hj).1.symm
      · by_cases e9 : k = 9
        · subst e9; rw [coF_9]; exact (b2 j hj).2.1.symm
        · rw [coF_o _ e8 e9]
          have hp := pm_lt hk
          have n1 : pm k ≠ 9 := fun z => e8 (pm_inj k hk 8 (by decide) z)
          have n2 : pm k ≠ 10 := fun z => e9 (pm_inj k hk 9 (by decide) z)
          rw [b3 _ (fun j' _ => by omega)]
          exact h15 j hj k hk
  obtain ⟨o, o', T', q1, q2, q3⟩ := tickC_eq (v := v) ht h5 hQ h20 (fun j hj => by rw [c3 j (by omega)]; exact a2 j hj) (fun j hj => by
    rw [c3 j (by omega)]
    by_cases e : j < n
    · rw [a2 j e, coF_o _ (by decide) (by decide)]; exact h21 j hj
    · rw [a3 j (by omega) (by omega)]; exact h21 j hj) (by rw [wBo 9 (by omega) (by decide)]; exact h11) o4.1 o4.2.1 o4.2.2.1 o4.2.2.2.1 o4.2.2.2.2 kB (fun j hj => (p2 j hj).2.2.2.1) (fun j hj => (p2 j hj).2.2.2.2) c4
  refine ⟨o, o', T', ?_, ?_, q3⟩
  · rw [a1]
    unfold j_X1_runTick_57
    rw [c1, zbd_s]
    exact q1
  · unfold f_X8_ticks
    rw [p1, zbd_s]
    simp only [zlet_d]
    rw [b1, zbd_s, c2, zbd_s]
    exact q2
theorem st_tick {tl : Nat → Int32} {tn pn pz : Int32} {pl : Nat → R2} {v u : R2} {m1 m2 : Int32} {mb ms mp : Nat → Int32} (h : RR tl tn pn pz pl v u m1 m2 mb ms mp) (mf mi mo mw mn mk : Nat → Int32) (x : Int32) : ∃ o o', f_X7_tick pn pz pl v x = some o ∧ f_X8_tick m2 ms mp mf mi mo mw mn mk x = some o' ∧ o.1 = o'.1 ∧ RR tl tn o.2.1 o.2.2.1 o.2.2.2.1 o.2.2.2.2 u m1 o'.2.2.1 mb o'.2.2.2.1 o'.2.2.2.2.1 := by
  obtain ⟨h1, ⟨n, t, T, ht, hL⟩, ⟨P, q, hP⟩, h4⟩ := id h
  have k2 : zn 2 = 2 := by decide
  have i2 : zin 2 114 = true := by decide
  have k3 : zn 3 = 3 := by decide
  have i3 : zin 3 114 = true := by decide
  have v92 := hL.2.2.1.2.2.1
  have m92 := hL.2.2.1.2.2.2.1
  have v80 := hL.2.2.1.2.2.2.2.1
  have m80 := hL.2.2.1.2.2.2.2.2
  unfold f_X7_tick f_X8_tick f_X8_in
  simp only [zlet_d]
  by_cases c1 : x < 1
  · rw [if_pos c1, if_pos c1, zbd_s, if_pos rfl]
    exact ⟨_, _, rfl, rfl, rfl, h⟩
  · rw [if_neg c1, if_neg c1]
    by_cases c2 : x ≤ 50
    · have c3 : ¬ (50 : Int32) < x := Int32.not_lt.mpr c2
      rw [if_pos c2, if_neg c3, zbd_s, if_neg ne10, i2, i3, zg_t, k2, k3, v92, m92]
      obtain ⟨j, hj, rfl⟩ := nI_of2 (M := 50) (n := 50) (by decide) (fun q => c1 (Int32.lt_trans q (by decide))) c2
      rw [nI_add]
      by_cases c4 : nI (t + j) ≤ 9999
      · have hj2 : t + j ≤ 9999 := (nI_leI (a := t + j) (b := 9999) (by omega) (by decide)).mp c4
        rw [if_pos c4, if_pos c4]
        obtain ⟨o, o', e1, e2, e3⟩ := keep_eq hL ht hP
        rw [e1, e2, zbd_s, zbd_s, zg_t, v80, m80]
        obtain ⟨r, r', f1, f2, f3, T', f4, f5, f6, f7⟩ := zloop_sim (b_X7_tick_55 (nI j) o (nI T)) (b_X8_tick_47 (nI j) 0 o' (nI T)) j (fun k s s' => s.1 = nI k ∧ s'.1 = nI k ∧ ∃ T', LR n (t + k) T' s.2 s'.2.1) (fun r r' => r.1 = r'.1 ∧ ∃ T', LR n (t + j) T' r.2.2.2.2 r'.2.2.2.1 ∧ (r.2.1 = o.1 ∧ r.2.2.1 = o.2.1 ∧ r.2.2.2.1 = o.2.2) ∧ r'.2.2.1 = o'.1 ∧ r'.2.2.2.2.1 = o'.2) (by
          rintro ⟨y, z⟩ ⟨y', M, a1, a2, a3, a4, a5, a6⟩ rc rc' ⟨g1, g2, T', g3⟩
          dsimp only at g1 g2 g3
          unfold b_X7_tick_55 j_X7_tick_73 b_X8_tick_47 j_X8_tick_62
          dsimp only
          rw [g1, if_pos (Int32.le_refl _), g2, if_pos (Int32.le_refl _), i3, zg_t, k3, g3.2.2.1.2.2.2.2.1, g3.2.2.1.2.2.2.2.2]
          exact ⟨_, _, rfl, rfl, rfl, T', g3, ⟨rfl, rfl, rfl⟩, rfl, rfl⟩) (by
          rintro k ⟨y, z⟩ ⟨y', M, a1, a2, a3, a4, a5, a6⟩ hk ⟨g1, g2, T', g3⟩
          dsimp only at g1 g2 g3
          subst g1
          subst g2
          obtain ⟨w, oo, T2, d1, d2, d3⟩ := tick1_eq g3 (by omega) a1 a2 a3 a4 a5 a6
          refine ⟨(nI (k + 1), w), (nI (k + 1), oo), ⟨rfl, rfl, T2, d3⟩, fun rc => ?_, fun rc => ?_⟩
          · unfold b_X7_tick_55
            dsimp only
            rw [if_neg (nI_ge hk (by omega)), d1, zbd_s, zlet_d, nI_1]
          · unfold b_X8_tick_47
            dsimp only
            rw [if_neg (nI_ge hk (by omega)), d2, zbd_s]
            simp only [zlet_d]
            rw [nI_1]) j 0 1000 1000 (0, v) (0, ms, mf, mi, mo, mw, mn, mk) (by omega) (by omega) (by omega) ⟨nI_0.symm, nI_0.symm, T, hL⟩
        refine ⟨r, r', f1, f2, f3, ?_⟩
        rw [f5.1, f5.2.1, f5.2.2, f6, f7]
        exact ⟨h1, ⟨n, t + j, T', hj2, f4⟩, ⟨_, _, e3⟩, h4⟩
      · rw [if_neg c4, if_neg c4]
        exact ⟨_, _, rfl, rfl, rfl, h⟩
    · have c3 : (50 : Int32) < x := Int32.not_le.mp c2
      rw [if_neg c2, if_pos c3, zbd_s, if_pos rfl]
      exact ⟨_, _, rfl, rfl, rfl, h⟩
/-! ===== pure: settle ===== -/
theorem inI_nI {x : Int32} {b : Nat} (h : inI x 0 b) (hb : b < 2 ^ 31) : ∃ j : Nat, j ≤ b ∧ x = nI j := by
  refine ⟨x.toInt.toNat, by unfold inI at h; omega, Int32.toInt_inj.mp ?_⟩
  rw [nI_toInt (by unfold inI at h; omega)]
  unfold inI at h
  omega
theorem tap5 {x : Int32} (h : inI x (-5) 5) : ∃ j : Nat, j ≤ 10 ∧ x + 5 = nI j := by
  have k5 : (5 : Int32).toInt = 5 := by decide
  have := tI_add (x := x) (y := 5) (by rw [k5]; unfold inI at h; omega) (by rw [k5]; unfold inI at h; omega)
  rw [k5] at this
  exact inI_nI (b := 10) (by unfold inI at h ⊢; omega) (by decide)
theorem l_shl {X k : Nat} (s : Int64) (hs : (s.toBitVec.smod 64).toNat = k) (h : X * 2 ^ k < 2 ^ 64) : lN X <<< s = lN (X * 2 ^ k) := by
  apply Int64.toBitVec_inj.mp
  apply BitVec.eq_of_toNat_eq
  have hX : X < 2 ^ 64 := Nat.lt_of_le_of_lt (Nat.le_mul_of_pos_right X (Nat.two_pow_pos k)) h
  have e : ∀ n, n < 2 ^ 64 → (lN n).toBitVec.toNat = n := fun n hn => by
    show (BitVec.ofNat 64 n).toNat = n
    rw [BitVec.toNat_ofNat, Nat.mod_eq_of_lt hn]
  have e1 : (lN X <<< s).toBitVec.toNat = (lN X).toBitVec.toNat * 2 ^ k % 2 ^ 64 := by
    show ((lN X).toBitVec <<< (s.toBitVec.smod 64).toNat).toNat = _
    rw [hs, BitVec.toNat_shiftLeft, Nat.shiftLeft_eq]
  rw [e1, e X hX, e _ h, Nat.mod_eq_of_lt h]
theorem l_or (A B : Nat) : lN A ||| lN B = lN (A ||| B) := by
  apply Int64.toBitVec_inj.mp
  show BitVec.ofNat 64 A ||| BitVec.ofNat 64 B = BitVec.ofNat 64 (A ||| B)
  exact BitVec.ofNat_or.symm
theorem sh4 : ((Int32.toInt64 4 &&& 63 : Int64).toBitVec.smod 64).toNat = 4 := by decide
theorem sh2 : ((Int32.toInt64 2 &&& 63 : Int64).toBitVec.smod 64).toNat = 2 := by decide
theorem pk_stepC {X a b c : Nat} (hX : X < 2 ^ 48) (ha : a < 16) (hb : b < 16) (hc : c < 4) : ((((lN X <<< (Int32.toInt64 4 &&& 63)) ||| lN a) <<< (Int32.toInt64 4 &&& 63) ||| lN b) <<< (Int32.toInt64 2 &&& 63)) ||| lN c = lN (X * 1024 + a * 64 + b * 4 + c) := by
  have o4 : ∀ Y d, d < 16 → Y * 2 ^ 4 ||| d = Y * 16 + d := fun Y d hd => by
    have := Nat.shiftLeft_add_eq_or_of_lt (i := 4) (b := d) hd Y
    rw [Nat.shiftLeft_eq] at this
    exact this.symm
  have o2 : ∀ Y d, d < 4 → Y * 2 ^ 2 ||| d = Y * 4 + d := fun Y d hd => by
    have := Nat.shiftLeft_add_eq_or_of_lt (i := 2) (b := d) hd Y
    rw [Nat.shiftLeft_eq] at this
    exact this.symm
  rw [l_shl _ sh4 (by omega), l_or, o4 _ _ ha, l_shl _ sh4 (by omega), l_or, o4 _ _ hb, l_shl _ sh2 (by omega), l_or, o2 _ _ hc]
  congr 1
  omega
def pkN (v : R2) : Nat → Nat → Nat → Nat
  | 0, _, X => X
  | k + 1, i, X => pkN v k (i + 1) (X * 1024 + zn (v i 7 + 5) * 64 + zn (v i 8) * 4 + zn (v i 9))
theorem pk_row {g : Nat → Int32} (h : RGr g) : (zn (g 7 + 5) ≤ 10 ∧ g 7 + 5 = nI (zn (g 7 + 5))) ∧ (zn (g 8) ≤ 9 ∧ g 8 = nI (zn (g 8))) ∧ (zn (g 9) ≤ 2 ∧ g 9 = nI (zn (g 9))) := by
  obtain ⟨a, a1, a2⟩ := tap5 h.2.2.2.2.2.2.2.1
  obtain ⟨b, b1, b2⟩ := inI_nI (b := 9) h.2.2.2.2.2.2.2.2.1 (by decide)
  obtain ⟨c, c1, c2⟩ := inI_nI (b := 2) h.2.2.2.2.2.2.2.2.2.1 (by decide)
  rw [a2, b2, c2, zn_n (i := a) (by omega), zn_n (i := b) (by omega), zn_n (i := c) (by omega)]
  exact ⟨⟨a1, rfl⟩, ⟨b1, rfl⟩, c1, rfl⟩
theorem packed_eq (v : R2) {n : Nat} (hn : n ≤ 4) (hv : v 9 0 = nI n) (hR : RG n v) : ∀ (k i f X : Nat), i + k = n → k < f → X < 1024 ^ i → zloop (b_X1_packed_4 v) f (lN X, nI i) = some (lN (pkN v k i X)) := by
  intro k
  induction k with
  | zero =>
    intro i f X hi hf hX
    obtain ⟨f, rfl⟩ : ∃ g, f = g + 1 := ⟨f - 1, by omega⟩
    show b_X1_packed_4 v (zloop (b_X1_packed_4 v) f) (lN X, nI i) = _
    unfold b_X1_packed_4
    dsimp only
    rw [hv, if_pos (nI_le (by omega) (by omega))]
    rfl
  | succ k ih =>
    intro i f X hi hf hX
    obtain ⟨f, rfl⟩ : ∃ g, f = g + 1 := ⟨f - 1, by omega⟩
    obtain ⟨⟨a1, a2⟩, ⟨b1, b2⟩, c1, c2⟩ := pk_row (hR i (by omega))
    have hX4 : X < 2 ^ 48 := Nat.lt_of_lt_of_le hX (Nat.le_trans (Nat.pow_le_pow_right (by decide) (show i ≤ 4 by omega)) (by decide))
    have h1 : b_X1_packed_4 v (zloop (b_X1_packed_4 v) f) (lN X, nI i) = zloop (b_X1_packed_4 v) f (lN (X * 1024 + zn (v i 7 + 5) * 64 + zn (v i 8) * 4 + zn (v i 9)), nI (i + 1)) := by
      generalize zloop (b_X1_packed_4 v) f = rc
      generalize zn (v i 7 + 5) = a at *
      generalize zn (v i 8) = b at *
      generalize zn (v i 9) = c at *
      unfold b_X1_packed_4
      dsimp only
      rw [hv, if_neg (nI_ge (show i < n by omega) (by omega)), z4 (show i < 4 by omega), zg_t, n4 (show i < 4 by omega)]
      simp only [zlet_d]
      rw [a2, b2, c2, nI_l (by omega), nI_l (by omega), nI_l (by omega), nI_1, pk_stepC hX4 (by omega) (by omega) (by omega)]
    refine h1.trans (ih (i + 1) f _ (by omega) (by omega) ?_)
    rw [Nat.pow_succ]
    omega
theorem codeOf_eq (v : R2) (ms : Nat → Int32) {n : Nat} (hn : n ≤ 4) (hM : ms 0 = nI n) (hF : FR n v ms) (hR : RG n v) : ∀ (k i f X : Nat), i + k = n → k < f → zloop (b_X8_codeOf_4 ms) f (lN X, nI i) = some (lN (pkN v k i X)) := by
  intro k
  induction k with
  | zero =>
    intro i f X hi hf
    obtain ⟨f, rfl⟩ : ∃ g, f = g + 1 := ⟨f - 1, by omega⟩
    show b_X8_codeOf_4 ms (zloop (b_X8_codeOf_4 ms) f) (lN X, nI i) = _
    unfold b_X8_codeOf_4
    dsimp only
    rw [z0i, zg_t, z0k, hM, if_pos (nI_le (by omega) (by omega))]
    rfl
  | succ k ih =>
    intro i f X hi hf
    obtain ⟨f, rfl⟩ : ∃ g, f = g + 1 := ⟨f - 1, by omega⟩
    obtain ⟨⟨a1, a2⟩, ⟨b1, b2⟩, c1, c2⟩ := pk_row (hR i (by omega))
    have h1 : b_X8_codeOf_4 ms (zloop (b_X8_codeOf_4 ms) f) (lN X, nI i) = zloop (b_X8_codeOf_4 ms) f (lN (X * 1024 + zn (v i 7 + 5) * 64 + zn (v i 8) * 4 + zn (v i 9)), nI (i + 1)) := by
      generalize zloop (b_X8_codeOf_4 ms) f = rc
      have f7 : ms (6 + 12 * i + 7) = v i 7 := (hF i (by omega) 7 (by decide)).symm
      have f9 : ms (6 + 12 * i + 9) = v i 8 := (hF i (by omega) 8 (by decide)).symm
      have f10 : ms (6 + 12 * i + 10) = v i 9 := (hF i (by omega) 9 (by decide)).symm
      generalize zn (v i 7 + 5) = a at *
      generalize zn (v i 8) = b at *
      generalize zn (v i 9) = c at *
      unfold b_X8_codeOf_4
      dsimp only
      rw [z0i, zg_t, z0k, hM, if_neg (nI_ge (show i < n by omega) (by omega)), of_7 ms (show i < 4 by omega), zbd_s, of_9 ms (show i < 4 by omega), zbd_s, of_10 ms (show i < 4 by omega), zbd_s, f7, f9, f10]
      simp only [zlet_d]
      have e1 : nI a * 64 = nI (a * 64) := pk_mul a 64
      have e2 : nI b * 4 = nI (b * 4) := pk_mul b 4
      rw [a2, b2, c2, e1, e2, nI_l (by omega), nI_l (by omega), nI_l (by omega), nI_1, show (1024 : Int64) = lN 1024 from rfl, lN_mul, lN_add, lN_add, lN_add]
    exact h1.trans (ih (i + 1) f _ (by omega) (by omega))
/-- the first place from m on that is like place k -/
def flF (a : Nat → Int64) (k : Nat) : Nat → Nat → Nat
  | 0, m => m
  | r + 1, m => if a m = a k then m else flF a k r (m + 1)
theorem flF_le (a : Nat → Int64) (k : Nat) : ∀ r m, m + r = k → flF a k r m ≤ k := by
  intro r
  induction r with
  | zero => intro m h; show m ≤ k; omega
  | succ r ih =>
    intro m h
    show (if a m = a k then m else flF a k r (m + 1)) ≤ k
    split
    · omega
    · exact ih (m + 1) (by omega)
theorem flF_eqv {a b : Nat → Int64} {k : Nat} (h : ∀ m, m ≤ k → a m = b m) : ∀ r m, m + r = k → flF a k r m = flF b k r m := by
  intro r
  induction r with
  | zero => intro m _; rfl
  | succ r ih =>
    intro m hm
    show (if a m = a k then m else flF a k r (m + 1)) = (if b m = b k then m else flF b k r (m + 1))
    rw [h m (by omega), h k (Nat.le_refl k), ih (m + 1) (by omega)]
theorem firstLike_eq (sn : Nat → Int64) {k : Nat} (hk : k ≤ 300) : ∀ (r m f : Nat), m + r = k → r < f → zloop (b_X0_firstLike_2 sn (nI k)) f (nI m) = some (nI (flF sn k r m)) := by
  intro r
  induction r with
  | zero =>
    intro m f hm hf
    obtain ⟨f, rfl⟩ : ∃ g, f = g + 1 := ⟨f - 1, by omega⟩
    obtain rfl : m = k := by omega
    show b_X0_firstLike_2 sn (nI m) (zloop (b_X0_firstLike_2 sn (nI m)) f) (nI m) = _
    unfold b_X0_firstLike_2
    rw [if_pos (Int32.le_refl _)]
    rfl
  | succ r ih =>
    intro m f hm hf
    obtain ⟨f, rfl⟩ : ∃ g, f = g + 1 := ⟨f - 1, by omega⟩
    have h1 : b_X0_firstLike_2 sn (nI k) (zloop (b_X0_firstLike_2 sn (nI k)) f) (nI m) = if sn m = sn k then some (nI m) else zloop (b_X0_firstLike_2 sn (nI k)) f (nI (m + 1)) := by
      generalize zloop (b_X0_firstLike_2 sn (nI k)) f = rc
      unfold b_X0_firstLike_2
      rw [if_neg (nI_ge (show m < k by omega) (by omega)), zin_n (i := m) (n := 301) (by omega) (by decide), zin_n (i := k) (n := 301) (by omega) (by decide), zg_t, zg_t, zn_n (i := m) (by omega), zn_n (i := k) (by omega), zlet_d, nI_1]
      by_cases c : sn m = sn k
      · rw [if_pos c, if_pos ((lg_cmp_eq _ _).mpr c)]
      · rw [if_neg c, if_neg (fun q => c ((lg_cmp_eq _ _).mp q))]
    show b_X0_firstLike_2 sn (nI k) (zloop (b_X0_firstLike_2 sn (nI k)) f) (nI m) = _
    rw [h1]
    show _ = some (nI (if sn m = sn k then m else flF sn k r (m + 1)))
    by_cases c : sn m = sn k
    · rw [if_pos c, if_pos c]
    · rw [if_neg c, if_neg c]
      exact ih (m + 1) f (by omega) (by omega)
theorem nI_nm4 {k : Nat} (h : k < 2 ^ 31) : ¬ nI k = (-4 : Int32) := fun e => nI_pos h (by rw [e]; decide)
theorem in117_eq (rc : (Int32 × Int32 × Int32 × Int32 × Int32 × (Nat → Int32) × (Nat → Int32) × (Nat → Int32) × (Nat → Int32) × (Nat → Int32) × (Nat → Int32) × (Nat → Int32) × (Nat → Int64) × (Nat → Int32)) → Option (Int32 × Int32 × Int32 × Int32 × (Nat → Int32) × (Nat → Int32) × (Nat → Int32) × (Nat → Int32) × (Nat → Int32) × (Nat → Int32) × (Nat → Int32) × (Nat → Int64) × (Nat → Int32) × (Nat → Int32))) (s : Int32 × Int32 × Int32 × Int32 × Int32 × (Nat → Int32) × (Nat → Int32) × (Nat → Int32) × (Nat → Int32) × (Nat → Int32) × (Nat → Int32) × (Nat → Int32) × (Nat → Int64) × (Nat → Int32)) (N mk mf mi mo mw mn : Nat → Int32) (mt : Nat → Int64) (mq : Nat → Int32) {k : Nat} (hk : k ≤ 300) (hs : s.1 = nI k) : ∀ (r m f : Nat) (c d : Int32), m + r = k → r + 1 < f → zloop (b_X8_settles_117 rc s N mk mf mi mo mw mn (-4) mt mq) f (nI m, -4, c, d) = if flF mt k r m < k then j_X8_settles_191 rc s N mk mf mi mo mw mn (-4) mt mq (nI (flF mt k r m)) (nI k - nI (flF mt k r m)) (mq k - mq (flF mt k r m)) else j_X8_settles_191 rc s N mk mf mi mo mw mn (-4) mt mq (-4) c d := by
  intro r
  induction r with
  | zero =>
    intro m f c d hm hf
    obtain ⟨f, rfl⟩ : ∃ g, f = g + 1 := ⟨f - 1, by omega⟩
    obtain rfl : m = k := by omega
    show b_X8_settles_117 rc s N mk mf mi mo mw mn (-4) mt mq (zloop (b_X8_settles_117 rc s N mk mf mi mo mw mn (-4) mt mq) f) (nI m, -4, c, d) = _
    unfold b_X8_settles_117
    dsimp only
    rw [hs, if_pos (Int32.le_refl _), if_neg (show ¬ flF mt m 0 m < m from by show ¬ m < m; omega)]
  | succ r ih =>
    intro m f c d hm hf
    obtain ⟨f, rfl⟩ : ∃ g, f = g + 1 := ⟨f - 1, by omega⟩
    have h1 : b_X8_settles_117 rc s N mk mf mi mo mw mn (-4) mt mq (zloop (b_X8_settles_117 rc s N mk mf mi mo mw mn (-4) mt mq) f) (nI m, -4, c, d) = if mt m = mt k then zloop (b_X8_settles_117 rc s N mk mf mi mo mw mn (-4) mt mq) f (nI (m + 1), nI m, nI k - nI m, mq k - mq m) else zloop (b_X8_settles_117 rc s N mk mf mi mo mw mn (-4) mt mq) f (nI (m + 1), -4, c, d) := by
      generalize zloop (b_X8_settles_117 rc s N mk mf mi mo mw mn (-4) mt mq) f = rc2
      unfold b_X8_settles_117 j_X8_settles_185
      dsimp only
      rw [hs, if_neg (nI_ge (show m < k by omega) (by omega)), if_pos rfl, if_pos rfl, zin_n (i := m) (n := 301) (by omega) (by decide), zin_n (i := k) (n := 301) (by omega) (by decide), zn_n (i := m) (by omega), zn_n (i := k) (by omega), nI_1]
      simp only [zg_t, zlet_d]
      by_cases c : mt m = mt k
      · rw [if_pos c, if_pos ((lg_cmp_eq _ _).mpr c)]
      · rw [if_neg c, if_neg (fun q => c ((lg_cmp_eq _ _).mp q))]
    show b_X8_settles_117 rc s N mk mf mi mo mw mn (-4) mt mq (zloop (b_X8_settles_117 rc s N mk mf mi mo mw mn (-4) mt mq) f) (nI m, -4, c, d) = _
    rw [h1]
    have hfl : flF mt k (r + 1) m = if mt m = mt k then m else flF mt k r (m + 1) := rfl
    rw [hfl]
    by_cases e : mt m = mt k
    · rw [if_pos e, if_pos e, if_pos (show m < k by omega)]
      obtain ⟨f, rfl⟩ : ∃ g, f = g + 1 := ⟨f - 1, by omega⟩
      show b_X8_settles_117 rc s N mk mf mi mo mw mn (-4) mt mq (zloop (b_X8_settles_117 rc s N mk mf mi mo mw mn (-4) mt mq) f) (nI (m + 1), nI m, nI k - nI m, mq k - mq m) = _
      unfold b_X8_settles_117
      dsimp only
      by_cases e2 : s.1 ≤ nI (m + 1)
      · rw [if_pos e2]
      · rw [if_neg e2, if_pos rfl, if_neg (nI_nm4 (by omega))]
    · rw [if_neg e, if_neg e]
      exact ih (m + 1) f c d (by omega) (by omega)
theorem rest201_eq (mz : Nat → Int32) (a b c d : Int32) (N mf mi mo mw mn mk : Nat → Int32) (mt : Nat → Int64) (mq : Nat → Int32) : ∃ o, j_X8_settles_201 mz a b c d N mf mi mo mw mn mk mt mq = some o ∧ (o.1 = a ∧ o.2.1 = b ∧ o.2.2.1 = c ∧ o.2.2.2.1 = d) ∧ ∀ j, j < 114 → o.2.2.2.2.1 j = mz j := by
  unfold j_X8_settles_201
  refine zloop_inv (b_X8_settles_203 mz a b c d mf mi mo mw mn mk mt mq) 114 (fun i s => s.1 = nI i ∧ ∀ j, j < i → s.2 j = mz j) _ ?_ ?_ 114 0 1000 _ (by omega) (by omega) ?_
  · rintro ⟨x, w⟩ rc ⟨h1, h2⟩
    dsimp only at h1 h2
    unfold b_X8_settles_203
    dsimp only
    rw [h1, if_pos (by decide)]
    exact ⟨_, rfl, ⟨rfl, rfl, rfl, rfl⟩, h2⟩
  · rintro i ⟨x, w⟩ hi ⟨h1, h2⟩
    dsimp only at h1 h2
    subst h1
    refine ⟨(nI (i + 1), upd w i (mz i)), ⟨rfl, fun j hj => ?_⟩, fun rc => ?_⟩
    · show upd w i _ j = mz j
      by_cases e : j = i
      · subst e; rw [upd_s]
      · rw [upd_o e]; exact h2 j (by omega)
    · unfold b_X8_settles_203
      dsimp only
      have hne : ¬ (114 : Int32) ≤ nI i := nI_ge (b := 114) hi (by decide)
      rw [if_neg hne, zin_n (i := i) (n := 114) hi (by decide), zg_t, zg_t, zn_n (i := i) (by omega), zlet_d, zlet_d, nI_1]
  · exact ⟨nI_0.symm, fun j h => absurd h (by omega)⟩
theorem s52_out (mz : Nat → Int32) (rc : (Int32 × Int32 × Int32 × Int32 × Int32 × (Nat → Int32) × (Nat → Int32) × (Nat → Int32) × (Nat → Int32) × (Nat → Int32) × (Nat → Int32) × (Nat → Int32) × (Nat → Int64) × (Nat → Int32)) → Option (Int32 × Int32 × Int32 × Int32 × (Nat → Int32) × (Nat → Int32) × (Nat → Int32) × (Nat → Int32) × (Nat → Int32) × (Nat → Int32) × (Nat → Int32) × (Nat → Int64) × (Nat → Int32) × (Nat → Int32))) (x a b c d : Int32) (N mf mi mo mw mn mk : Nat → Int32) (mt : Nat → Int64) (mq : Nat → Int32) (h : 300 < x ∨ ¬ a = -4 ∨ ¬ b = -4) : b_X8_settles_52 mz rc (x, a, b, c, d, N, mf, mi, mo, mw, mn, mk, mt, mq) = j_X8_settles_201 mz a b c d N mf mi mo mw mn mk mt mq := by
  unfold b_X8_settles_52
  simp only [zlet_d]
  by_cases c1 : 300 < x
  · rw [if_pos c1]
  · rw [if_neg c1]
    by_cases c2 : a = -4
    · rw [if_pos c2]
      by_cases c3 : b = -4
      · rcases h with h | h | h
        · exact absurd h c1
        · exact absurd c2 h
        · exact absurd c3 h
      · rw [if_neg c3]
    · rw [if_neg c2]
theorem s52_in (mz : Nat → Int32) (rc : (Int32 × Int32 × Int32 × Int32 × Int32 × (Nat → Int32) × (Nat → Int32) × (Nat → Int32) × (Nat → Int32) × (Nat → Int32) × (Nat → Int32) × (Nat → Int32) × (Nat → Int64) × (Nat → Int32)) → Option (Int32 × Int32 × Int32 × Int32 × (Nat → Int32) × (Nat → Int32) × (Nat → Int32) × (Nat → Int32) × (Nat → Int32) × (Nat → Int32) × (Nat → Int32) × (Nat → Int64) × (Nat → Int32) × (Nat → Int32))) {k : Nat} (hk : k ≤ 300) (N mf mi mo mw mn mk : Nat → Int32) (mt : Nat → Int64) (mq : Nat → Int32) {o4 : (Nat → Int32) × (Nat → Int32) × (Nat → Int32) × (Nat → Int32) × (Nat → Int32)} (h4 : f_X8_lays N mf mi mo mw mn = some o4) {q : Int32} (hq : f_X8_isQuiet N o4.2.2.2.2 = some q) {co : Int64} (hc : f_X8_codeOf N = some co) : b_X8_settles_52 mz rc (nI k, -4, -4, -4, -4, N, mf, mi, mo, mw, mn, mk, mt, mq) = zloop (b_X8_settles_117 rc (nI k, -4, -4, -4, -4, N, mf, mi, mo, mw, mn, mk, mt, mq) N mk o4.1 o4.2.1 o4.2.2.1 o4.2.2.2.1 o4.2.2.2.2 (if q = 0 then -4 else nI k) (vp_updL mt k co) (upd mq k (N 3))) 1000 (0, -4, -4, -4) := by
  have k3 : zn 3 = 3 := by decide
  have i3 : zin 3 114 = true := by decide
  have hne : ¬ (300 : Int32) < nI k := nI_nlt (a := 300) hk (by decide)
  have key : ∀ m41 : Int32, j_X8_settles_93 rc (nI k, -4, -4, -4, -4, N, mf, mi, mo, mw, mn, mk, mt, mq) (-4) (-4) (-4) N mk mt mq o4.1 o4.2.1 o4.2.2.1 o4.2.2.2.1 o4.2.2.2.2 m41 = zloop (b_X8_settles_117 rc (nI k, -4, -4, -4, -4, N, mf, mi, mo, mw, mn, mk, mt, mq) N mk o4.1 o4.2.1 o4.2.2.1 o4.2.2.2.1 o4.2.2.2.2 m41 (vp_updL mt k co) (upd mq k (N 3))) 1000 (0, -4, -4, -4) := fun m41 => by
    unfold j_X8_settles_93
    dsimp only
    rw [hc, zbd_s, zin_n (i := k) (n := 301) (by omega) (by decide), zg_t, zn_n (i := k) (by omega), zlet_d, i3, zg_t, zg_t, k3, zlet_d]
  unfold b_X8_settles_52
  simp only [zlet_d]
  rw [if_neg hne, if_pos rfl, if_pos rfl, h4, zbd_s, hq, zbd_s, key, key]
  by_cases e : q = 0
  · rw [if_pos e, if_pos e]
  · rw [if_neg e, if_neg e]
theorem j191_eq (rc : (Int32 × Int32 × Int32 × Int32 × Int32 × (Nat → Int32) × (Nat → Int32) × (Nat → Int32) × (Nat → Int32) × (Nat → Int32) × (Nat → Int32) × (Nat → Int32) × (Nat → Int64) × (Nat → Int32)) → Option (Int32 × Int32 × Int32 × Int32 × (Nat → Int32) × (Nat → Int32) × (Nat → Int32) × (Nat → Int32) × (Nat → Int32) × (Nat → Int32) × (Nat → Int32) × (Nat → Int64) × (Nat → Int32) × (Nat → Int32))) (s : Int32 × Int32 × Int32 × Int32 × Int32 × (Nat → Int32) × (Nat → Int32) × (Nat → Int32) × (Nat → Int32) × (Nat → Int32) × (Nat → Int32) × (Nat → Int32) × (Nat → Int64) × (Nat → Int32)) {k : Nat} (hs : s.1 = nI k) (N mk mf mi mo mw mn : Nat → Int32) (m41 : Int32) (mt : Nat → Int64) (mq : Nat → Int32) (a b c : Int32) {o : (Nat → Int32) × (Nat → Int32) × (Nat → Int32) × (Nat → Int32) × (Nat → Int32) × (Nat → Int32) × (Nat → Int32)} (ho : f_X8_ticks N mf mi mo mw mn mk = some o) : j_X8_settles_191 rc s N mk mf mi mo mw mn m41 mt mq a b c = rc (nI (k + 1), m41, a, b, c, o.1, o.2.1, o.2.2.1, o.2.2.2.1, o.2.2.2.2.1, o.2.2.2.2.2.1, o.2.2.2.2.2.2, mt, mq) := by
  unfold j_X8_settles_191
  rw [ho, zbd_s]
  simp only [zlet_d]
  rw [hs, nI_1]
theorem settle_go {n t : Nat} (ht : t ≤ 9999) (mz : Nat → Int32) : ∀ (r k f f' T : Nat) (sn : Nat → Int64) (sb : Nat → Int32) (w : R2) (N mf mi mo mw mn mk : Nat → Int32) (mt : Nat → Int64) (mq : Nat → Int32), k + r = 301 → r < f → r + 1 < f' → LR n (t + k) T w N → (∀ m, m < k → sn m = mt m ∧ sb m = mq m) → ∃ o o', zloop (b_X0_follow_34 (-4) (-4) (-4) (-4)) f (nI k, sn, sb, w) = some o ∧ zloop (b_X8_settles_52 mz) f' (nI k, -4, -4, -4, -4, N, mf, mi, mo, mw, mn, mk, mt, mq) = some o' ∧ (o.2.2.1 = o'.1 ∧ o.2.2.2.1 = o'.2.1 ∧ o.2.2.2.2.1 = o'.2.2.1 ∧ o.2.2.2.2.2.1 = o'.2.2.2.1) ∧ ∀ j, j < 114 → o'.2.2.2.2.1 j = mz j := by
  intro r
  induction r with
  | zero =>
    intro k f f' T sn sb w N mf mi mo mw mn mk mt mq hk hf hf' hL hm
    obtain ⟨f, rfl⟩ : ∃ g, f = g + 1 := ⟨f - 1, by omega⟩
    obtain ⟨f', rfl⟩ : ∃ g, f' = g + 1 := ⟨f' - 1, by omega⟩
    obtain rfl : k = 301 := by omega
    have hlt : (300 : Int32) < nI 301 := by decide
    obtain ⟨o', p1, ⟨p2, p3, p4, p5⟩, p6⟩ := rest201_eq mz (-4) (-4) (-4) (-4) N mf mi mo mw mn mk mt mq
    refine ⟨(sn, sb, -4, -4, -4, -4, w), o', ?_, ?_, ⟨p2.symm, p3.symm, p4.symm, p5.symm⟩, p6⟩
    · show b_X0_follow_34 (-4) (-4) (-4) (-4) (zloop (b_X0_follow_34 (-4) (-4) (-4) (-4)) f) (nI 301, sn, sb, w) = _
      unfold b_X0_follow_34
      dsimp only
      rw [if_pos hlt]
    · show b_X8_settles_52 mz (zloop (b_X8_settles_52 mz) f') (nI 301, -4, -4, -4, -4, N, mf, mi, mo, mw, mn, mk, mt, mq) = _
      rw [s52_out mz _ _ _ _ _ _ N mf mi mo mw mn mk mt mq (Or.inl hlt)]
      exact p1
  | succ r ih =>
    intro k f f' T sn sb w N mf mi mo mw mn mk mt mq hk hf hf' hL hm
    obtain ⟨f, rfl⟩ : ∃ g, f = g + 1 := ⟨f - 1, by omega⟩
    obtain ⟨f', rfl⟩ : ∃ g, f' = g + 2 := ⟨f' - 2, by omega⟩
    have hn := hL.1
    have hR := hL.2.2.2.2.2.2.2.2.1
    obtain ⟨o4, p1, p2⟩ := lays_eq mf mi mo mw mn hL.1 hL.2.1.2 hL.2.2.2.1.1 hL.2.2.2.2.2.2.1 hL.2.2.2.2.2.2.2.1 hR
    have hqC := quietC_eq w hL.1.2 hL.2.1.1
    have hqM := quietM_eq w N o4.2.2.2.2 hL.1.2 hL.2.1.2 (fun i hi => (p2 i hi).2.2.2.2)
    have hpC : f_X1_packed w = some (lN (pkN w n 0 0)) := packed_eq w hL.1.2 hL.2.1.1 hR n 0 1000 0 (by omega) (by omega) (by decide)
    have hpM : f_X8_codeOf N = some (lN (pkN w n 0 0)) := codeOf_eq w N hL.1.2 hL.2.1.2 hL.2.2.2.2.2.2.1 hR n 0 1000 0 (by omega) (by omega)
    obtain ⟨w2, o48, T2, t1, t2, t3⟩ := tick1_eq hL (by omega) o4.1 o4.2.1 o4.2.2.1 o4.2.2.2.1 o4.2.2.2.2 mk
    have hne : ¬ (300 : Int32) < nI k := nI_nlt (a := 300) (b := k) (by omega) (by decide)
    generalize lN (pkN w n 0 0) = co at *
    show ∃ o o', b_X0_follow_34 (-4) (-4) (-4) (-4) (zloop (b_X0_follow_34 (-4) (-4) (-4) (-4)) f) (nI k, sn, sb, w) = some o ∧ b_X8_settles_52 mz (zloop (b_X8_settles_52 mz) (f' + 1)) (nI k, -4, -4, -4, -4, N, mf, mi, mo, mw, mn, mk, mt, mq) = some o' ∧ _
    rw [s52_in mz _ (show k ≤ 300 by omega) N mf mi mo mw mn mk mt mq p1 hqM hpM]
    generalize hss : (nI k, (-4 : Int32), (-4 : Int32), (-4 : Int32), (-4 : Int32), N, mf, mi, mo, mw, mn, mk, mt, mq) = s
    have hs1 : s.1 = nI k := by rw [← hss]
    by_cases hq : qF w n 0 = 0
    · rw [hq] at hqC
      rw [if_pos hq]
      have e117 : zloop (b_X8_settles_117 (zloop (b_X8_settles_52 mz) (f' + 1)) s N mk o4.1 o4.2.1 o4.2.2.1 o4.2.2.2.1 o4.2.2.2.2 (-4) (vp_updL mt k co) (upd mq k (N 3))) 1000 (0, -4, -4, -4) = _ := in117_eq (zloop (b_X8_settles_52 mz) (f' + 1)) s N mk o4.1 o4.2.1 o4.2.2.1 o4.2.2.2.1 o4.2.2.2.2 (vp_updL mt k co) (upd mq k (N 3)) (show k ≤ 300 by omega) hs1 k 0 1000 (-4) (-4) (by omega) (by omega)
      rw [e117]
      have hsn : ∀ m, m ≤ k → vp_updL sn k co m = vp_updL mt k co m := fun m hmk => by
        by_cases e : m = k
        · subst e; rw [pk_uLs, pk_uLs]
        · rw [pk_uLn e, pk_uLn e]; exact (hm m (by omega)).1
      have h83 : w 8 0 = N 3 := hL.2.2.1.2.2.2.2.1.trans hL.2.2.1.2.2.2.2.2.symm
      have hsb : ∀ m, m ≤ k → upd sb k (w 8 0) m = upd mq k (N 3) m := fun m hmk => by
        by_cases e : m = k
        · subst e; rw [upd_s, upd_s]; exact h83
        · rw [upd_o e, upd_o e]; exact (hm m (by omega)).2
      have hfl := flF_eqv hsn k 0 (by omega)
      have hfc : f_X0_firstLike (vp_updL sn k co) (nI k) = some (nI (flF (vp_updL mt k co) k k 0)) := by
        rw [← hfl]
        exact firstLike_eq (vp_updL sn k co) (by omega) k 0 1000 (by omega) (by omega)
      have hle := flF_le (vp_updL mt k co) k k 0 (by omega)
      generalize flF (vp_updL mt k co) k k 0 = fl at *
      have hC : b_X0_follow_34 (-4) (-4) (-4) (-4) (zloop (b_X0_follow_34 (-4) (-4) (-4) (-4)) f) (nI k, sn, sb, w) = if nI k ≤ nI fl then zloop (b_X0_follow_34 (-4) (-4) (-4) (-4)) f (nI (k + 1), vp_updL sn k co, upd sb k (w 8 0), w2) else some (vp_updL sn k co, upd sb k (w 8 0), -4, nI fl, nI k - nI fl, upd sb k (w 8 0) k - upd sb k (w 8 0) fl, w) := by
        generalize zloop (b_X0_follow_34 (-4) (-4) (-4) (-4)) f = rc
        unfold b_X0_follow_34 j_X0_follow_97
        dsimp only
        rw [if_neg hne, hqC, zbd_s, if_pos rfl, hpC, zbd_s, zin_n (i := k) (n := 301) (by omega) (by decide), zg_t, zn_n (i := k) (by omega), zlet_d, zg_t, zlet_d, hfc, zbd_s, t1, zbd_s, zin_n (i := fl) (n := 301) (by omega) (by decide), zn_n (i := fl) (by omega), nI_1]
        simp only [zg_t, zlet_d]
      rw [hC]
      by_cases hf1 : fl < k
      · rw [if_neg (nI_ge hf1 (by omega)), if_pos hf1, j191_eq _ s hs1 N mk _ _ _ _ _ _ _ _ _ _ _ t2]
        obtain ⟨o', q1, ⟨q2, q3, q4, q5⟩, q6⟩ := rest201_eq mz (-4) (nI fl) (nI k - nI fl) (upd mq k (N 3) k - upd mq k (N 3) fl) o48.1 o48.2.1 o48.2.2.1 o48.2.2.2.1 o48.2.2.2.2.1 o48.2.2.2.2.2.1 o48.2.2.2.2.2.2 (vp_updL mt k co) (upd mq k (N 3))
        refine ⟨_, o', rfl, ?_, ⟨q2.symm, q3.symm, q4.symm, ?_⟩, q6⟩
        · show b_X8_settles_52 mz (zloop (b_X8_settles_52 mz) f') _ = _
          rw [s52_out mz _ _ _ _ _ _ _ _ _ _ _ _ _ _ _ (Or.inr (Or.inr (nI_nm4 (show fl < 2 ^ 31 by omega))))]
          exact q1
        · rw [q5]
          show upd sb k (w 8 0) k - upd sb k (w 8 0) fl = _
          rw [hsb k (Nat.le_refl k), hsb fl hle]
      · obtain rfl : fl = k := by omega
        rw [if_pos (Int32.le_refl _), if_neg hf1, j191_eq _ s hs1 N mk _ _ _ _ _ _ _ _ _ _ _ t2]
        exact ih (fl + 1) f (f' + 1) T2 (vp_updL sn fl co) (upd sb fl (w 8 0)) w2 o48.1 o48.2.1 o48.2.2.1 o48.2.2.2.1 o48.2.2.2.2.1 o48.2.2.2.2.2.1 o48.2.2.2.2.2.2 (vp_updL mt fl co) (upd mq fl (N 3)) (by omega) (by omega) (by omega) t3 (fun m hmk => ⟨hsn m (by omega), hsb m (by omega)⟩)
    · rw [if_neg hq]
      have hC : b_X0_follow_34 (-4) (-4) (-4) (-4) (zloop (b_X0_follow_34 (-4) (-4) (-4) (-4)) f) (nI k, sn, sb, w) = some (sn, sb, nI k, -4, -4, -4, w) := by
        generalize zloop (b_X0_follow_34 (-4) (-4) (-4) (-4)) f = rc
        unfold b_X0_follow_34 j_X0_follow_51
        dsimp only
        rw [if_neg hne, hqC, zbd_s, if_neg hq, zlet_d]
      rw [hC]
      have hM : zloop (b_X8_settles_117 (zloop (b_X8_settles_52 mz) (f' + 1)) s N mk o4.1 o4.2.1 o4.2.2.1 o4.2.2.2.1 o4.2.2.2.2 (nI k) (vp_updL mt k co) (upd mq k (N 3))) 1000 (0, -4, -4, -4) = j_X8_settles_191 (zloop (b_X8_settles_52 mz) (f' + 1)) s N mk o4.1 o4.2.1 o4.2.2.1 o4.2.2.2.1 o4.2.2.2.2 (nI k) (vp_updL mt k co) (upd mq k (N 3)) (-4) (-4) (-4) := by
        show b_X8_settles_117 (zloop (b_X8_settles_52 mz) (f' + 1)) s N mk o4.1 o4.2.1 o4.2.2.1 o4.2.2.2.1 o4.2.2.2.2 (nI k) (vp_updL mt k co) (upd mq k (N 3)) (zloop (b_X8_settles_117 (zloop (b_X8_settles_52 mz) (f' + 1)) s N mk o4.1 o4.2.1 o4.2.2.1 o4.2.2.2.1 o4.2.2.2.2 (nI k) (vp_updL mt k co) (upd mq k (N 3))) 999) (0, -4, -4, -4) = _
        unfold b_X8_settles_117
        dsimp only
        by_cases e2 : s.1 ≤ 0
        · rw [if_pos e2]
        · rw [if_neg e2, if_neg (nI_nm4 (by omega))]
      rw [hM, j191_eq _ s hs1 N mk _ _ _ _ _ _ _ _ _ _ _ t2]
      obtain ⟨o', q1, ⟨q2, q3, q4, q5⟩, q6⟩ := rest201_eq mz (nI k) (-4) (-4) (-4) o48.1 o48.2.1 o48.2.2.1 o48.2.2.2.1 o48.2.2.2.2.1 o48.2.2.2.2.2.1 o48.2.2.2.2.2.2 (vp_updL mt k co) (upd mq k (N 3))
      refine ⟨_, o', rfl, ?_, ⟨q2.symm, q3.symm, q4.symm, q5.symm⟩, q6⟩
      show b_X8_settles_52 mz (zloop (b_X8_settles_52 mz) f') _ = _
      rw [s52_out mz _ _ _ _ _ _ _ _ _ _ _ _ _ _ _ (Or.inr (Or.inl (nI_nm4 (show k < 2 ^ 31 by omega))))]
      exact q1
theorem st_settle {tl : Nat → Int32} {tn pn pz : Int32} {pl : Nat → R2} {v u : R2} {m1 m2 : Int32} {mb ms mp : Nat → Int32} (h : RR tl tn pn pz pl v u m1 m2 mb ms mp) (sn : Nat → Int64) (sb : Nat → Int32) (c0 c1 c2 c3 : Int32) (tv : R2) (m5 m6 m7 m8 : Int32) (mf mi mo mw mn mk : Nat → Int32) (mt : Nat → Int64) (mq mz : Nat → Int32) (x : Int32) : ∃ o o', f_X7_settle sn sb c0 c1 c2 c3 tv v x = some o ∧ f_X8_settle m5 m6 m7 m8 ms mf mi mo mw mn mk mt mq mz x = some o' ∧ o.1 = o'.1 ∧ RR tl tn pn pz pl v u m1 m2 mb o'.2.2.2.2.2.2.1 mp := by
  obtain ⟨h1, ⟨n, t, T, ht, hL⟩, h3, h4⟩ := id h
  unfold f_X7_settle f_X8_settle f_X8_in
  simp only [zlet_d]
  by_cases c1 : x < 0
  · rw [if_pos c1, if_pos c1, zbd_s, if_pos rfl]
    exact ⟨_, _, rfl, rfl, rfl, h⟩
  · rw [if_neg c1, if_neg c1]
    by_cases c2 : x ≤ 3
    · have c3 : ¬ (3 : Int32) < x := Int32.not_lt.mpr c2
      rw [if_pos c2, if_neg c3, zbd_s, if_neg ne10]
      obtain ⟨w, b1, b2⟩ := copy_eq tv v hL.2.2.2.2.2.2.2.2.2
      obtain ⟨⟨x', mz'⟩, g, ⟨d1, d2⟩, he⟩ := zloop_run (b_X8_settles_26 ms mf mi mo mw mn mk mt mq (-4) (-4) (-4) (-4)) 114 (fun i s => s.1 = nI i ∧ ∀ j, j < i → s.2 j = ms j) (by
        rintro i ⟨y, z⟩ hi ⟨g1, g2⟩
        dsimp only at g1 g2
        subst g1
        refine ⟨(nI (i + 1), upd z i (ms i)), ⟨rfl, fun j hj => ?_⟩, fun rc => ?_⟩
        · show upd z i _ j = ms j
          by_cases e : j = i
          · subst e; rw [upd_s]
          · rw [upd_o e]; exact g2 j (by omega)
        · unfold b_X8_settles_26
          dsimp only
          have hne : ¬ (114 : Int32) ≤ nI i := nI_ge (b := 114) hi (by decide)
          rw [if_neg hne, zin_n (i := i) (n := 114) hi (by decide), zg_t, zg_t, zn_n (i := i) (by omega), zlet_d, zlet_d, nI_1]) 114 0 1000 (0, mz) (by omega) (by omega) ⟨nI_0.symm, fun j hj => absurd hj (by omega)⟩
      dsimp only at d1 d2
      have hSM : f_X8_settles ms mf mi mo mw mn mk mt mq mz = zloop (b_X8_settles_52 mz') 1000 (0, -4, -4, -4, -4, ms, mf, mi, mo, mw, mn, mk, mt, mq) := by
        unfold f_X8_settles
        simp only [zlet_d]
        rw [he]
        unfold b_X8_settles_26 j_X8_settles_50
        dsimp only
        rw [d1, if_pos (by decide)]
      have hSC : f_X0_follow sn sb tv v = zloop (b_X0_follow_34 (-4) (-4) (-4) (-4)) 1000 (0, sn, sb, w) := by
        unfold f_X0_follow
        rw [b1, zbd_s]
        simp only [zlet_d]
      obtain ⟨o, o', e1, e2, ⟨e3, e4, e5, e6⟩, e7⟩ := settle_go ht mz' 301 0 1000 1000 T sn sb w ms mf mi mo mw mn mk mt mq (by omega) (by omega) (by omega) (LR_v b2 hL) (fun m hm => absurd hm (by omega))
      have e1' : f_X0_follow sn sb tv v = some o := hSC.trans e1
      have e2' : f_X8_settles ms mf mi mo mw mn mk mt mq mz = some o' := hSM.trans e2
      rw [e1', e2', zbd_s, zbd_s]
      have hN : RR tl tn pn pz pl v u m1 m2 mb o'.2.2.2.2.1 mp := ⟨h1, ⟨n, t, T, ht, LR_M (fun j hj => (e7 j hj).trans (d2 j hj)) hL⟩, h3, h4⟩
      by_cases k0 : x = 0
      · rw [if_pos k0, if_pos k0]; exact ⟨_, _, rfl, rfl, e3, hN⟩
      · rw [if_neg k0, if_neg k0]
        by_cases k1 : x = 1
        · rw [if_pos k1, if_pos k1]; exact ⟨_, _, rfl, rfl, e4, hN⟩
        · rw [if_neg k1, if_neg k1]
          by_cases k2 : x = 2
          · rw [if_pos k2, if_pos k2]; exact ⟨_, _, rfl, rfl, e5, hN⟩
          · rw [if_neg k2, if_neg k2]; exact ⟨_, _, rfl, rfl, e6, hN⟩
    · have c3 : (3 : Int32) < x := Int32.not_le.mp c2
      rw [if_neg c2, if_pos c3, zbd_s, if_pos rfl]
      exact ⟨_, _, rfl, rfl, rfl, h⟩
