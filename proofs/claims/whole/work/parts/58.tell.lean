/-! ===== pure: numbers in their ranges; tell ===== -/
theorem bm32 {z : Int} (h1 : -2000000000 ≤ z) (h2 : z ≤ 2000000000) : z.bmod (2 ^ 32) = z := Int.bmod_eq_of_le_mul_two (by show -((4294967296 : Nat) : Int) ≤ z * 2; omega) (by show z * 2 < ((4294967296 : Nat) : Int); omega)
theorem tI_add {x y : Int32} (h1 : -2000000000 ≤ x.toInt + y.toInt) (h2 : x.toInt + y.toInt ≤ 2000000000) : (x + y).toInt = x.toInt + y.toInt := by
  rw [Int32.toInt_add]; exact bm32 h1 h2
theorem tI_sub {x y : Int32} (h1 : -2000000000 ≤ x.toInt - y.toInt) (h2 : x.toInt - y.toInt ≤ 2000000000) : (x - y).toInt = x.toInt - y.toInt := by
  rw [Int32.toInt_sub]; exact bm32 h1 h2
theorem tI_mul {x y : Int32} (h1 : -2000000000 ≤ x.toInt * y.toInt) (h2 : x.toInt * y.toInt ≤ 2000000000) : (x * y).toInt = x.toInt * y.toInt := by
  rw [Int32.toInt_mul]; exact bm32 h1 h2
theorem inI_of {x a b : Int32} {p q : Int} (ha : a.toInt = p) (hb : b.toInt = q) (h1 : ¬ x < a) (h2 : ¬ b < x) : inI x p q := ⟨ha ▸ Int32.le_iff_toInt_le.mp (Int32.not_lt.mp h1), hb ▸ Int32.le_iff_toInt_le.mp (Int32.not_lt.mp h2)⟩
/-- the ranges of one stage -/
def RGr (g : Nat → Int32) : Prop := inI (g 0) 1 50 ∧ inI (g 1) 800 1200 ∧ inI (g 2) 1 99 ∧ inI (g 3) 1 9 ∧ inI (g 4) 0 2 ∧ inI (g 5) (-50) 50 ∧ inI (g 6) 0 9 ∧ inI (g 7) (-5) 5 ∧ inI (g 8) 0 9 ∧ inI (g 9) 0 2 ∧ inI (g 10) 0 2
theorem RG_st {n : Nat} {v w : R2} {i : Nat} (h : RG n v) (ho : ∀ j, j ≠ i → w j = v j) (hi : i < n → RGr (w i)) : RG n w := fun j hj => by
  by_cases e : j = i
  · subst e; exact hi hj
  · rw [ho j e]; exact h j hj
theorem z2_row {v : R2} {i k : Nat} {x : Int32} : ∀ j, j ≠ i → z2 v i k x j = v j := fun j hj => funext fun _ => z2_r hj
theorem SB_z2 {v : R2} {i k : Nat} {x : Int32} (h : SB v) (hk : k ≠ 11) : SB (z2 v i k x) := fun j hj => by
  rw [z2_e, if_neg (fun q => hk q.2.symm)]; exact h j hj
theorem RG_5 {n : Nat} {v : R2} {i : Nat} {x : Int32} (h : RG n v) (hx : inI x (-50) 50) : RG n (z2 v i 5 x) := RG_st h z2_row fun hi => by
  have e : ∀ c, c ≠ 5 → z2 v i 5 x i c = v i c := fun c hc => z2_c hc
  unfold RGr
  rw [e 0 (by decide), e 1 (by decide), e 2 (by decide), e 3 (by decide), e 4 (by decide), z2_s, e 6 (by decide), e 7 (by decide), e 8 (by decide), e 9 (by decide), e 10 (by decide)]
  obtain ⟨a0, a1, a2, a3, a4, a5, a6, a7, a8, a9, a10⟩ := h i hi
  exact ⟨a0, a1, a2, a3, a4, hx, a6, a7, a8, a9, a10⟩
theorem RG_7 {n : Nat} {v : R2} {i : Nat} {x : Int32} (h : RG n v) (hx : inI x (-5) 5) : RG n (z2 v i 7 x) := RG_st h z2_row fun hi => by
  have e : ∀ c, c ≠ 7 → z2 v i 7 x i c = v i c := fun c hc => z2_c hc
  unfold RGr
  rw [e 0 (by decide), e 1 (by decide), e 2 (by decide), e 3 (by decide), e 4 (by decide), e 5 (by decide), e 6 (by decide), z2_s, e 8 (by decide), e 9 (by decide), e 10 (by decide)]
  obtain ⟨a0, a1, a2, a3, a4, a5, a6, a7, a8, a9, a10⟩ := h i hi
  exact ⟨a0, a1, a2, a3, a4, a5, a6, hx, a8, a9, a10⟩
theorem RG_3 {n : Nat} {v : R2} {i : Nat} {x : Int32} (h : RG n v) (hx : inI x 1 9) : RG n (z2 v i 3 x) := RG_st h z2_row fun hi => by
  have e : ∀ c, c ≠ 3 → z2 v i 3 x i c = v i c := fun c hc => z2_c hc
  unfold RGr
  rw [e 0 (by decide), e 1 (by decide), e 2 (by decide), z2_s, e 4 (by decide), e 5 (by decide), e 6 (by decide), e 7 (by decide), e 8 (by decide), e 9 (by decide), e 10 (by decide)]
  obtain ⟨a0, a1, a2, a3, a4, a5, a6, a7, a8, a9, a10⟩ := h i hi
  exact ⟨a0, a1, a2, hx, a4, a5, a6, a7, a8, a9, a10⟩
theorem tell_fin {tl : Nat → Int32} {tn pn pz : Int32} {pl : Nat → R2} {v u : R2} {m1 m2 : Int32} {mb ms mp : Nat → Int32} (h : RR tl tn pn pz pl v u m1 m2 mb ms mp) {n t T P q : Nat} (ht : t ≤ 9999) (hL : LR n t T v ms) (hP : RP P q pn pz pl m2 mp) {i k : Nat} (hi : i < n) (hk : k < 8) (hk2 : k < 12) (zero lo hi' z : Int32) (X : Option (Int32 × Int32 × Int32 × (Nat → R2) × R2)) (Y : Option (Int32 × Int32 × Int32 × (Nat → Int32) × (Nat → Int32)))
    (hX : X = if z < lo then some ((-1), pn, pz, pl, v) else if hi' < z then some ((-1), pn, pz, pl, v) else if v i k + zero = z then some ((-2), pn, pz, pl, v) else zbd (f_X2_keep pn pz pl v) fun o5 => zbd (f_X1_reckon (z2 v i k (z - zero))) fun o8 => some (v i k + zero, o5.1, o5.2.1, o5.2.2, o8))
    (hY : Y = if z < lo then some ((-1), 0, m2, ms, mp) else if hi' < z then some ((-1), 0, m2, ms, mp) else if ms (6 + 12 * i + k) + zero = z then some ((-2), 0, m2, ms, mp) else zbd (f_X8_notes m2 ms mp) fun o8 => some (ms (6 + 12 * i + k) + zero, 0, o8.1, upd ms (6 + 12 * i + k) (z - zero), o8.2))
    (hR : ¬ z < lo → ¬ hi' < z → RG n (z2 v i k (z - zero))) : ∃ o o', X = some o ∧ Y = some o' ∧ o.1 = o'.1 ∧ RR tl tn o.2.1 o.2.2.1 o.2.2.2.1 o.2.2.2.2 u m1 o'.2.2.1 mb o'.2.2.2.1 o'.2.2.2.2 := by
  have hp : pm k = k := by unfold pm; rw [if_pos hk]
  have hf : v i k = ms (6 + 12 * i + k) := by
    have := hL.2.2.2.2.2.2.1 i hi k hk2
    rw [hp] at this
    exact this
  rw [hX, hY]
  by_cases c1 : z < lo
  · rw [if_pos c1, if_pos c1]; exact ⟨_, _, rfl, rfl, rfl, h⟩
  · rw [if_neg c1, if_neg c1]
    by_cases c2 : hi' < z
    · rw [if_pos c2, if_pos c2]; exact ⟨_, _, rfl, rfl, rfl, h⟩
    · rw [if_neg c2, if_neg c2, ← hf]
      by_cases c3 : v i k + zero = z
      · rw [if_pos c3, if_pos c3]; exact ⟨_, _, rfl, rfl, rfl, h⟩
      · rw [if_neg c3, if_neg c3]
        obtain ⟨o, o', e1, e2, e3⟩ := keep_eq hL ht hP
        have hQ := LQ_st (k := k) (LR_LQ hL) hi hk2 (hR c1 c2) (SB_z2 hL.2.2.2.2.2.2.2.2.2 (by omega))
        rw [hp] at hQ
        obtain ⟨w, w1, w2⟩ := reckon_LR hQ
        rw [e1, e2, zbd_s, zbd_s, w1, zbd_s]
        exact ⟨_, _, rfl, rfl, rfl, h.1, ⟨n, t, T, ht, w2⟩, ⟨_, _, e3⟩, h.2.2.2⟩
theorem st_tell {tl : Nat → Int32} {tn pn pz : Int32} {pl : Nat → R2} {v u : R2} {m1 m2 : Int32} {mb ms mp : Nat → Int32} (h : RR tl tn pn pz pl v u m1 m2 mb ms mp) (x y z : Int32) : ∃ o o', f_X7_tell pn pz pl v x y z = some o ∧ f_X8_tell m2 ms mp x y z = some o' ∧ o.1 = o'.1 ∧ RR tl tn o.2.1 o.2.2.1 o.2.2.2.1 o.2.2.2.2 u m1 o'.2.2.1 mb o'.2.2.2.1 o'.2.2.2.2 := by
  obtain ⟨h1, ⟨n, t, T, ht, hL⟩, ⟨P, q, hP⟩, h4⟩ := id h
  rcases has_eq v hL.1.2 hL.2.1.1 x with ⟨i, hi, rfl, e⟩ | ⟨hx, e⟩
  · have i4 : i < 4 := by have := hL.1; omega
    have hs := isStage_yes ms hL.1.2 hL.2.1.2 hi
    have hR0 := (LR_LQ hL).2.2.2.2.2.2.2.1
    by_cases y0 : y = 0
    · subst y0
      refine tell_fin h ht hL hP hi (k := 5) (by decide) (by decide) 1000 950 1050 z _ _ ?_ ?_ (fun c1 c2 => RG_5 hR0 ?_)
      · unfold f_X7_tell f_X7_mayBeTold f_X4_valueToTell f_X4_takeTold
        rw [e, zbd_s, if_neg ne10, if_pos rfl]
        by_cases c1 : z < 950
        · rw [if_pos c1, if_pos c1, zbd_s, if_pos rfl]
        · rw [if_neg c1, if_neg c1]
          by_cases c2 : 1050 < z
          · rw [if_pos c2, if_pos c2, zbd_s, if_pos rfl]
          · rw [if_neg c2, if_neg c2, zbd_s, if_neg ne10, z4 i4, zg_t, n4 i4, if_pos rfl, if_pos rfl, zbd_s]
            rfl
      · unfold f_X8_tell
        rw [hs, zlet_d, zbd_s, if_neg ne10, show f_X8_in 0 0 2 = some 1 from rfl, zbd_s, if_neg ne10, if_neg (by decide)]
        unfold j_X8_tell_36 j_X8_tell_57 f_X8_in j_X8_tell_101
        rw [if_pos rfl, if_pos rfl, of_5 ms i4, puts_5 ms i4]
        by_cases c1 : z < 950
        · rw [if_pos c1, if_pos c1, zbd_s, if_pos rfl]
        · rw [if_neg c1, if_neg c1]
          by_cases c2 : 1050 < z
          · rw [if_pos c2, if_pos c2, zbd_s, if_pos rfl]
          · rw [if_neg c2, if_neg c2, zbd_s, if_neg ne10, zbd_s]
            rfl
      · have hz := inI_of (x := z) (a := 950) (b := 1050) (p := 950) (q := 1050) (by decide) (by decide) c1 c2
        have hk : (1000 : Int32).toInt = 1000 := by decide
        have := tI_sub (x := z) (y := 1000) (by rw [hk]; have := hz.1; omega) (by rw [hk]; have := hz.2; omega)
        rw [hk] at this
        unfold inI at hz ⊢
        omega
    · by_cases y1 : y = 1
      · subst y1
        refine tell_fin h ht hL hP hi (k := 7) (by decide) (by decide) 1000 995 1005 z _ _ ?_ ?_ (fun c1 c2 => RG_7 hR0 ?_)
        · unfold f_X7_tell f_X7_mayBeTold f_X4_valueToTell f_X4_takeTold
          rw [e, zbd_s, if_neg ne10, if_neg ne10, if_pos rfl]
          by_cases c1 : z < 995
          · rw [if_pos c1, if_pos c1, zbd_s, if_pos rfl]
          · rw [if_neg c1, if_neg c1]
            by_cases c2 : 1005 < z
            · rw [if_pos c2, if_pos c2, zbd_s, if_pos rfl]
            · rw [if_neg c2, if_neg c2, zbd_s, if_neg ne10, z4 i4, zg_t, n4 i4, if_neg ne10, if_pos rfl, if_neg ne10, if_pos rfl, zbd_s]
              rfl
        · unfold f_X8_tell
          rw [hs, zlet_d, zbd_s, if_neg ne10, show f_X8_in 1 0 2 = some 1 from rfl, zbd_s, if_neg ne10, if_neg (by decide)]
          unfold j_X8_tell_36 j_X8_tell_57 f_X8_in j_X8_tell_101
          rw [if_neg ne10, if_pos rfl, if_neg ne10, if_pos rfl, of_7 ms i4, puts_7 ms i4]
          by_cases c1 : z < 995
          · rw [if_pos c1, if_pos c1, zbd_s, if_pos rfl]
          · rw [if_neg c1, if_neg c1]
            by_cases c2 : 1005 < z
            · rw [if_pos c2, if_pos c2, zbd_s, if_pos rfl]
            · rw [if_neg c2, if_neg c2, zbd_s, if_neg ne10, zbd_s]
              rfl
        · have hz := inI_of (x := z) (a := 995) (b := 1005) (p := 995) (q := 1005) (by decide) (by decide) c1 c2
          have hk : (1000 : Int32).toInt = 1000 := by decide
          have := tI_sub (x := z) (y := 1000) (by rw [hk]; have := hz.1; omega) (by rw [hk]; have := hz.2; omega)
          rw [hk] at this
          unfold inI at hz ⊢
          omega
      · by_cases y2 : y = 2
        · subst y2
          refine tell_fin h ht hL hP hi (k := 3) (by decide) (by decide) 0 1 9 z _ _ ?_ ?_ (fun c1 c2 => RG_3 hR0 ?_)
          · unfold f_X7_tell f_X7_mayBeTold f_X4_valueToTell f_X4_takeTold
            rw [e, zbd_s, if_neg ne10, if_neg y0, if_neg y1, if_pos rfl, Int32.add_zero, Int32.sub_zero]
            by_cases c1 : z < 1
            · rw [if_pos c1, if_pos c1, zbd_s, if_pos rfl]
            · rw [if_neg c1, if_neg c1]
              by_cases c2 : 9 < z
              · rw [if_pos c2, if_pos c2, zbd_s, if_pos rfl]
              · rw [if_neg c2, if_neg c2, zbd_s, if_neg ne10, z4 i4, zg_t, n4 i4, if_neg y0, if_neg y1, if_neg y0, if_neg y1, zbd_s]
                rfl
          · unfold f_X8_tell
            rw [hs, zlet_d, zbd_s, if_neg ne10, show f_X8_in 2 0 2 = some 1 from rfl, zbd_s, if_neg ne10, if_pos (by decide)]
            unfold j_X8_tell_36 j_X8_tell_57 f_X8_in j_X8_tell_101
            rw [if_neg y0, if_neg y1, if_neg y0, if_neg y1, of_3 ms i4, puts_3 ms i4]
            by_cases c1 : z < 1
            · rw [if_pos c1, if_pos c1, zbd_s, if_pos rfl]
            · rw [if_neg c1, if_neg c1]
              by_cases c2 : 9 < z
              · rw [if_pos c2, if_pos c2, zbd_s, if_pos rfl]
              · rw [if_neg c2, if_neg c2, zbd_s, if_neg ne10, zbd_s]
                rfl
          · rw [Int32.sub_zero]
            exact inI_of (x := z) (a := 1) (b := 9) (p := 1) (q := 9) (by decide) (by decide) c1 c2
        · refine ⟨((-1), pn, pz, pl, v), ((-1), 0, m2, ms, mp), ?_, ?_, rfl, h⟩
          · unfold f_X7_tell f_X7_mayBeTold
            rw [e, zbd_s, if_neg ne10, if_neg y0, if_neg y1, if_neg y2, zbd_s, if_pos rfl]
          · unfold f_X8_tell f_X8_in
            rw [hs, zlet_d, zbd_s, if_neg ne10]
            by_cases c1 : y < 0
            · rw [if_pos c1, zbd_s, if_pos rfl]
            · rw [if_neg c1]
              by_cases c2 : 2 < y
              · rw [if_pos c2, zbd_s, if_pos rfl]
              · exfalso
                obtain ⟨j, hj, rfl⟩ := nI_of2 (M := 2) (n := 2) (by decide) c1 (Int32.not_lt.mp c2)
                match j, hj with
                | 0, _ => exact y0 rfl
                | 1, _ => exact y1 rfl
                | 2, _ => exact y2 rfl
                | j + 3, hj => omega
  · refine ⟨((-1), pn, pz, pl, v), ((-1), 0, m2, ms, mp), ?_, ?_, rfl, h⟩
    · unfold f_X7_tell
      rw [e, zbd_s, if_pos rfl]
    · unfold f_X8_tell
      rw [isStage_no ms hL.1 hL.2.1.2 hx, zlet_d, zbd_s, if_pos rfl]
