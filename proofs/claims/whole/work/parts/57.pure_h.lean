/-! ===== pure: stick, tell ===== -/
theorem CR_same {n : Nat} {v w : R2} (h : ∀ i, i < n → w i 0 = v i 0 ∧ w i 5 = v i 5 ∧ w i 6 = v i 6 ∧ w i 7 = v i 7 ∧ w i 12 = v i 12 ∧ w i 13 = v i 13 ∧ w i 14 = v i 14) (h9 : w 9 1 = v 9 1) (hC : CR n v) : CR n w := by
  obtain ⟨c1, c2, c3, c4⟩ := hC
  refine ⟨fun i hi => ?_, fun hz => ?_, fun i hi => ?_, fun i hi => ?_⟩
  · obtain ⟨-, a5, -, -, a12, -, -⟩ := h i hi
    rw [a12, a5, c1 i hi]
    by_cases hn : i + 1 < n
    · rw [if_pos hn, if_pos hn, (h (i + 1) hn).2.2.2.2.1]
    · rw [if_neg hn, if_neg hn]
  · rw [(h 0 hz).2.2.2.2.2.1, h9]
    exact c2 hz
  · obtain ⟨a0, -, -, a7, -, a13, a14⟩ := h i hi
    rw [a14, a13, a7, a0]
    exact c3 i hi
  · obtain ⟨-, -, a6, -, -, -, a14⟩ := h i (by omega)
    obtain ⟨-, -, -, -, b12, b13, -⟩ := h (i + 1) hi
    rw [b13, a14, a6, b12]
    exact c4 i hi
theorem stick_LR {n t T : Nat} {v : R2} {M : Nat → Int32} {x : Int32} {i : Nat} (h : LR n t T v M) (hi : i < n) (hx : x = 0 ∨ x = 1) : LR n t T (z2 v i 11 x) (upd M (6 + 12 * i + 8) x) := by
  have hR : RG n (z2 v i 11 x) := fun j hj => by
    have e : ∀ c, c ≠ 11 → z2 v i 11 x j c = v j c := fun c hc => by rw [z2_e, if_neg (fun q => hc q.2)]
    rw [e 0 (by decide), e 1 (by decide), e 2 (by decide), e 3 (by decide), e 4 (by decide), e 5 (by decide), e 6 (by decide), e 7 (by decide), e 8 (by decide), e 9 (by decide), e 10 (by decide)]
    exact (LR_LQ h).2.2.2.2.2.2.2.1 j hj
  have hB : SB (z2 v i 11 x) := fun j hj => by
    by_cases hji : j = i
    · subst hji; rw [z2_s]; exact hx
    · rw [z2_r hji]; exact (LR_LQ h).2.2.2.2.2.2.2.2 j hj
  have hQ : LQ n t T (z2 v i 11 x) (upd M (6 + 12 * i + 8) x) := LQ_st (k := 11) (LR_LQ h) hi (by decide) hR hB
  refine LQ_LR hQ (CR_same (v := v) (fun j hj => ?_) (z2_r (by have := h.1; omega)) h.2.2.2.2.2.2.2.1) (fun _ _ _ => rfl)
  have e : ∀ c, c ≠ 11 → z2 v i 11 x j c = v j c := fun c hc => by rw [z2_e, if_neg (fun q => hc q.2)]
  exact ⟨e 0 (by decide), e 5 (by decide), e 6 (by decide), e 7 (by decide), e 12 (by decide), e 13 (by decide), e 14 (by decide)⟩
theorem st_stick {tl : Nat → Int32} {tn pn pz : Int32} {pl : Nat → R2} {v u : R2} {m1 m2 : Int32} {mb ms mp : Nat → Int32} (h : RR tl tn pn pz pl v u m1 m2 mb ms mp) (x y : Int32) : ∃ o o', f_X7_stick pn pz pl v x y = some o ∧ f_X8_stick m2 ms mp x y = some o' ∧ o.1 = o'.1 ∧ RR tl tn o.2.1 o.2.2.1 o.2.2.2.1 o.2.2.2.2 u m1 o'.2.2.1 mb o'.2.2.2.1 o'.2.2.2.2 := by
  obtain ⟨h1, ⟨n, t, T, ht, hL⟩, ⟨P, q, hP⟩, h4⟩ := id h
  unfold f_X7_stick f_X8_stick
  simp only [zlet_d]
  rcases has_eq v hL.1.2 hL.2.1.1 x with ⟨i, hi, rfl, e⟩ | ⟨hx, e⟩
  · rw [e, isStage_yes ms hL.1.2 hL.2.1.2 hi, zbd_s, zbd_s, if_neg ne10, if_neg ne10]
    have i4 : i < 4 := by have := hL.1; omega
    unfold f_X8_in
    by_cases c1 : y < 0
    · rw [if_pos c1, if_pos c1, zbd_s, if_pos rfl]
      exact ⟨_, _, rfl, rfl, rfl, h⟩
    · rw [if_neg c1, if_neg c1]
      by_cases c2 : y ≤ 1
      · have c3 : ¬ (1 : Int32) < y := Int32.not_lt.mpr c2
        rw [if_pos c2, if_neg c3, zbd_s, if_neg ne10]
        obtain ⟨j, hj, rfl⟩ := nI_of2 (M := 1) (n := 1) (by decide) c1 c2
        have hy : nI j = 0 ∨ nI j = 1 := by
          rcases Nat.eq_zero_or_pos j with q | q
          · subst q; exact Or.inl rfl
          · have : j = 1 := by omega
            subst this; exact Or.inr rfl
        have key : (if nI j = (1 : Int32) then j_X7_stick_32 pn pz pl v (nI i) 1 else j_X7_stick_32 pn pz pl v (nI i) 0) = j_X7_stick_32 pn pz pl v (nI i) (nI j) := by
          rcases hy with q | q <;> rw [q] <;> rfl
        rw [key]
        unfold j_X7_stick_32
        have f8 : ms (6 + 12 * i + 8) = v i 11 := (hL.2.2.2.2.2.2.1 i hi 11 (by decide)).symm
        have hb : zbo (nI j) = true := decide_eq_true hy
        rw [z4 i4, zg_t, n4 i4, of_8 ms i4, zbd_s, f8]
        by_cases c4 : v i 11 = nI j
        · rw [if_pos c4, if_pos c4]
          exact ⟨_, _, rfl, rfl, rfl, h⟩
        · rw [if_neg c4, if_neg c4]
          obtain ⟨o, o', e1, e2, e3⟩ := keep_eq hL ht hP
          have hN := stick_LR hL hi hy
          rw [e1, e2, zbd_s, zbd_s, zg_t, hb, zg_t, zlet_d, puts_8 ms i4, zbd_s, stuckC_eq _ hN.1.2 hN.2.1.1 hN.2.2.2.2.2.2.2.2.2, zbd_s, stuckM_eq (z2 v i 11 (nI j)) _ hN.1.2 hN.2.1.2 hN.2.2.2.2.2.2.1, zbd_s]
          exact ⟨_, _, rfl, rfl, rfl, h1, ⟨n, t, T, ht, hN⟩, ⟨_, _, e3⟩, h4⟩
      · have c3 : (1 : Int32) < y := Int32.not_le.mp c2
        rw [if_neg c2, if_pos c3, zbd_s, if_pos rfl]
        exact ⟨_, _, rfl, rfl, rfl, h⟩
  · rw [e, isStage_no ms hL.1 hL.2.1.2 hx, zbd_s, zbd_s, if_pos rfl, if_pos rfl]
    exact ⟨_, _, rfl, rfl, rfl, h⟩
