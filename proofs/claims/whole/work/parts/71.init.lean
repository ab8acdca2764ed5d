/-! ===== pure: the beginning ===== -/
def fT (j : Nat) : Int32 := if j < 89 then zFT.getD j 0 else 0
def iniB : Bool := match f_X6_readInto fT (fun _ => 0) (nI 89) (fun _ _ => 0), f_X8_init (fun _ => 0) with
  | some o, some m => decide (o.1 = -4) && decide (o.2.2.2 9 0 = nI 4) && decide (o.2.2.2 9 1 = m 1) && decide (m 0 = nI 4) && decide (m 2 = 0) && decide (m 3 = 0) && decide (m 4 = 0) && decide (m 5 = 0) && (List.range 4).all fun i => (List.range 12).all fun k => decide (o.2.2.2 i k = m (6 + 12 * i + pm k))
  | _, _ => false
theorem iniB_t : iniB = true := by decide +kernel
theorem ini_ok : ∃ o m, f_X6_readInto fT (fun _ => 0) (nI 89) (fun _ _ => 0) = some o ∧ f_X8_init (fun _ => 0) = some m ∧ o.1 = -4 ∧ o.2.2.2 9 0 = nI 4 ∧ o.2.2.2 9 1 = m 1 ∧ m 0 = nI 4 ∧ m 2 = 0 ∧ m 3 = 0 ∧ m 4 = 0 ∧ m 5 = 0 ∧ ∀ i, i < 4 → ∀ k, k < 12 → o.2.2.2 i k = m (6 + 12 * i + pm k) := by
  have h := iniB_t
  unfold iniB at h
  generalize f_X6_readInto fT (fun _ => 0) (nI 89) (fun _ _ => 0) = r at *
  generalize f_X8_init (fun _ => 0) = q at *
  match r, q, h with
  | some o, some m, h =>
    dsimp only at h
    rw [Bool.and_eq_true, Bool.and_eq_true, Bool.and_eq_true, Bool.and_eq_true, Bool.and_eq_true, Bool.and_eq_true, Bool.and_eq_true, Bool.and_eq_true, List.all_eq_true] at h
    obtain ⟨⟨⟨⟨⟨⟨⟨⟨h1, h2⟩, h3⟩, h4⟩, h5⟩, h6⟩, h7⟩, h8⟩, h9⟩ := h
    refine ⟨o, m, rfl, rfl, of_decide_eq_true h1, of_decide_eq_true h2, of_decide_eq_true h3, of_decide_eq_true h4, of_decide_eq_true h5, of_decide_eq_true h6, of_decide_eq_true h7, of_decide_eq_true h8, fun i hi k hk => ?_⟩
    have q := h9 i (List.mem_range.mpr hi)
    rw [List.all_eq_true] at q
    exact of_decide_eq_true (q k (List.mem_range.mpr hk))
  | some _, none, h => exact absurd (show false = true from h) (by decide)
  | none, _, h => exact absurd (show false = true from h) (by decide)
theorem fT_rng : ∀ k, k < 89 → fT k = nI (zn (fT k)) ∧ 32 ≤ zn (fT k) ∧ zn (fT k) ≤ 126 := by decide +kernel
theorem fT_char : ∀ k, k < 89 → f_J0_charAt_5068e (nI k) = some (fT k) := by decide +kernel
theorem ft_len : f_J0_length_8abf5 = some (nI 89) := by decide +kernel
theorem init_go : ∃ o7, f_X7_init (fun _ => 0) (fun _ => 0) 0 (fun _ _ => 0) (fun _ _ => 0) = some o7 ∧ ∃ o8, f_X8_init (fun _ => 0) = some o8 ∧ RR o7.1 o7.2.2.1 0 0 (fun _ _ _ => 0) o7.2.2.2.2.1 o7.2.2.2.2.2 0 0 (fun _ => 0) o8 (fun _ => 0) := by
  obtain ⟨o, m, r1, r2, r3, r4, r5, r6, r7, r8, r9, r10, r11⟩ := ini_ok
  have hX : RTx 89 fT (nI 89) (nI 89) fT := ⟨by decide, rfl, rfl, fun k hk => ⟨rfl, zn (fT k), (fT_rng k hk).2.1, (fT_rng k hk).2.2, (fT_rng k hk).1⟩⟩
  obtain ⟨o2, o', e1, -, -, e4, e5⟩ := read_eq hX (u := fun _ _ => 0) (fun _ _ => Or.inl rfl) (fun _ => 0) (fun _ => 0) 0
  obtain rfl : o = o2 := Option.some.inj (r1.symm.trans e1)
  obtain ⟨s, hD⟩ := e5 r3
  have hs : s = 4 := by
    have h0 := hD.1.2.1.1
    rw [r4] at h0
    exact ((nI_eq (a := 4) (b := s) (by decide) (by have := hD.1.1; omega)).mp h0).symm
  subst hs
  have hL : LR 4 0 0 o.2.2.2 m := by
    obtain ⟨⟨d1, ⟨d2, d3⟩, ⟨d4, d5⟩, ⟨d6, d7, d8⟩, d9, d10, d11, d12, d13⟩, hC⟩ := hD
    exact ⟨⟨by decide, by decide⟩, ⟨r4, r6⟩, ⟨by decide, by decide, d6, r7, d7, r8⟩, ⟨r5, d5⟩, d8.trans r9.symm, ⟨r10, fun q hq => absurd hq (by omega)⟩, r11, hC, d11, d12⟩
  obtain ⟨w, b1, b2⟩ := copy_eq (fun _ _ => 0) o.2.2.2 e4
  obtain ⟨⟨x', z, n'⟩, g, ⟨g1, g2, g3⟩, he⟩ := zloop_run (b_X7_init_72 (fun _ => 0) (fun _ _ => 0) (fun _ _ => 0)) 89 (fun i s => s.1 = nI i ∧ s.2.2 = nI i ∧ ∀ j, s.2.1 j = if j < i then fT j else 0) (by
    rintro i ⟨y, z, t⟩ hi ⟨g1, g2, g3⟩
    dsimp only at g1 g2 g3
    subst g1
    subst g2
    refine ⟨(nI (i + 1), upd z i (fT i), nI (i + 1)), ⟨rfl, rfl, fun j => ?_⟩, fun rc => ?_⟩
    · show upd z i (fT i) j = _
      by_cases e : j = i
      · subst e; rw [upd_s, if_pos (by omega)]
      · rw [upd_o e, g3 j]
        by_cases e2 : j < i
        · rw [if_pos e2, if_pos (by omega)]
        · rw [if_neg e2, if_neg (by omega)]
    · unfold b_X7_init_72 f_X6_append
      dsimp only
      have hlt : nI i < (200 : Int32) := nI_lt (b := 200) (by omega) (by decide)
      rw [ft_len, zbd_s, if_neg (nI_ge hi (by decide)), fT_char i hi, zbd_s, if_pos hlt, zin_n (i := i) (n := 200) (by omega) (by decide), zg_t, zn_n (i := i) (by omega), zlet_d, zlet_d, zbd_s, zlet_d, nI_1]) 89 0 1000 (0, (fun _ => 0), 0) (by omega) (by omega) ⟨nI_0.symm, nI_0.symm, fun j => (if_neg (by omega)).symm⟩
  dsimp only at g1 g2 g3
  have hz : z = fT := funext fun j => by
    rw [g3 j]
    unfold fT
    by_cases c : j < 89
    · rw [if_pos c, if_pos c]
    · rw [if_neg c, if_neg c]
  have hend : b_X7_init_72 (fun _ => 0) (fun _ _ => 0) (fun _ _ => 0) (zloop (b_X7_init_72 (fun _ => 0) (fun _ _ => 0) (fun _ _ => 0)) g) (x', z, n') = j_X7_init_101 (fun _ => 0) (fun _ _ => 0) (fun _ _ => 0) fT (nI 89) := by
    generalize zloop (b_X7_init_72 (fun _ => 0) (fun _ _ => 0) (fun _ _ => 0)) g = rc
    unfold b_X7_init_72
    dsimp only
    rw [ft_len, zbd_s, if_pos (show nI 89 ≤ x' by rw [g1]; exact Int32.le_refl _), hz, g2]
  refine ⟨(fT, o.2.1, 0, o.2.2.1, w, o.2.2.2), ?_, m, r2, ⟨0, by decide, nI_0.symm, nI_0.symm, fun k hk => absurd hk (by omega)⟩, ⟨4, 0, 0, by decide, LR_v b2 hL⟩, ⟨0, 0, by decide, by decide, nI_0.symm, nI_0.symm, nI_0.symm, fun k hk => absurd hk (by omega)⟩, e4⟩
  unfold f_X7_init
  rw [he, hend]
  unfold j_X7_init_101 j_X7_init_128
  rw [r1, zbd_s, zlet_d, zlet_d, zlet_d, zlet_d, if_pos r3, b1, zbd_s, zlet_d]
