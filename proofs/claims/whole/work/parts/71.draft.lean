/-! ===== pure: the beginning ===== -/
def fT (j : Nat) : Int32 := if j < 89 then zFT.getD j 0 else 0
def iniB : Bool := match f_X6_readInto fT (fun _ => 0) (nI 89) (fun _ _ => 0), f_X8_init (fun _ => 0) with
  | some o, some m => decide (o.1 = -4) && decide (o.2.2.2 9 0 = nI 4) && decide (o.2.2.2 9 1 = m 1) && decide (m 0 = nI 4) && decide (m 2 = 0) && decide (m 3 = 0) && decide (m 4 = 0) && decide (m 5 = 0) && (List.range 4).all fun i => (List.range 12).all fun k => decide (o.2.2.2 i k = m (6 + 12 * i + pm k))
  | _, _ => false
theorem iniB_t : iniB = true := by decide +kernel
theorem ini_ok : ∃ o m, f_X6_readInto fT (fun _ => 0) (nI 89) (fun _ _ => 0) = some o ∧ f_X8_init (fun _ => 0) = some m ∧ o.1 = -4 ∧ o.2.2.2 9 0 = nI 4 ∧ o.2.2.2 9 1 = m 1 ∧ m 0 = nI 4 ∧ m 2 = 0 ∧ m 3 = 0 ∧ m 4 = 0 ∧ m 5 = 0 ∧ ∀ i, i < 4 → ∀ k, k < 12 → o.2.2.2 i k = m (6 + 12 * i + pm k) := by
  have h := iniB_t
  unfold iniB at h
  generalize f_X6_readInto fT (fun _ => 0) (nI 89) (fun _ _ => 0) = r at *
  generalize f_X8_init (fun _ => 0) = q at *
  match r, q, h with
  | some o, some m, h =>
    dsimp only at h
    rw [Bool.and_eq_true, Bool.and_eq_true, Bool.and_eq_true, Bool.and_eq_true, Bool.and_eq_true, Bool.and_eq_true, Bool.and_eq_true, Bool.and_eq_true, List.all_eq_true] at h
    obtain ⟨⟨⟨⟨⟨⟨⟨⟨h1, h2⟩, h3⟩, h4⟩, h5⟩, h6⟩, h7⟩, h8⟩, h9⟩ := h
    refine ⟨o, m, rfl, rfl, of_decide_eq_true h1, of_decide_eq_true h2, of_decide_eq_true h3, of_decide_eq_true h4, of_decide_eq_true h5, of_decide_eq_true h6, of_decide_eq_true h7, of_decide_eq_true h8, fun i hi k hk => ?_⟩
    have q := h9 i (List.mem_range.mpr hi)
    rw [List.all_eq_true] at q
    exact of_decide_eq_true (q k (List.mem_range.mpr hk))
  | some _, none, h => exact absurd h (by decide)
  | none, _, h => exact absurd h (by decide)
theorem fT_rng : ∀ k, k < 89 → fT k = nI (zn (fT k)) ∧ 32 ≤ zn (fT k) ∧ zn (fT k) ≤ 126 := by decide +kernel
theorem fT_char : ∀ k, k < 89 → f_J0_charAt_5068e (nI k) = some (fT k) := by decide +kernel
theorem ft_len : f_J0_length_8abf5 = some (nI 89) := by decide +kernel
theorem init_go : ∃ o7, f_X7_init (fun _ => 0) (fun _ => 0) 0 (fun _ _ => 0) (fun _ _ => 0) = some o7 ∧ ∃ o8, f_X8_init (fun _ => 0) = some o8 ∧ RR o7.1 o7.2.2.1 0 0 (fun _ _ _ => 0) o7.2.2.2.2.1 o7.2.2.2.2.2 0 0 (fun _ => 0) o8 (fun _ => 0) := by
  obtain ⟨o, m, r1, r2, r3, r4, r5, r6, r7, r8, r9, r10, r11⟩ := ini_ok
  have hX : RTx 89 fT (nI 89) (nI 89) fT := ⟨by decide, rfl, rfl, fun k hk => ⟨rfl, zn (fT k), (fT_rng k hk).2.1, (fT_rng k hk).2.2, (fT_rng k hk).1⟩⟩
  obtain ⟨o2, o', e1, -, -, e4, e5⟩ := read_eq hX (u := fun _ _ => 0) (fun _ _ => Or.inl rfl) (fun _ => 0) (fun _ => 0) 0
  obtain rfl : o = o2 := Option.some.inj (r1.symm.trans e1)
  obtain ⟨s, hD⟩ := e5 r3
  have hs : s = 4 := by
    have h0 := hD.1.2.1.1
    rw [r4] at h0
    exact ((nI_eq (a := 4) (b := s) (by decide) (by have := hD.1.1; omega)).mp h0).symm
  subst hs
  have hL : LR 4 0 0 o.2.2.2 m := by
    obtain ⟨⟨d1, ⟨d2, d3⟩, ⟨d4, d5⟩, ⟨d6, d7, d8⟩, d9, d10, d11, d12, d13⟩, hC⟩ := hD
    exact ⟨⟨by decide, by decide⟩, ⟨r4, r6⟩, ⟨by decide, by decide, d6, r7, d7, r8⟩, ⟨r5, d5⟩, d8.trans r9.symm, ⟨r10, fun q hq => absurd hq (by omega)⟩, r11, hC, d11, d12⟩
  obtain ⟨w, b1, b2⟩ := copy_eq (fun _ _ => 0) o.2.2.2 e4
  obtain ⟨⟨x', z, n'⟩, g, ⟨g1, g2, g3⟩, he⟩ := zloop_run (b_X7_init_72 (fun _ => 0) (fun _ _ => 0) (fun _ _ => 0)) 89 (fun i s => s.1 = nI i ∧ s.2.2 = nI i ∧ ∀ j, s.2.1 j = if j < i then fT j else 0) (by
    rintro i ⟨y, z, t⟩ hi ⟨g1, g2, g3⟩
    dsimp only at g1 g2 g3
    subst g1
    subst g2
    refine ⟨(nI (i + 1), upd z i (fT i), nI (i + 1)), ⟨rfl, rfl, fun j => ?_⟩, fun rc => ?_⟩
    · show upd z i (fT i) j = _
      by_cases e : j = i
      · subst e; rw [upd_s, if_pos (by omega)]
      · rw [upd_o e, g3 j]
        by_cases e2 : j < i
        · rw [if_pos e2, if_pos (by omega)]
        · rw [if_neg e2, if_neg (by omega)]
    · unfold b_X7_init_72 f_X6_append
      dsimp only
      have hlt : nI i < (200 : Int32) := nI_lt (b := 200) (by omega) (by decide)
      rw [ft_len, zbd_s, if_neg (nI_ge hi (by decide)), fT_char i hi, zbd_s, if_pos hlt, zin_n (i := i) (n := 200) (by omega) (by decide), zg_t, zn_n (i := i) (by omega), zlet_d, zlet_d, zbd_s, zlet_d, nI_1]) 89 0 1000 (0, (fun _ => 0), 0) (by omega) (by omega) ⟨nI_0.symm, nI_0.symm, fun j => (if_neg (by omega)).symm⟩
  dsimp only at g1 g2 g3
  have hz : z = fT := funext fun j => by
    rw [g3 j]
    unfold fT
    by_cases c : j < 89
    · rw [if_pos c, if_pos c]
    · rw [if_neg c, if_neg c]
  have hend : b_X7_init_72 (fun _ => 0) (fun _ _ => 0) (fun _ _ => 0) (zloop (b_X7_init_72 (fun _ => 0) (fun _ _ => 0) (fun _ _ => 0)) g) (x', z, n') = j_X7_init_101 (fun _ => 0) (fun _ _ => 0) (fun _ _ => 0) fT (nI 89) := by
    generalize zloop (b_X7_init_72 (fun _ => 0) (fun _ _ => 0) (fun _ _ => 0)) g = rc
    unfold b_X7_init_72
    dsimp only
    rw [ft_len, zbd_s, if_pos (show nI 89 ≤ x' by rw [g1]; exact Int32.le_refl _), hz, g2]
  refine ⟨(fT, o.2.1, 0, o.2.2.1, w, o.2.2.2), ?_, m, r2, ⟨0, by decide, nI_0.symm, nI_0.symm, fun k hk => absurd hk (by omega)⟩, ⟨4, 0, 0, by decide, LR_v b2 hL⟩, ⟨0, 0, by decide, by decide, nI_0.symm, nI_0.symm, nI_0.symm, fun k hk => absurd hk (by omega)⟩, e4⟩
  unfold f_X7_init
  rw [he, hend]
  unfold j_X7_init_101 j_X7_init_128
  rw [r1, zbd_s, zlet_d, zlet_d, zlet_d, zlet_d, if_pos r3, b1, zbd_s, zlet_d]
/-! ===== pure: the law's loop ===== -/
abbrev LS : Type := Int32 × (Nat → Int32) × (Nat → Int32) × Int32 × Int32 × Int32 × Int32 × (Nat → R2) × (Nat → Int64) × (Nat → Int32) × Int32 × Int32 × Int32 × Int32 × R2 × (Nat → Int32) × (Nat → Int32) × Int32 × R2 × R2 × Int32 × Int32 × Int32 × Int32 × Int32 × Int32 × Int32 × Int32 × Int32 × Int32 × (Nat → Int32) × (Nat → Int32) × (Nat → Int32) × (Nat → Int32) × (Nat → Int32) × (Nat → Int32) × (Nat → Int32) × (Nat → Int32) × (Nat → Int32) × (Nat → Int32) × (Nat → Int64) × (Nat → Int32) × (Nat → Int32) × (Nat → Int32)
def RRs (s : LS) : Prop := RR s.2.1 s.2.2.2.1 s.2.2.2.2.2.1 s.2.2.2.2.2.2.1 s.2.2.2.2.2.2.2.1 s.2.2.2.2.2.2.2.2.2.2.2.2.2.2.2.2.2.2.1 s.2.2.2.2.2.2.2.2.2.2.2.2.2.2.2.2.2.2.2.1 s.2.2.2.2.2.2.2.2.2.2.2.2.2.2.2.2.2.2.2.2.2.1 s.2.2.2.2.2.2.2.2.2.2.2.2.2.2.2.2.2.2.2.2.2.2.1 s.2.2.2.2.2.2.2.2.2.2.2.2.2.2.2.2.2.2.2.2.2.2.2.2.2.2.2.2.2.2.1 s.2.2.2.2.2.2.2.2.2.2.2.2.2.2.2.2.2.2.2.2.2.2.2.2.2.2.2.2.2.2.2.1 s.2.2.2.2.2.2.2.2.2.2.2.2.2.2.2.2.2.2.2.2.2.2.2.2.2.2.2.2.2.2.2.2.2.1
theorem law_end {L i : Nat} (hL : L ≤ 2048) (hi : i ≤ 4096) : nI L - 4 < nI i ↔ L < i + 4 := by
  have k4 : (4 : Int32).toInt = 4 := by decide
  have hLt : (nI L).toInt = L := nI_toInt (by omega)
  rw [Int32.lt_iff_toInt_lt, tI_sub (by rw [k4, hLt]; omega) (by rw [k4, hLt]; omega), k4, hLt, nI_toInt (by omega)]
  omega
set_option maxHeartbeats 8000000 in
theorem law_step (L : Nat) (xs : Nat → Int32) (hL : L ≤ 2048) {i : Nat} (hi : i + 4 ≤ L) (s : LS) (hs : s.1 = nI i) (h : RRs s) : ∃ s' : LS, s'.1 = nI (i + 4) ∧ RRs s' ∧ ∀ rc : LS → Option Int32, b_L_law_18 L xs rc s = rc s' := by
  obtain ⟨x, tl, td, tn, tq, pn, pz, pl, sn, sb, c0, c1, c2, c3, tv, sp, sq, sk, v, u, m0, m1, m2, m3, m4, m5, m6, m7, m8, m9, mb, ms, md, mp, mf, mi, mo, mw, mn, mk, mt, mq, mz, me⟩ := s
  have hx : x = nI i := hs
  subst hx
  have h : RR tl tn pn pz pl v u m1 m2 mb ms mp := h
  have hne : ¬ nI L - 4 < nI i := fun q => by
    have := (law_end hL (by omega)).mp q
    omega
  have z0 : zin (nI i) L = true := zin_n (by omega) (by omega)
  have y0 : zn (nI i) = i := zn_n (by omega)
  have a1 : nI i + 1 = nI (i + 1) := nI_1 i
  have a2 : nI i + 2 = nI (i + 2) := nI_add i 2
  have a3 : nI i + 3 = nI (i + 3) := nI_add i 3
  have a4 : nI i + 4 = nI (i + 4) := nI_add i 4
  have z1 : zin (nI (i + 1)) L = true := zin_n (by omega) (by omega)
  have z2' : zin (nI (i + 2)) L = true := zin_n (by omega) (by omega)
  have z3 : zin (nI (i + 3)) L = true := zin_n (by omega) (by omega)
  have y1 : zn (nI (i + 1)) = i + 1 := zn_n (by omega)
  have y2 : zn (nI (i + 2)) = i + 2 := zn_n (by omega)
  have y3 : zn (nI (i + 3)) = i + 3 := zn_n (by omega)
  unfold b_L_law_18
  simp only [zlet_d]
  by_cases d0 : xs i &&& 31 = 0
  · obtain ⟨o, o', e1, e2, e3, e4⟩ := st_write h (xs (i + 1))
    refine ⟨_, ?_, ?_, fun rc => ?_⟩
    rotate_left
    rotate_left
    · rw [if_neg hne, z0, zg_t, y0, if_pos d0, a1, z1, y1, zg_t, e1, zbd_s, zg_t, e2, zbd_s, if_pos e3]
      unfold j_L_law_538
      rw [zlet_d]
      dsimp only
      rw [a4]
    · rfl
    · exact e4
  by_cases d1 : xs i &&& 31 = 1
  · obtain ⟨o, o', e1, e2, e3, e4⟩ := st_wipe h
    refine ⟨_, ?_, ?_, fun rc => ?_⟩
    rotate_left
    rotate_left
    · rw [if_neg hne, z0, zg_t, y0, if_neg d0, if_pos d1, e1, zbd_s, e2, zbd_s, if_pos e3]
      unfold j_L_law_538
      rw [zlet_d]
      dsimp only
      rw [a4]
    · rfl
    · exact e4
  by_cases d2 : xs i &&& 31 = 2
  · obtain ⟨o, o', e1, e2, e3, e4⟩ := st_fault h td md m4
    refine ⟨_, ?_, ?_, fun rc => ?_⟩
    rotate_left
    rotate_left
    · rw [if_neg hne, z0, zg_t, y0, if_neg d0, if_neg d1, if_pos d2, e1, zbd_s, e2, zbd_s, if_pos e3]
      unfold j_L_law_538
      rw [zlet_d]
      dsimp only
      rw [a4]
    · rfl
    · exact e4
  by_cases d3 : xs i &&& 31 = 3
  · obtain ⟨o, o', e1, e2, e3, e4⟩ := st_lay h td md m4
    refine ⟨_, ?_, ?_, fun rc => ?_⟩
    rotate_left
    rotate_left
    · rw [if_neg hne, z0, zg_t, y0, if_neg d0, if_neg d1, if_neg d2, if_pos d3, e1, zbd_s, e2, zbd_s, if_pos e3]
      unfold j_L_law_538
      rw [zlet_d]
      dsimp only
      rw [a4]
    · rfl
    · exact e4
  by_cases d4 : xs i &&& 31 = 4
  · obtain ⟨o, o', e1, e2, e3, e4⟩ := st_source h (xs (i + 1))
    refine ⟨_, ?_, ?_, fun rc => ?_⟩
    rotate_left
    rotate_left
    · rw [if_neg hne, z0, zg_t, y0, if_neg d0, if_neg d1, if_neg d2, if_neg d3, if_pos d4, a1, z1, y1, zg_t, e1, zbd_s, zg_t, e2, zbd_s, if_pos e3]
      unfold j_L_law_538
      rw [zlet_d]
      dsimp only
      rw [a4]
    · rfl
    · exact e4
  by_cases d5 : xs i &&& 31 = 5
  · obtain ⟨o, o', e1, e2, e3, e4⟩ := st_tell h (xs (i + 1)) (xs (i + 2)) (xs (i + 3))
    refine ⟨_, ?_, ?_, fun rc => ?_⟩
    rotate_left
    rotate_left
    · rw [if_neg hne, z0, zg_t, y0, if_neg d0, if_neg d1, if_neg d2, if_neg d3, if_neg d4, if_pos d5, a1, a2, a3, z1, z2', z3, y1, y2, y3, zg_t, zg_t, zg_t, e1, zbd_s, zg_t, zg_t, zg_t, e2, zbd_s, if_pos e3]
      unfold j_L_law_538
      rw [zlet_d]
      dsimp only
      rw [a4]
    · rfl
    · exact e4
  by_cases d6 : xs i &&& 31 = 6
  · obtain ⟨o, o', e1, e2, e3, e4⟩ := st_stick h (xs (i + 1)) (xs (i + 2))
    refine ⟨_, ?_, ?_, fun rc => ?_⟩
    rotate_left
    rotate_left
    · rw [if_neg hne, z0, zg_t, y0, if_neg d0, if_neg d1, if_neg d2, if_neg d3, if_neg d4, if_neg d5, if_pos d6, a1, a2, z1, z2', y1, y2, zg_t, zg_t, e1, zbd_s, zg_t, zg_t, e2, zbd_s, if_pos e3]
      unfold j_L_law_538
      rw [zlet_d]
      dsimp only
      rw [a4]
    · rfl
    · exact e4
  by_cases d7 : xs i &&& 31 = 7
  · obtain ⟨o, o', e1, e2, e3, e4⟩ := st_tick h mf mi mo mw mn mk (xs (i + 1))
    refine ⟨_, ?_, ?_, fun rc => ?_⟩
    rotate_left
    rotate_left
    · rw [if_neg hne, z0, zg_t, y0, if_neg d0, if_neg d1, if_neg d2, if_neg d3, if_neg d4, if_neg d5, if_neg d6, if_pos d7, a1, z1, y1, zg_t, e1, zbd_s, zg_t, e2, zbd_s, if_pos e3]
      unfold j_L_law_538
      rw [zlet_d]
      dsimp only
      rw [a4]
    · rfl
    · exact e4
  by_cases d8 : xs i &&& 31 = 8
  · obtain ⟨o, o', e1, e2, e3, e4⟩ := st_undo h
    refine ⟨_, ?_, ?_, fun rc => ?_⟩
    rotate_left
    rotate_left
    · rw [if_neg hne, z0, zg_t, y0, if_neg d0, if_neg d1, if_neg d2, if_neg d3, if_neg d4, if_neg d5, if_neg d6, if_neg d7, if_pos d8, e1, zbd_s, e2, zbd_s, if_pos e3]
      unfold j_L_law_538
      rw [zlet_d]
      dsimp only
      rw [a4]
    · rfl
    · exact e4
  by_cases d9 : xs i &&& 31 = 9
  · obtain ⟨o, o', e1, e2, e3⟩ := st_stage h mf mi mo mw mn (xs (i + 1)) (xs (i + 2))
    refine ⟨_, ?_, ?_, fun rc => ?_⟩
    rotate_left
    rotate_left
    · rw [if_neg hne, z0, zg_t, y0, if_neg d0, if_neg d1, if_neg d2, if_neg d3, if_neg d4, if_neg d5, if_neg d6, if_neg d7, if_neg d8, if_pos d9, a1, a2, z1, z2', y1, y2, zg_t, zg_t, e1, zbd_s, zg_t, zg_t, e2, zbd_s, if_pos e3]
      unfold j_L_law_538
      rw [zlet_d]
      dsimp only
      rw [a4]
    · rfl
    · exact h
  by_cases d10 : xs i &&& 31 = 10
  · obtain ⟨o, o', e1, e2, e3⟩ := st_done h (xs (i + 1)) (xs (i + 2))
    refine ⟨_, ?_, ?_, fun rc => ?_⟩
    rotate_left
    rotate_left
    · rw [if_neg hne, z0, zg_t, y0, if_neg d0, if_neg d1, if_neg d2, if_neg d3, if_neg d4, if_neg d5, if_neg d6, if_neg d7, if_neg d8, if_neg d9, if_pos d10, a1, a2, z1, z2', y1, y2, zg_t, zg_t, e1, zbd_s, zg_t, zg_t, e2, zbd_s, if_pos e3]
      unfold j_L_law_538
      rw [zlet_d]
      dsimp only
      rw [a4]
    · rfl
    · exact h
  by_cases d11 : xs i &&& 31 = 11
  · obtain ⟨o, o', e1, e2, e3, e4⟩ := st_settle h sn sb c0 c1 c2 c3 tv m5 m6 m7 m8 mf mi mo mw mn mk mt mq mz (xs (i + 1))
    refine ⟨_, ?_, ?_, fun rc => ?_⟩
    rotate_left
    rotate_left
    · rw [if_neg hne, z0, zg_t, y0, if_neg d0, if_neg d1, if_neg d2, if_neg d3, if_neg d4, if_neg d5, if_neg d6, if_neg d7, if_neg d8, if_neg d9, if_neg d10, if_pos d11, a1, z1, y1, zg_t, e1, zbd_s, zg_t, e2, zbd_s, if_pos e3]
      unfold j_L_law_538
      rw [zlet_d]
      dsimp only
      rw [a4]
    · rfl
    · exact e4
  by_cases d12 : xs i &&& 31 = 12
  · obtain ⟨o, o', e1, e2, e3, e4⟩ := st_best h sp sq sk m9 mf mi mo mw mn mz me (xs (i + 1))
    refine ⟨_, ?_, ?_, fun rc => ?_⟩
    rotate_left
    rotate_left
    · rw [if_neg hne, z0, zg_t, y0, if_neg d0, if_neg d1, if_neg d2, if_neg d3, if_neg d4, if_neg d5, if_neg d6, if_neg d7, if_neg d8, if_neg d9, if_neg d10, if_neg d11, if_pos d12, a1, z1, y1, zg_t, e1, zbd_s, zg_t, e2, zbd_s, if_pos e3]
      unfold j_L_law_538
      rw [zlet_d]
      dsimp only
      rw [a4]
    · rfl
    · exact e4
  by_cases d13 : xs i &&& 31 = 13
  · obtain ⟨o, o', e1, e2, e3⟩ := st_ratio h (xs (i + 1)) (xs (i + 2))
    refine ⟨_, ?_, ?_, fun rc => ?_⟩
    rotate_left
    rotate_left
    · rw [if_neg hne, z0, zg_t, y0, if_neg d0, if_neg d1, if_neg d2, if_neg d3, if_neg d4, if_neg d5, if_neg d6, if_neg d7, if_neg d8, if_neg d9, if_neg d10, if_neg d11, if_neg d12, if_pos d13, a1, a2, z1, z2', y1, y2, zg_t, zg_t, e1, zbd_s, zg_t, zg_t, e2, zbd_s, if_pos ((lg_cmp_eq _ _).mpr e3)]
      unfold j_L_law_538
      rw [zlet_d]
      dsimp only
      rw [a4]
    · rfl
    · exact h
  by_cases d14 : xs i &&& 31 = 14
  · obtain ⟨o, o', e1, e2, e3⟩ := st_graded h (xs (i + 1))
    refine ⟨_, ?_, ?_, fun rc => ?_⟩
    rotate_left
    rotate_left
    · rw [if_neg hne, z0, zg_t, y0, if_neg d0, if_neg d1, if_neg d2, if_neg d3, if_neg d4, if_neg d5, if_neg d6, if_neg d7, if_neg d8, if_neg d9, if_neg d10, if_neg d11, if_neg d12, if_neg d13, if_pos d14, a1, z1, y1, zg_t, e1, zbd_s, zg_t, e2, zbd_s, if_pos e3]
      unfold j_L_law_538
      rw [zlet_d]
      dsimp only
      rw [a4]
    · rfl
    · exact h
  by_cases d15 : xs i &&& 31 = 15
  · obtain ⟨o, o', e1, e2, e3⟩ := st_waits h (xs (i + 1)) (xs (i + 2))
    refine ⟨_, ?_, ?_, fun rc => ?_⟩
    rotate_left
    rotate_left
    · rw [if_neg hne, z0, zg_t, y0, if_neg d0, if_neg d1, if_neg d2, if_neg d3, if_neg d4, if_neg d5, if_neg d6, if_neg d7, if_neg d8, if_neg d9, if_neg d10, if_neg d11, if_neg d12, if_neg d13, if_neg d14, if_pos d15, a1, a2, z1, z2', y1, y2, zg_t, zg_t, e1, zbd_s, zg_t, zg_t, e2, zbd_s, if_pos e3]
      unfold j_L_law_538
      rw [zlet_d]
      dsimp only
      rw [a4]
    · rfl
    · exact h
  by_cases d16 : xs i &&& 31 = 16
  · obtain ⟨o, o', e1, e2, e3⟩ := st_count h mf mi mo mw mn (xs (i + 1))
    refine ⟨_, ?_, ?_, fun rc => ?_⟩
    rotate_left
    rotate_left
    · rw [if_neg hne, z0, zg_t, y0, if_neg d0, if_neg d1, if_neg d2, if_neg d3, if_neg d4, if_neg d5, if_neg d6, if_neg d7, if_neg d8, if_neg d9, if_neg d10, if_neg d11, if_neg d12, if_neg d13, if_neg d14, if_neg d15, if_pos d16, a1, z1, y1, zg_t, e1, zbd_s, zg_t, e2, zbd_s, if_pos e3]
      unfold j_L_law_538
      rw [zlet_d]
      dsimp only
      rw [a4]
    · rfl
    · exact h
  refine ⟨_, ?_, ?_, fun rc => ?_⟩
  rotate_left
  rotate_left
  · rw [if_neg hne, z0, zg_t, y0, if_neg d0, if_neg d1, if_neg d2, if_neg d3, if_neg d4, if_neg d5, if_neg d6, if_neg d7, if_neg d8, if_neg d9, if_neg d10, if_neg d11, if_neg d12, if_neg d13, if_neg d14, if_neg d15, if_neg d16]
    unfold j_L_law_538
    rw [zlet_d]
    dsimp only
    rw [a4]
  · rfl
  · exact h
theorem law_go (L : Nat) (xs : Nat → Int32) (hL : L ≤ 2048) : ∀ (r i f : Nat) (s : LS), L < i + 4 * (r + 1) → i ≤ L + 4 → r < f → s.1 = nI i → RRs s → zloop (b_L_law_18 L xs) f s = some 1 := by
  have hout : ∀ (i : Nat) (s : LS) (rc : LS → Option Int32), L < i + 4 → i ≤ L + 4 → s.1 = nI i → b_L_law_18 L xs rc s = some 1 := fun i s rc h1 h2 hs => by
    unfold b_L_law_18
    simp only [zlet_d]
    rw [if_pos (by rw [hs]; exact (law_end hL (by omega)).mpr h1)]
  intro r
  induction r with
  | zero =>
    intro i f s h1 h2 hf hs h
    obtain ⟨f, rfl⟩ : ∃ g, f = g + 1 := ⟨f - 1, by omega⟩
    rw [zloop_succ]
    exact hout i s _ (by omega) h2 hs
  | succ r ih =>
    intro i f s h1 h2 hf hs h
    obtain ⟨f, rfl⟩ : ∃ g, f = g + 1 := ⟨f - 1, by omega⟩
    rw [zloop_succ]
    rcases Nat.lt_or_ge L (i + 4) with c | c
    · exact hout i s _ c h2 hs
    · obtain ⟨s', q1, q2, q3⟩ := law_step L xs hL c s hs h
      rw [q3]
      exact ih (i + 4) f s' (by omega) (by omega) (by omega) q1 q2
theorem pure_law (L : Nat) (xs : Nat → Int32) (hL : L ≤ 2048) : ∃ (o7 : (Nat → Int32) × (Nat → Int32) × Int32 × Int32 × R2 × R2) (o8 : Nat → Int32), f_X7_init (fun _ => 0) (fun _ => 0) 0 (fun _ _ => 0) (fun _ _ => 0) = some o7 ∧ f_X8_init (fun _ => 0) = some o8 ∧ f_L_law L xs o7.1 o7.2.1 o7.2.2.1 o7.2.2.2.1 0 0 (fun _ _ _ => 0) (fun _ => 0) (fun _ => 0) 0 0 0 0 (fun _ _ => 0) (fun _ => 0) (fun _ => 0) 0 o7.2.2.2.2.1 o7.2.2.2.2.2 0 0 0 0 0 0 0 0 0 0 (fun _ => 0) o8 (fun _ => 0) (fun _ => 0) (fun _ => 0) (fun _ => 0) (fun _ => 0) (fun _ => 0) (fun _ => 0) (fun _ => 0) (fun _ => 0) (fun _ => 0) (fun _ => 0) (fun _ => 0) 0 = some 1 := by
  obtain ⟨o7, e1, o8, e2, h⟩ := init_go
  refine ⟨o7, o8, e1, e2, ?_⟩
  unfold f_L_law
  exact law_go L xs hL 512 0 1000 _ (by omega) (by omega) (by omega) nI_0.symm h
