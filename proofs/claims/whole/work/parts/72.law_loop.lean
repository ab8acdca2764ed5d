/-! ===== pure: the law's loop ===== -/
abbrev zLS : Type := Int32 × (Nat → Int32) × (Nat → Int32) × Int32 × Int32 × Int32 × Int32 × (Nat → R2) × (Nat → Int64) × (Nat → Int32) × Int32 × Int32 × Int32 × Int32 × R2 × (Nat → Int32) × (Nat → Int32) × Int32 × R2 × R2 × Int32 × Int32 × Int32 × Int32 × Int32 × Int32 × Int32 × Int32 × Int32 × Int32 × (Nat → Int32) × (Nat → Int32) × (Nat → Int32) × (Nat → Int32) × (Nat → Int32) × (Nat → Int32) × (Nat → Int32) × (Nat → Int32) × (Nat → Int32) × (Nat → Int32) × (Nat → Int64) × (Nat → Int32) × (Nat → Int32) × (Nat → Int32)
def zRRs (s : zLS) : Prop := RR s.2.1 s.2.2.2.1 s.2.2.2.2.2.1 s.2.2.2.2.2.2.1 s.2.2.2.2.2.2.2.1 s.2.2.2.2.2.2.2.2.2.2.2.2.2.2.2.2.2.2.1 s.2.2.2.2.2.2.2.2.2.2.2.2.2.2.2.2.2.2.2.1 s.2.2.2.2.2.2.2.2.2.2.2.2.2.2.2.2.2.2.2.2.2.1 s.2.2.2.2.2.2.2.2.2.2.2.2.2.2.2.2.2.2.2.2.2.2.1 s.2.2.2.2.2.2.2.2.2.2.2.2.2.2.2.2.2.2.2.2.2.2.2.2.2.2.2.2.2.2.1 s.2.2.2.2.2.2.2.2.2.2.2.2.2.2.2.2.2.2.2.2.2.2.2.2.2.2.2.2.2.2.2.1 s.2.2.2.2.2.2.2.2.2.2.2.2.2.2.2.2.2.2.2.2.2.2.2.2.2.2.2.2.2.2.2.2.2.1
theorem law_end {L i : Nat} (hL : L ≤ 2048) (hi : i ≤ 4096) : nI L - 4 < nI i ↔ L < i + 4 := by
  have k4 : (4 : Int32).toInt = 4 := by decide
  have hLt : (nI L).toInt = L := nI_toInt (by omega)
  rw [Int32.lt_iff_toInt_lt, tI_sub (by rw [k4, hLt]; omega) (by rw [k4, hLt]; omega), k4, hLt, nI_toInt (by omega)]
  omega
set_option maxHeartbeats 8000000 in
theorem law_step (L : Nat) (xs : Nat → Int32) (hL : L ≤ 2048) {i : Nat} (hi : i + 4 ≤ L) (s : zLS) (hs : s.1 = nI i) (h : zRRs s) : ∃ s' : zLS, s'.1 = nI (i + 4) ∧ zRRs s' ∧ ∀ rc : zLS → Option Int32, b_L_law_18 L xs rc s = rc s' := by
  obtain ⟨x, tl, td, tn, tq, pn, pz, pl, sn, sb, c0, c1, c2, c3, tv, sp, sq, sk, v, u, m0, m1, m2, m3, m4, m5, m6, m7, m8, m9, mb, ms, md, mp, mf, mi, mo, mw, mn, mk, mt, mq, mz, me⟩ := s
  have hx : x = nI i := hs
  subst hx
  have h : RR tl tn pn pz pl v u m1 m2 mb ms mp := h
  have hne : ¬ nI L - 4 < nI i := fun q => by
    have := (law_end hL (by omega)).mp q
    omega
  have z0 : zin (nI i) L = true := zin_n (by omega) (by omega)
  have y0 : zn (nI i) = i := zn_n (by omega)
  have a1 : nI i + 1 = nI (i + 1) := nI_1 i
  have a2 : nI i + 2 = nI (i + 2) := nI_add i 2
  have a3 : nI i + 3 = nI (i + 3) := nI_add i 3
  have a4 : nI i + 4 = nI (i + 4) := nI_add i 4
  have z1 : zin (nI (i + 1)) L = true := zin_n (by omega) (by omega)
  have z2' : zin (nI (i + 2)) L = true := zin_n (by omega) (by omega)
  have z3 : zin (nI (i + 3)) L = true := zin_n (by omega) (by omega)
  have y1 : zn (nI (i + 1)) = i + 1 := zn_n (by omega)
  have y2 : zn (nI (i + 2)) = i + 2 := zn_n (by omega)
  have y3 : zn (nI (i + 3)) = i + 3 := zn_n (by omega)
  unfold b_L_law_18
  simp only [zlet_d]
  by_cases d0 : xs i &&& 31 = 0
  · obtain ⟨o, o', e1, e2, e3, e4⟩ := st_write h (xs (i + 1))
    refine ⟨(nI (i + 4), o.2.1, td, o.2.2, tq, pn, pz, pl, sn, sb, c0, c1, c2, c3, tv, sp, sq, sk, v, u, o'.2.1, o'.2.2.1, m2, m3, m4, m5, m6, m7, m8, m9, o'.2.2.2, ms, md, mp, mf, mi, mo, mw, mn, mk, mt, mq, mz, me), rfl, e4, fun rc => ?_⟩
    · rw [if_neg hne, z0, zg_t, y0, if_pos d0, a1, z1, y1, zg_t, e1, zbd_s, zg_t, e2, zbd_s, if_pos e3]
      unfold j_L_law_538
      rw [zlet_d]
      dsimp only
      rw [a4]
  by_cases d1 : xs i &&& 31 = 1
  · obtain ⟨o, o', e1, e2, e3, e4⟩ := st_wipe h
    refine ⟨(nI (i + 4), tl, td, o.2, tq, pn, pz, pl, sn, sb, c0, c1, c2, c3, tv, sp, sq, sk, v, u, o'.2.1, o'.2.2, m2, m3, m4, m5, m6, m7, m8, m9, mb, ms, md, mp, mf, mi, mo, mw, mn, mk, mt, mq, mz, me), rfl, e4, fun rc => ?_⟩
    · rw [if_neg hne, z0, zg_t, y0, if_neg d0, if_pos d1, e1, zbd_s, e2, zbd_s, if_pos e3]
      unfold j_L_law_538
      rw [zlet_d]
      dsimp only
      rw [a4]
  by_cases d2 : xs i &&& 31 = 2
  · obtain ⟨o, o', e1, e2, e3, e4⟩ := st_fault h td md m4
    refine ⟨(nI (i + 4), tl, o.2.1, tn, o.2.2.1, pn, pz, pl, sn, sb, c0, c1, c2, c3, tv, sp, sq, sk, v, o.2.2.2, o'.2.1, m1, m2, o'.2.2.1, o'.2.2.2.1, m5, m6, m7, m8, m9, mb, ms, o'.2.2.2.2, mp, mf, mi, mo, mw, mn, mk, mt, mq, mz, me), rfl, e4, fun rc => ?_⟩
    · rw [if_neg hne, z0, zg_t, y0, if_neg d0, if_neg d1, if_pos d2, e1, zbd_s, e2, zbd_s, if_pos e3]
      unfold j_L_law_538
      rw [zlet_d]
      dsimp only
      rw [a4]
  by_cases d3 : xs i &&& 31 = 3
  · obtain ⟨o, o', e1, e2, e3, e4⟩ := st_lay h td md m4
    refine ⟨(nI (i + 4), tl, o.2.1, tn, o.2.2.1, pn, o.2.2.2.1, pl, sn, sb, c0, c1, c2, c3, tv, sp, sq, sk, o.2.2.2.2.1, o.2.2.2.2.2, o'.2.1, m1, o'.2.2.1, o'.2.2.2.1, o'.2.2.2.2.1, m5, m6, m7, m8, m9, mb, o'.2.2.2.2.2.1, o'.2.2.2.2.2.2, mp, mf, mi, mo, mw, mn, mk, mt, mq, mz, me), rfl, e4, fun rc => ?_⟩
    · rw [if_neg hne, z0, zg_t, y0, if_neg d0, if_neg d1, if_neg d2, if_pos d3, e1, zbd_s, e2, zbd_s, if_pos e3]
      unfold j_L_law_538
      rw [zlet_d]
      dsimp only
      rw [a4]
  by_cases d4 : xs i &&& 31 = 4
  · obtain ⟨o, o', e1, e2, e3, e4⟩ := st_source h (xs (i + 1))
    refine ⟨(nI (i + 4), tl, td, tn, tq, o.2.1, o.2.2.1, o.2.2.2.1, sn, sb, c0, c1, c2, c3, tv, sp, sq, sk, o.2.2.2.2, u, o'.2.1, m1, o'.2.2.1, m3, m4, m5, m6, m7, m8, m9, mb, o'.2.2.2.1, md, o'.2.2.2.2, mf, mi, mo, mw, mn, mk, mt, mq, mz, me), rfl, e4, fun rc => ?_⟩
    · rw [if_neg hne, z0, zg_t, y0, if_neg d0, if_neg d1, if_neg d2, if_neg d3, if_pos d4, a1, z1, y1, zg_t, e1, zbd_s, zg_t, e2, zbd_s, if_pos e3]
      unfold j_L_law_538
      rw [zlet_d]
      dsimp only
      rw [a4]
  by_cases d5 : xs i &&& 31 = 5
  · obtain ⟨o, o', e1, e2, e3, e4⟩ := st_tell h (xs (i + 1)) (xs (i + 2)) (xs (i + 3))
    refine ⟨(nI (i + 4), tl, td, tn, tq, o.2.1, o.2.2.1, o.2.2.2.1, sn, sb, c0, c1, c2, c3, tv, sp, sq, sk, o.2.2.2.2, u, o'.2.1, m1, o'.2.2.1, m3, m4, m5, m6, m7, m8, m9, mb, o'.2.2.2.1, md, o'.2.2.2.2, mf, mi, mo, mw, mn, mk, mt, mq, mz, me), rfl, e4, fun rc => ?_⟩
    · rw [if_neg hne, z0, zg_t, y0, if_neg d0, if_neg d1, if_neg d2, if_neg d3, if_neg d4, if_pos d5, a1, a2, a3, z1, z2', z3, y1, y2, y3, zg_t, zg_t, zg_t, e1, zbd_s, zg_t, zg_t, zg_t, e2, zbd_s, if_pos e3]
      unfold j_L_law_538
      rw [zlet_d]
      dsimp only
      rw [a4]
  by_cases d6 : xs i &&& 31 = 6
  · obtain ⟨o, o', e1, e2, e3, e4⟩ := st_stick h (xs (i + 1)) (xs (i + 2))
    refine ⟨(nI (i + 4), tl, td, tn, tq, o.2.1, o.2.2.1, o.2.2.2.1, sn, sb, c0, c1, c2, c3, tv, sp, sq, sk, o.2.2.2.2, u, o'.2.1, m1, o'.2.2.1, m3, m4, m5, m6, m7, m8, m9, mb, o'.2.2.2.1, md, o'.2.2.2.2, mf, mi, mo, mw, mn, mk, mt, mq, mz, me), rfl, e4, fun rc => ?_⟩
    · rw [if_neg hne, z0, zg_t, y0, if_neg d0, if_neg d1, if_neg d2, if_neg d3, if_neg d4, if_neg d5, if_pos d6, a1, a2, z1, z2', y1, y2, zg_t, zg_t, e1, zbd_s, zg_t, zg_t, e2, zbd_s, if_pos e3]
      unfold j_L_law_538
      rw [zlet_d]
      dsimp only
      rw [a4]
  by_cases d7 : xs i &&& 31 = 7
  · obtain ⟨o, o', e1, e2, e3, e4⟩ := st_tick h mf mi mo mw mn mk (xs (i + 1))
    refine ⟨(nI (i + 4), tl, td, tn, tq, o.2.1, o.2.2.1, o.2.2.2.1, sn, sb, c0, c1, c2, c3, tv, sp, sq, sk, o.2.2.2.2, u, o'.2.1, m1, o'.2.2.1, m3, m4, m5, m6, m7, m8, m9, mb, o'.2.2.2.1, md, o'.2.2.2.2.1, o'.2.2.2.2.2.1, o'.2.2.2.2.2.2.1, o'.2.2.2.2.2.2.2.1, o'.2.2.2.2.2.2.2.2.1, o'.2.2.2.2.2.2.2.2.2.1, o'.2.2.2.2.2.2.2.2.2.2, mt, mq, mz, me), rfl, e4, fun rc => ?_⟩
    · rw [if_neg hne, z0, zg_t, y0, if_neg d0, if_neg d1, if_neg d2, if_neg d3, if_neg d4, if_neg d5, if_neg d6, if_pos d7, a1, z1, y1, zg_t, e1, zbd_s, zg_t, e2, zbd_s, if_pos e3]
      unfold j_L_law_538
      rw [zlet_d]
      dsimp only
      rw [a4]
  by_cases d8 : xs i &&& 31 = 8
  · obtain ⟨o, o', e1, e2, e3, e4⟩ := st_undo h
    refine ⟨(nI (i + 4), tl, td, tn, tq, o.2.1, o.2.2.1, pl, sn, sb, c0, c1, c2, c3, tv, sp, sq, sk, o.2.2.2, u, o'.2.1, m1, o'.2.2.1, m3, m4, m5, m6, m7, m8, m9, mb, o'.2.2.2, md, mp, mf, mi, mo, mw, mn, mk, mt, mq, mz, me), rfl, e4, fun rc => ?_⟩
    · rw [if_neg hne, z0, zg_t, y0, if_neg d0, if_neg d1, if_neg d2, if_neg d3, if_neg d4, if_neg d5, if_neg d6, if_neg d7, if_pos d8, e1, zbd_s, e2, zbd_s, if_pos e3]
      unfold j_L_law_538
      rw [zlet_d]
      dsimp only
      rw [a4]
  by_cases d9 : xs i &&& 31 = 9
  · obtain ⟨o, o', e1, e2, e3⟩ := st_stage h mf mi mo mw mn (xs (i + 1)) (xs (i + 2))
    refine ⟨(nI (i + 4), tl, td, tn, tq, pn, pz, pl, sn, sb, c0, c1, c2, c3, tv, sp, sq, sk, v, u, o'.2.1, m1, m2, m3, m4, m5, m6, m7, m8, m9, mb, ms, md, mp, o'.2.2.1, o'.2.2.2.1, o'.2.2.2.2.1, o'.2.2.2.2.2.1, o'.2.2.2.2.2.2, mk, mt, mq, mz, me), rfl, h, fun rc => ?_⟩
    · rw [if_neg hne, z0, zg_t, y0, if_neg d0, if_neg d1, if_neg d2, if_neg d3, if_neg d4, if_neg d5, if_neg d6, if_neg d7, if_neg d8, if_pos d9, a1, a2, z1, z2', y1, y2, zg_t, zg_t, e1, zbd_s, zg_t, zg_t, e2, zbd_s, if_pos e3]
      unfold j_L_law_538
      rw [zlet_d]
      dsimp only
      rw [a4]
  by_cases d10 : xs i &&& 31 = 10
  · obtain ⟨o, o', e1, e2, e3⟩ := st_done h (xs (i + 1)) (xs (i + 2))
    refine ⟨(nI (i + 4), tl, td, tn, tq, pn, pz, pl, sn, sb, c0, c1, c2, c3, tv, sp, sq, sk, v, u, o'.2, m1, m2, m3, m4, m5, m6, m7, m8, m9, mb, ms, md, mp, mf, mi, mo, mw, mn, mk, mt, mq, mz, me), rfl, h, fun rc => ?_⟩
    · rw [if_neg hne, z0, zg_t, y0, if_neg d0, if_neg d1, if_neg d2, if_neg d3, if_neg d4, if_neg d5, if_neg d6, if_neg d7, if_neg d8, if_neg d9, if_pos d10, a1, a2, z1, z2', y1, y2, zg_t, zg_t, e1, zbd_s, zg_t, zg_t, e2, zbd_s, if_pos e3]
      unfold j_L_law_538
      rw [zlet_d]
      dsimp only
      rw [a4]
  by_cases d11 : xs i &&& 31 = 11
  · obtain ⟨o, o', e1, e2, e3, e4⟩ := st_settle h sn sb c0 c1 c2 c3 tv m5 m6 m7 m8 mf mi mo mw mn mk mt mq mz (xs (i + 1))
    refine ⟨(nI (i + 4), tl, td, tn, tq, pn, pz, pl, o.2.1, o.2.2.1, o.2.2.2.1, o.2.2.2.2.1, o.2.2.2.2.2.1, o.2.2.2.2.2.2.1, o.2.2.2.2.2.2.2, sp, sq, sk, v, u, o'.2.1, m1, m2, m3, m4, o'.2.2.1, o'.2.2.2.1, o'.2.2.2.2.1, o'.2.2.2.2.2.1, m9, mb, o'.2.2.2.2.2.2.1, md, mp, o'.2.2.2.2.2.2.2.1, o'.2.2.2.2.2.2.2.2.1, o'.2.2.2.2.2.2.2.2.2.1, o'.2.2.2.2.2.2.2.2.2.2.1, o'.2.2.2.2.2.2.2.2.2.2.2.1, o'.2.2.2.2.2.2.2.2.2.2.2.2.1, o'.2.2.2.2.2.2.2.2.2.2.2.2.2.1, o'.2.2.2.2.2.2.2.2.2.2.2.2.2.2.1, o'.2.2.2.2.2.2.2.2.2.2.2.2.2.2.2, me), rfl, e4, fun rc => ?_⟩
    · rw [if_neg hne, z0, zg_t, y0, if_neg d0, if_neg d1, if_neg d2, if_neg d3, if_neg d4, if_neg d5, if_neg d6, if_neg d7, if_neg d8, if_neg d9, if_neg d10, if_pos d11, a1, z1, y1, zg_t, e1, zbd_s, zg_t, e2, zbd_s, if_pos e3]
      unfold j_L_law_538
      rw [zlet_d]
      dsimp only
      rw [a4]
  by_cases d12 : xs i &&& 31 = 12
  · obtain ⟨o, o', e1, e2, e3, e4⟩ := st_best h sp sq sk m9 mf mi mo mw mn mz me (xs (i + 1))
    refine ⟨(nI (i + 4), tl, td, tn, tq, pn, pz, pl, sn, sb, c0, c1, c2, c3, tv, o.2.1, o.2.2.1, o.2.2.2, v, u, o'.2.1, m1, m2, m3, m4, m5, m6, m7, m8, o'.2.2.1, mb, o'.2.2.2.1, md, mp, o'.2.2.2.2.1, o'.2.2.2.2.2.1, o'.2.2.2.2.2.2.1, o'.2.2.2.2.2.2.2.1, o'.2.2.2.2.2.2.2.2.1, mk, mt, mq, o'.2.2.2.2.2.2.2.2.2.1, o'.2.2.2.2.2.2.2.2.2.2), rfl, e4, fun rc => ?_⟩
    · rw [if_neg hne, z0, zg_t, y0, if_neg d0, if_neg d1, if_neg d2, if_neg d3, if_neg d4, if_neg d5, if_neg d6, if_neg d7, if_neg d8, if_neg d9, if_neg d10, if_neg d11, if_pos d12, a1, z1, y1, zg_t, e1, zbd_s, zg_t, e2, zbd_s, if_pos e3]
      unfold j_L_law_538
      rw [zlet_d]
      dsimp only
      rw [a4]
  by_cases d13 : xs i &&& 31 = 13
  · obtain ⟨o, o', e1, e2, e3⟩ := st_ratio h (xs (i + 1)) (xs (i + 2))
    refine ⟨(nI (i + 4), tl, td, tn, tq, pn, pz, pl, sn, sb, c0, c1, c2, c3, tv, sp, sq, sk, v, u, o'.2, m1, m2, m3, m4, m5, m6, m7, m8, m9, mb, ms, md, mp, mf, mi, mo, mw, mn, mk, mt, mq, mz, me), rfl, h, fun rc => ?_⟩
    · rw [if_neg hne, z0, zg_t, y0, if_neg d0, if_neg d1, if_neg d2, if_neg d3, if_neg d4, if_neg d5, if_neg d6, if_neg d7, if_neg d8, if_neg d9, if_neg d10, if_neg d11, if_neg d12, if_pos d13, a1, a2, z1, z2', y1, y2, zg_t, zg_t, e1, zbd_s, zg_t, zg_t, e2, zbd_s, if_pos ((lg_cmp_eq _ _).mpr e3)]
      unfold j_L_law_538
      rw [zlet_d]
      dsimp only
      rw [a4]
  by_cases d14 : xs i &&& 31 = 14
  · obtain ⟨o, o', e1, e2, e3⟩ := st_graded h (xs (i + 1))
    refine ⟨(nI (i + 4), tl, td, tn, tq, pn, pz, pl, sn, sb, c0, c1, c2, c3, tv, sp, sq, sk, v, u, o'.2, m1, m2, m3, m4, m5, m6, m7, m8, m9, mb, ms, md, mp, mf, mi, mo, mw, mn, mk, mt, mq, mz, me), rfl, h, fun rc => ?_⟩
    · rw [if_neg hne, z0, zg_t, y0, if_neg d0, if_neg d1, if_neg d2, if_neg d3, if_neg d4, if_neg d5, if_neg d6, if_neg d7, if_neg d8, if_neg d9, if_neg d10, if_neg d11, if_neg d12, if_neg d13, if_pos d14, a1, z1, y1, zg_t, e1, zbd_s, zg_t, e2, zbd_s, if_pos e3]
      unfold j_L_law_538
      rw [zlet_d]
      dsimp only
      rw [a4]
  by_cases d15 : xs i &&& 31 = 15
  · obtain ⟨o, o', e1, e2, e3⟩ := st_waits h (xs (i + 1)) (xs (i + 2))
    refine ⟨(nI (i + 4), tl, td, tn, tq, pn, pz, pl, sn, sb, c0, c1, c2, c3, tv, sp, sq, sk, v, u, o'.2, m1, m2, m3, m4, m5, m6, m7, m8, m9, mb, ms, md, mp, mf, mi, mo, mw, mn, mk, mt, mq, mz, me), rfl, h, fun rc => ?_⟩
    · rw [if_neg hne, z0, zg_t, y0, if_neg d0, if_neg d1, if_neg d2, if_neg d3, if_neg d4, if_neg d5, if_neg d6, if_neg d7, if_neg d8, if_neg d9, if_neg d10, if_neg d11, if_neg d12, if_neg d13, if_neg d14, if_pos d15, a1, a2, z1, z2', y1, y2, zg_t, zg_t, e1, zbd_s, zg_t, zg_t, e2, zbd_s, if_pos e3]
      unfold j_L_law_538
      rw [zlet_d]
      dsimp only
      rw [a4]
  by_cases d16 : xs i &&& 31 = 16
  · obtain ⟨o, o', e1, e2, e3⟩ := st_count h mf mi mo mw mn (xs (i + 1))
    refine ⟨(nI (i + 4), tl, td, tn, tq, pn, pz, pl, sn, sb, c0, c1, c2, c3, tv, sp, sq, sk, v, u, o'.2.1, m1, m2, m3, m4, m5, m6, m7, m8, m9, mb, ms, md, mp, o'.2.2.1, o'.2.2.2.1, o'.2.2.2.2.1, o'.2.2.2.2.2.1, o'.2.2.2.2.2.2, mk, mt, mq, mz, me), rfl, h, fun rc => ?_⟩
    · rw [if_neg hne, z0, zg_t, y0, if_neg d0, if_neg d1, if_neg d2, if_neg d3, if_neg d4, if_neg d5, if_neg d6, if_neg d7, if_neg d8, if_neg d9, if_neg d10, if_neg d11, if_neg d12, if_neg d13, if_neg d14, if_neg d15, if_pos d16, a1, z1, y1, zg_t, e1, zbd_s, zg_t, e2, zbd_s, if_pos e3]
      unfold j_L_law_538
      rw [zlet_d]
      dsimp only
      rw [a4]
  refine ⟨(nI (i + 4), tl, td, tn, tq, pn, pz, pl, sn, sb, c0, c1, c2, c3, tv, sp, sq, sk, v, u, m0, m1, m2, m3, m4, m5, m6, m7, m8, m9, mb, ms, md, mp, mf, mi, mo, mw, mn, mk, mt, mq, mz, me), rfl, h, fun rc => ?_⟩
  · rw [if_neg hne, z0, zg_t, y0, if_neg d0, if_neg d1, if_neg d2, if_neg d3, if_neg d4, if_neg d5, if_neg d6, if_neg d7, if_neg d8, if_neg d9, if_neg d10, if_neg d11, if_neg d12, if_neg d13, if_neg d14, if_neg d15, if_neg d16]
    unfold j_L_law_538
    rw [zlet_d]
    dsimp only
    rw [a4]
theorem law_go (L : Nat) (xs : Nat → Int32) (hL : L ≤ 2048) : ∀ (r i f : Nat) (s : zLS), L < i + 4 * (r + 1) → i ≤ L + 4 → r < f → s.1 = nI i → zRRs s → zloop (b_L_law_18 L xs) f s = some 1 := by
  have hout : ∀ (i : Nat) (s : zLS) (rc : zLS → Option Int32), L < i + 4 → i ≤ L + 4 → s.1 = nI i → b_L_law_18 L xs rc s = some 1 := fun i s rc h1 h2 hs => by
    unfold b_L_law_18
    simp only [zlet_d]
    rw [if_pos (by rw [hs]; exact (law_end hL (by omega)).mpr h1)]
  intro r
  induction r with
  | zero =>
    intro i f s h1 h2 hf hs h
    obtain ⟨f, rfl⟩ : ∃ g, f = g + 1 := ⟨f - 1, by omega⟩
    rw [zloop_succ]
    exact hout i s _ (by omega) h2 hs
  | succ r ih =>
    intro i f s h1 h2 hf hs h
    obtain ⟨f, rfl⟩ : ∃ g, f = g + 1 := ⟨f - 1, by omega⟩
    rw [zloop_succ]
    rcases Nat.lt_or_ge L (i + 4) with c | c
    · exact hout i s _ c h2 hs
    · obtain ⟨s', q1, q2, q3⟩ := law_step L xs hL c s hs h
      rw [q3]
      exact ih (i + 4) f s' (by omega) (by omega) (by omega) q1 q2
