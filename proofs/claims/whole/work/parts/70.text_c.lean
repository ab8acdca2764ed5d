/-! ===== pure: the text read ===== -/
theorem item_eq {tl mb : Nat → Int32} {K p s : Nat} (hT : TXE K tl mb) (hp : p < K) {u : R2} {md : Nat → Int32} (hD : DQ s u md) (td : Nat → Int32) (m4 : Int32) : (∃ td' q u' o', f_X6_readItem tl td (nI K) (nI p) u = some (0, td', q, u') ∧ SB u' ∧ (∀ rc, b_X8_reads_35 (nI K) mb rc (nI p, m4, md) = some o') ∧ o'.1 = nI p) ∨ (∃ td' p' u' md' s', p < p' ∧ p' ≤ K ∧ f_X6_readItem tl td (nI K) (nI p) u = some (1, td', nI p', u') ∧ (∀ rc, b_X8_reads_35 (nI K) mb rc (nI p, m4, md) = rc (nI p', 1, md')) ∧ DQ s' u' md') := by
  have hK := hT.1
  have k1 : zn 1 = 1 := by decide
  have i1 : zin 1 114 = true := by decide
  have hge : ¬ nI K ≤ nI p := nI_ge hp (by omega)
  by_cases hv : HR tl K p 118
  · have hp1 : p + 1 ≤ K := hp
    obtain ⟨q, r, q1, q2, hq⟩ := num_eq hT hp1 800 1200
    have hI : f_X6_readItem tl td (nI K) (nI p) u = zbd (f_X6_readSource tl (nI K) (nI (p + 1)) u) fun o8 => zg (zbo o8.1) (some (o8.1, td, o8.2.1, o8.2.2)) := by
      unfold f_X6_readItem
      rw [take_yes hK hv, zbd_s, if_neg ne10]
    rcases hq with ⟨a1, a2, a3, a4⟩ | ⟨a1, a2⟩
    · have hne : ¬ r = 10000 := fun e => by
        rw [e] at a4
        exact absurd a4 (by decide)
      by_cases hs : HR tl K q 59
      · right
        refine ⟨td, q + 1, z2 u 9 1 r, upd md 1 r, s, by omega, hs.1, ?_, fun rc => ?_, ?_⟩
        · rw [hI]
          unfold f_X6_readSource
          rw [a1, zbd_s, if_neg hne, take_yes hK hs, zbd_s, if_neg ne10, zlet_d, zbd_s, zbo1, zg_t]
        · unfold b_X8_reads_35 j_X8_reads_114 j_X8_reads_149
          dsimp only
          rw [if_neg hge, zbo1, zg_t, zlet_d, here_yes hT hv, zbd_s, if_neg ne10, zlet_d, nI_1, a2, zbd_s, takes_yes hT hs, zbd_s, if_neg ne10, i1, zg_t, k1, zlet_d, if_neg ne10]
        · obtain ⟨d1, ⟨d2, d3⟩, ⟨d4, d5⟩, ⟨d6, d7, d8⟩, d9, d10, d11, d12, d13⟩ := hD
          refine ⟨d1, ⟨by rw [z2_c (by decide)]; exact d2, by rw [upd_o (by decide)]; exact d3⟩, ⟨by rw [z2_s, upd_s], by rw [z2_s]; exact le_in (a := 800) (b := 1200) (by decide) (by decide) a3 a4⟩, ⟨by rw [z2_c (by decide)]; exact d6, by rw [z2_r (by decide)]; exact d7, by rw [z2_r (by decide)]; exact d8⟩, fun j j1 j2 => ?_, fun i hi k hk => ?_, fun i hi => ?_, fun i hi => ?_, fun j j1 j2 => ?_⟩
          · rw [upd_o (by omega)]; exact d9 j j1 j2
          · rw [z2_r (by omega), upd_o (by omega)]; exact d10 i hi k hk
          · have er : z2 u 9 1 r i = u i := z2_row i (by omega)
            rw [er]; exact d11 i hi
          · rw [z2_r (by omega)]; exact d12 i hi
          · rw [upd_o (by omega)]; exact d13 j j1 j2
      · left
        refine ⟨td, nI q, u, (nI p, nI q, 0, upd md 1 (md 1)), ?_, hD.2.2.2.2.2.2.2.1, fun rc => ?_, rfl⟩
        · rw [hI]
          unfold f_X6_readSource
          rw [a1, zbd_s, if_neg hne, take_no hK q2 hs, zbd_s, if_pos rfl, zbd_s, zbo0, zg_t]
        · unfold b_X8_reads_35 j_X8_reads_114 j_X8_reads_149
          dsimp only
          rw [if_neg hge, zbo1, zg_t, zlet_d, here_yes hT hv, zbd_s, if_neg ne10, zlet_d, nI_1, a2, zbd_s, takes_no hT q2 hs, zbd_s, if_pos rfl, i1, zg_t, zg_t, k1, zlet_d, if_pos rfl]
    · left
      obtain ⟨o15, e1, e2⟩ : ∃ o15, f_X8_takes (nI K) (nI q) 0 mb 59 = some o15 ∧ o15.2 = 0 := by
        by_cases hs : HR tl K q 59
        · exact ⟨_, takes_yes hT hs 0, rfl⟩
        · exact ⟨_, takes_no hT q2 hs 0, rfl⟩
      refine ⟨td, nI q, u, (nI p, o15.1, o15.2, upd md 1 (md 1)), ?_, hD.2.2.2.2.2.2.2.1, fun rc => ?_, rfl⟩
      · rw [hI]
        unfold f_X6_readSource
        rw [a1, zbd_s, if_pos rfl, zbd_s, zbo0, zg_t]
      · unfold b_X8_reads_35 j_X8_reads_114 j_X8_reads_149
        dsimp only
        rw [if_neg hge, zbo1, zg_t, zlet_d, here_yes hT hv, zbd_s, if_neg ne10, zlet_d, nI_1, a2, zbd_s, e1, zbd_s, if_pos e2, i1, zg_t, zg_t, k1, zlet_d, if_pos e2]
  · by_cases hs : HR tl K p 115
    · have hp1 : p + 1 ≤ K := hp
      have hI : f_X6_readItem tl td (nI K) (nI p) u = zbd (zloop (b_X6_readStage_10 tl (nI K) u 6) 1000 (nI 0, td, nI (p + 1))) fun o3 => if o3.1 = 0 then some (0, o3.2.1, o3.2.2.1, o3.2.2.2) else some (1, o3.2.1, o3.2.2.1, o3.2.2.2) := by
        unfold f_X6_readItem f_X6_readStage
        have e6 : (7 : Int32) - 1 = 6 := by decide
        rw [take_no hK (by omega) hv, zbd_s, if_pos rfl, take_yes hK hs, zbd_s, if_neg ne10, zlet_d, e6, nI_0]
        simp only [zlet_d]
      have hM : ∀ rc : Int32 × Int32 × (Nat → Int32) → Option (Int32 × Int32 × Int32 × (Nat → Int32)), b_X8_reads_35 (nI K) mb rc (nI p, m4, md) = zbd (f_X8_takesStage (nI K) (nI (p + 1)) 1 mb md) fun o12 => j_X8_reads_149 rc (nI p, m4, md) o12.1 o12.2.1 o12.2.2 := fun rc => by
        unfold b_X8_reads_35
        dsimp only
        rw [if_neg hge, zbo1, zg_t, zlet_d, here_no hT (by omega) hv, zbd_s, if_pos rfl, here_yes hT hs, zbd_s, if_neg ne10, zlet_d, nI_1]
      rcases Nat.lt_or_ge s 4 with h4 | h4
      · have d0 : md 0 = nI s := hD.2.1.2
        have e4 : ¬ (4 : Int32) ≤ nI s := nI_ge (b := 4) h4 (by decide)
        have ex : 6 + 12 * nI s = nI (6 + 12 * s) := by
          show nI 6 + nI 12 * nI s = _
          rw [pk_mul, nI_add]
        have hS : f_X8_takesStage (nI K) (nI (p + 1)) 1 mb md = j_X8_takesStage_64 (nI K) mb (nI (6 + 12 * s)) (zloop (b_X8_takesStage_41 (nI K) mb (nI (6 + 12 * s))) 999) (nI 0, nI (p + 1), 1, md) (nI (p + 1)) 1 := by
          unfold f_X8_takesStage j_X8_takesStage_23
          rw [if_neg ne10, z0i, zg_t, z0k, d0, if_neg e4, zbo1, zg_t, zlet_d, zg_t, ex, zlet_d, show (1000 : Nat) = 999 + 1 from rfl, zloop_succ]
          unfold b_X8_takesStage_41
          dsimp only
          have c7 : ¬ (7 : Int32) ≤ 0 := by decide
          rw [if_neg c7, if_neg ne10, if_pos (Int32.le_refl _), nI_0]
        rcases stg_eq (its := 6 + 12 * s) hT u (by omega) (by omega) 6 0 (p + 1) 1000 999 td md (nI (p + 1)) 1 (by omega) hp1 (by omega) (by omega) with ⟨td', b1, b2, md', e1, e2⟩ | ⟨td', p', md', e1, e2, e3, e4', e5, -, e7⟩
        · left
          refine ⟨td', b1, u, (nI p, b2, 0, md'), ?_, hD.2.2.2.2.2.2.2.1, fun rc => ?_, rfl⟩
          · rw [hI, e1, zbd_s, if_pos rfl]
          · rw [hM, hS, e2, zbd_s]
            unfold j_X8_reads_149
            rw [if_pos rfl]
        · right
          obtain ⟨u', a1, a2⟩ := add_DQ hD h4 (fun j hj => e5 j (by omega) hj) (fun x hx => e7 x (by omega))
          refine ⟨td', p', u', upd md' 0 (md' 0 + 1), s + 1, by omega, e2, ?_, fun rc => ?_, a2⟩
          · rw [hI, e3]
            unfold j_X6_readStage_74
            rw [a1, zbd_s, zbo1, zg_t, zbd_s, if_neg ne10]
          · rw [hM, hS, e4', zbd_s]
            unfold j_X8_reads_149
            rw [if_neg ne10]
      · left
        have d0 : md 0 = nI s := hD.2.1.2
        have s4 : s = 4 := by have := hD.1; omega
        have e4 : (4 : Int32) ≤ nI s := by rw [s4]; decide
        have hlt : ¬ nI s < (4 : Int32) := by rw [s4]; decide
        obtain ⟨q', md', ej⟩ := j90_no mb hT hp1 md
        have hS : f_X8_takesStage (nI K) (nI (p + 1)) 1 mb md = some (q', 0, md') := by
          unfold f_X8_takesStage j_X8_takesStage_22 j_X8_takesStage_23
          rw [if_neg ne10, z0i, zg_t, z0k, d0, if_pos e4, zbo0, zg_t, zlet_d, zg_t, zlet_d, show (1000 : Nat) = 999 + 1 from rfl, zloop_succ, hd_end _ _ _ _ _ _ _ _ (Or.inl rfl)]
          exact ej
        obtain ⟨td', q, e1⟩ : ∃ td' q, zloop (b_X6_readStage_10 tl (nI K) u 6) 1000 (nI 0, td, nI (p + 1)) = some (0, td', q, u) := by
          rcases stg_eq (its := 6) hT u (by omega) (by omega) 6 0 (p + 1) 1000 999 td md (nI (p + 1)) 1 (by omega) hp1 (by omega) (by omega) with ⟨td', b1, b2, md', e1, e2⟩ | ⟨td', p', md', -, -, e3, -, -, -, -⟩
          · exact ⟨td', b1, e1⟩
          · refine ⟨td', nI p', ?_⟩
            rw [e3]
            unfold j_X6_readStage_74 f_X1_addStage
            rw [hD.2.1.1, if_neg hlt, zbd_s, zbo0, zg_t]
        refine ⟨td', q, u, (nI p, q', 0, md'), ?_, hD.2.2.2.2.2.2.2.1, fun rc => ?_, rfl⟩
        · rw [hI, e1, zbd_s, if_pos rfl]
        · rw [hM, hS, zbd_s]
          unfold j_X8_reads_149
          rw [if_pos rfl]
    · left
      refine ⟨td, nI p, u, (nI p, nI p, 0, md), ?_, hD.2.2.2.2.2.2.2.1, fun rc => ?_, rfl⟩
      · unfold f_X6_readItem
        rw [take_no hK (by omega) hv, zbd_s, if_pos rfl, take_no hK (by omega) hs, zbd_s, if_pos rfl]
      · unfold b_X8_reads_35 j_X8_reads_149
        dsimp only
        rw [if_neg hge, zbo1, zg_t, zlet_d, here_no hT (by omega) hv, zbd_s, if_pos rfl, here_no hT (by omega) hs, zbd_s, if_pos rfl, zbo0, zg_t, zlet_d, if_pos rfl]
/-- a line read whole -/
def DR (s : Nat) (w : R2) (md : Nat → Int32) : Prop := DQ s w md ∧ CR s w
theorem read_go {tl mb : Nat → Int32} {K : Nat} (hT : TXE K tl mb) : ∀ (r p it s f f' : Nat) (td : Nat → Int32) (m4 : Int32) (u : R2) (md : Nat → Int32), p + r = K → it ≤ p → r < f → r < f' → DQ s u md → ∃ o o', zloop (b_X6_readInto_11 tl (nI K)) f (nI it, td, nI p, u) = some o ∧ zloop (b_X8_reads_35 (nI K) mb) f' (nI p, m4, md) = some o' ∧ o.1 = o'.1 ∧ SB o.2.2.2 ∧ (o.1 = -4 → ∃ s', DR s' o.2.2.2 o'.2.2.2) := by
  have hK := hT.1
  intro r
  induction r using Nat.strongRecOn with
  | ind r ih =>
    intro p it s f f' td m4 u md hp hit hf hf' hD
    obtain ⟨f, rfl⟩ : ∃ g, f = g + 1 := ⟨f - 1, by omega⟩
    obtain ⟨f', rfl⟩ : ∃ g, f' = g + 1 := ⟨f' - 1, by omega⟩
    rw [zloop_succ, zloop_succ]
    rcases Nat.lt_or_ge p K with hpK | hpK
    · have h200 : ¬ (200 : Int32) ≤ nI it := nI_ge (b := 200) (by omega) (by decide)
      have hge : ¬ nI K ≤ nI p := nI_ge hpK (by omega)
      rcases item_eq hT hpK hD td m4 with ⟨td', q, u', o', e1, e2, e3, e4⟩ | ⟨td', p', u', md', s', e1, e2, e3, e4, e5⟩
      · refine ⟨(nI p, td', q, u'), o', ?_, e3 _, e4.symm, e2, fun h => ?_⟩
        · unfold b_X6_readInto_11
          dsimp only
          rw [if_neg h200, if_neg hge, e1, zbd_s]
          simp only [zlet_d]
          rw [if_pos trivial]
        · exact absurd h (nI_nm4 (by omega))
      · have hC : b_X6_readInto_11 tl (nI K) (zloop (b_X6_readInto_11 tl (nI K)) f) (nI it, td, nI p, u) = zloop (b_X6_readInto_11 tl (nI K)) f (nI (it + 1), td', nI p', u') := by
          generalize zloop (b_X6_readInto_11 tl (nI K)) f = rc
          unfold b_X6_readInto_11
          dsimp only
          rw [if_neg h200, if_neg hge, e3, zbd_s, zlet_d, zlet_d, zlet_d, zlet_d, if_neg ne10, zlet_d, nI_1]
        rw [hC, e4]
        exact ih (K - p') (by omega) p' (it + 1) s' f f' td' 1 u' md' (by omega) (by omega) (by omega) (by omega) e5
    · obtain rfl : p = K := by omega
      obtain ⟨w, w1, w2, w3⟩ := reckon_eq u hD.1 hD.2.1.1
      have hw : DQ s w md := by
        obtain ⟨d1, ⟨d2, d3⟩, ⟨d4, d5⟩, ⟨d6, d7, d8⟩, d9, d10, d11, d12, d13⟩ := hD
        refine ⟨d1, ⟨by rw [w3 9 0 (by omega)]; exact d2, d3⟩, ⟨by rw [w3 9 1 (by omega)]; exact d4, by rw [w3 9 1 (by omega)]; exact d5⟩, ⟨by rw [w3 9 2 (by omega)]; exact d6, by rw [w3 8 0 (by omega)]; exact d7, by rw [w3 8 1 (by omega)]; exact d8⟩, d9, fun i hi k hk => by rw [w3 i k (by omega)]; exact d10 i hi k hk, fun i hi => ?_, fun i hi => by rw [w3 i 11 (by omega)]; exact d12 i hi, d13⟩
        rw [w3 i 0 (by omega), w3 i 1 (by omega), w3 i 2 (by omega), w3 i 3 (by omega), w3 i 4 (by omega), w3 i 5 (by omega), w3 i 6 (by omega), w3 i 7 (by omega), w3 i 8 (by omega), w3 i 9 (by omega), w3 i 10 (by omega)]
        exact d11 i hi
      refine ⟨(-4, td, nI p, w), (-4, nI p, m4, md), ?_, ?_, rfl, hw.2.2.2.2.2.2.2.1, fun _ => ⟨s, hw, w2⟩⟩
      · unfold b_X6_readInto_11 j_X6_readInto_50
        dsimp only
        rw [w1, zbd_s, if_pos (Int32.le_refl _)]
        by_cases c : (200 : Int32) ≤ nI it
        · rw [if_pos c]
        · rw [if_neg c]
      · unfold b_X8_reads_35
        dsimp only
        rw [if_pos (Int32.le_refl _)]
theorem clear_eq (m1 m4 : Int32) (mb md : Nat → Int32) : ∃ md0, f_X8_reads m1 m4 mb md = zloop (b_X8_reads_35 m1 mb) 1000 (nI 0, m4, md0) ∧ md0 1 = 1000 ∧ ∀ j, j < 114 → j ≠ 1 → md0 j = 0 := by
  obtain ⟨⟨x', z⟩, g, ⟨d1, d2⟩, he⟩ := zloop_run (b_X8_reads_2 m1 m4 mb) 114 (fun i s => s.1 = nI i ∧ ∀ j, j < i → s.2 j = 0) (by
    rintro i ⟨y, z⟩ hi ⟨g1, g2⟩
    dsimp only at g1 g2
    subst g1
    refine ⟨(nI (i + 1), upd z i 0), ⟨rfl, fun j hj => ?_⟩, fun rc => ?_⟩
    · show upd z i 0 j = 0
      by_cases e : j = i
      · subst e; rw [upd_s]
      · rw [upd_o e]; exact g2 j (by omega)
    · unfold b_X8_reads_2
      dsimp only
      have hne : ¬ (114 : Int32) ≤ nI i := nI_ge (b := 114) hi (by decide)
      rw [if_neg hne, zin_n (i := i) (n := 114) hi (by decide), zg_t, zn_n (i := i) (by omega), zlet_d, zlet_d, nI_1]) 114 0 1000 (0, md) (by omega) (by omega) ⟨nI_0.symm, fun j hj => absurd hj (by omega)⟩
  dsimp only at d1 d2
  have hle : (114 : Int32) ≤ x' := by rw [d1]; decide
  have he2 : b_X8_reads_2 m1 m4 mb (zloop (b_X8_reads_2 m1 m4 mb) g) (x', z) = j_X8_reads_21 m1 m4 mb z := by
    generalize zloop (b_X8_reads_2 m1 m4 mb) g = rc
    unfold b_X8_reads_2
    dsimp only
    rw [if_pos hle]
  refine ⟨upd z 1 1000, ?_, upd_s _ _ _, fun j h1 h2 => by rw [upd_o h2]; exact d2 j h1⟩
  unfold f_X8_reads
  rw [he, he2]
  unfold j_X8_reads_21
  rw [show zin 1 114 = true from by decide, zg_t, show zn 1 = 1 from by decide, zlet_d, zlet_d, nI_0]
theorem empty_eq {u : R2} (hu : SB u) : ∃ u0, f_X1_empty u = some u0 ∧ u0 9 0 = 0 ∧ u0 9 1 = 1000 ∧ u0 9 2 = 0 ∧ u0 8 0 = 0 ∧ u0 8 1 = 0 ∧ SB u0 := by
  unfold f_X1_empty f_X5_empty
  rw [zlet_d, zlet_d, zlet_d, zlet_d, zlet_d, zbd_s, zlet_d]
  refine ⟨_, rfl, ?_, ?_, ?_, zpLg_80, zpLg_81, fun j hj => ?_⟩
  · rw [zpLg_o (by decide) (by decide) (by decide) (by decide), z2_c (by decide), z2_c (by decide), z2_s]
  · rw [zpLg_o (by decide) (by decide) (by decide) (by decide), z2_c (by decide), z2_s]
  · rw [zpLg_o (by decide) (by decide) (by decide) (by decide), z2_s]
  · rw [zpLg_o (by omega) (by omega) (by omega) (by omega), z2_r (by omega), z2_r (by omega), z2_r (by omega)]
    exact hu j hj
theorem read_eq {tl mb : Nat → Int32} {K : Nat} {tn m1 : Int32} (hX : RTx K tl tn m1 mb) {u : R2} (hu : SB u) (td md : Nat → Int32) (m4 : Int32) : ∃ o o', f_X6_readInto tl td tn u = some o ∧ f_X8_reads m1 m4 mb md = some o' ∧ o.1 = o'.1 ∧ SB o.2.2.2 ∧ (o.1 = -4 → ∃ s, DR s o.2.2.2 o'.2.2.2) := by
  obtain ⟨x1, rfl, rfl, x4⟩ := hX
  obtain ⟨md0, c1, c2, c3⟩ := clear_eq (nI K) m4 mb md
  obtain ⟨u0, a1, a2, a3, a4, a5, a6, a7⟩ := empty_eq hu
  have hD : DQ 0 u0 md0 := ⟨by omega, ⟨a2, c3 0 (by decide) (by decide)⟩, ⟨by rw [a3, c2], by rw [a3]; exact ⟨by decide, by decide⟩⟩, ⟨a4, a5, a6⟩, fun j h1 h2 => c3 j (by omega) (by omega), fun i hi => absurd hi (by omega), fun i hi => absurd hi (by omega), a7, fun j h1 h2 => c3 j h2 (by omega)⟩
  obtain ⟨o, o', e1, e2, e3, e4, e5⟩ := read_go ⟨x1, fun k hk => (x4 k hk).1⟩ K 0 0 0 1000 1000 td m4 u0 md0 (by omega) (by omega) (by omega) (by omega) hD
  refine ⟨o, o', ?_, c1.trans e2, e3, e4, e5⟩
  unfold f_X6_readInto
  rw [a1, zbd_s, zlet_d, ← nI_0]
  exact e1
theorem st_fault {tl : Nat → Int32} {tn pn pz : Int32} {pl : Nat → R2} {v u : R2} {m1 m2 : Int32} {mb ms mp : Nat → Int32} (h : RR tl tn pn pz pl v u m1 m2 mb ms mp) (td md : Nat → Int32) (m4 : Int32) : ∃ o o', f_X7_fault tl td tn u = some o ∧ f_X8_fault m1 m4 mb md = some o' ∧ o.1 = o'.1 ∧ RR tl tn pn pz pl v o.2.2.2 m1 m2 mb ms mp := by
  obtain ⟨⟨K, hK⟩, h2, h3, h4⟩ := h
  obtain ⟨o, o', e1, e2, e3, e4, -⟩ := read_eq hK h4 td md m4
  unfold f_X7_fault f_X8_fault
  rw [e1, zbd_s, zlet_d, zlet_d, zlet_d, zlet_d, zlet_d, e2, zbd_s, zlet_d, zlet_d, zlet_d, zlet_d]
  exact ⟨_, _, rfl, rfl, e3, ⟨K, hK⟩, h2, h3, e4⟩
theorem lay_LR {s : Nat} (hs : 1 ≤ s) {w : R2} {md N : Nat → Int32} (h : DR s w md) (hN : ∀ j, j < 114 → N j = if j < 6 + 12 * s then md j else 0) : LR s 0 0 w N := by
  obtain ⟨⟨d1, ⟨d2, d3⟩, ⟨d4, d5⟩, ⟨d6, d7, d8⟩, d9, d10, d11, d12, d13⟩, hC⟩ := h
  have lo : ∀ j, j < 6 → N j = md j := fun j hj => by rw [hN j (by omega), if_pos (by omega)]
  refine ⟨⟨hs, d1⟩, ⟨d2, (lo 0 (by decide)).trans d3⟩, ⟨by omega, by omega, d6, (lo 2 (by decide)).trans (d9 2 (by decide) (by decide)), d7, (lo 3 (by decide)).trans (d9 3 (by decide) (by decide))⟩, ⟨d4.trans (lo 1 (by decide)).symm, d5⟩, d8.trans ((lo 4 (by decide)).trans (d9 4 (by decide) (by decide))).symm, ⟨(lo 5 (by decide)).trans (d9 5 (by decide) (by decide)), fun q hq => absurd hq (by omega)⟩, fun i hi k hk => ?_, hC, d11, d12⟩
  have hp := pm_lt hk
  rw [hN _ (by omega), if_pos (by omega)]
  exact d10 i hi k hk
theorem lay28_eq (m1 m4 m5 : Int32) (md ms : Nat → Int32) {s : Nat} (hs : s ≤ 4) (h0 : md 0 = nI s) : ∃ o, zloop (b_X8_lay_28 m1 m4 m5 md) 1000 (0, ms) = some o ∧ o.2.2.1 = 0 ∧ o.1 = o.2.2.2.2.2.1 0 ∧ ∀ j, j < 114 → o.2.2.2.2.2.1 j = if j < 6 + 12 * s then md j else 0 := by
  have ex : 6 + 12 * nI s = nI (6 + 12 * s) := by
    show nI 6 + nI 12 * nI s = _
    rw [pk_mul, nI_add]
  refine zloop_inv (b_X8_lay_28 m1 m4 m5 md) 114 (fun i z => z.1 = nI i ∧ ∀ j, j < i → z.2 j = if j < 6 + 12 * s then md j else 0) _ ?_ ?_ 114 0 1000 _ (by omega) (by omega) ?_
  · rintro ⟨x, w⟩ rc ⟨h1, h2⟩
    dsimp only at h1 h2
    unfold b_X8_lay_28 j_X8_lay_72
    dsimp only
    rw [h1, if_pos (by decide), zlet_d, z0i, zg_t, z0k]
    exact ⟨_, rfl, rfl, rfl, h2⟩
  · rintro i ⟨x, w⟩ hi ⟨h1, h2⟩
    dsimp only at h1 h2
    subst h1
    refine ⟨(nI (i + 1), upd w i (if i < 6 + 12 * s then md i else 0)), ⟨rfl, fun j hj => ?_⟩, fun rc => ?_⟩
    · show upd w i _ j = _
      by_cases e : j = i
      · subst e; rw [upd_s]
      · rw [upd_o e]; exact h2 j (by omega)
    · unfold b_X8_lay_28 j_X8_lay_65
      dsimp only
      have hne : ¬ (114 : Int32) ≤ nI i := nI_ge (b := 114) hi (by decide)
      rw [if_neg hne, z0i, zg_t, z0k, h0, ex, zin_n (i := i) (n := 114) hi (by decide), zg_t, zg_t, zg_t, zn_n (i := i) (by omega), zlet_d, zlet_d, zlet_d, zlet_d, nI_1]
      by_cases c : i < 6 + 12 * s
      · rw [if_neg (nI_ge c (by omega)), if_pos c]
      · rw [if_pos (nI_le (by omega) (by omega)), if_neg c]
  · exact ⟨nI_0.symm, fun j h => absurd h (by omega)⟩
theorem st_lay {tl : Nat → Int32} {tn pn pz : Int32} {pl : Nat → R2} {v u : R2} {m1 m2 : Int32} {mb ms mp : Nat → Int32} (h : RR tl tn pn pz pl v u m1 m2 mb ms mp) (td md : Nat → Int32) (m4 : Int32) : ∃ o o', f_X7_lay tl td tn pz v u = some o ∧ f_X8_lay m1 m2 m4 mb ms md = some o' ∧ o.1 = o'.1 ∧ RR tl tn pn o.2.2.2.1 pl o.2.2.2.2.1 o.2.2.2.2.2 m1 o'.2.2.1 mb o'.2.2.2.2.2.1 mp := by
  obtain ⟨⟨K, hK⟩, h2, h3, h4⟩ := id h
  obtain ⟨o, o', e1, e2, e3, e4, e5⟩ := read_eq hK h4 td md m4
  unfold f_X7_lay f_X8_lay
  rw [e1, zbd_s, zlet_d, zlet_d, zlet_d, zlet_d, zlet_d, e2, zbd_s, zlet_d, zlet_d, zlet_d, zlet_d, ← e3]
  by_cases c : o.1 = -4
  · obtain ⟨s, hD⟩ := e5 c
    rw [if_pos c, if_pos c, z0i, zg_t, z0k, hD.1.2.1.1, hD.1.2.1.2]
    rcases Nat.eq_zero_or_pos s with hs | hs
    · subst hs
      have e0 : nI 0 = (0 : Int32) := rfl
      rw [if_pos e0, if_pos e0]
      exact ⟨_, _, rfl, rfl, rfl, ⟨K, hK⟩, h2, h3, e4⟩
    · have e0 : ¬ nI s = (0 : Int32) := nI_ne0 hs (by have := hD.1.1; omega)
      obtain ⟨w, b1, b2⟩ := copy_eq v o.2.2.2 e4
      obtain ⟨oo, g1, g2, g3, g4⟩ := lay28_eq 0 o'.2.1 o'.2.2.1 o'.2.2.2 ms hD.1.1 hD.1.2.1.2
      have hL := lay_LR hs hD g4
      unfold f_X2_forget
      rw [if_neg e0, if_neg e0, b1, zbd_s, zlet_d, zbd_s]
      obtain ⟨P, q, hP⟩ := h3
      refine ⟨_, oo, rfl, g1, ?_, ⟨K, hK⟩, ⟨s, 0, 0, by omega, LR_v b2 hL⟩, ⟨0, q, by omega, hP.2.1, hP.2.2.1, rfl, ?_, fun k hk => absurd hk (by omega)⟩, e4⟩
      · show w 9 0 = oo.1
        rw [g3, hL.2.1.2, b2.2.2.2.1, hL.2.1.1]
      · rw [g2]; rfl
  · rw [if_neg c, if_neg c]
    exact ⟨_, _, rfl, rfl, rfl, ⟨K, hK⟩, h2, h3, e4⟩
