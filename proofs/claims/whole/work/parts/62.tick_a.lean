/-! ===== pure: a tick, its pieces ===== -/
theorem zloop_run {σ ρ : Type} (b : (σ → Option ρ) → σ → Option ρ) (n : Nat) (I : Nat → σ → Prop)
    (hstep : ∀ (i : Nat) (s : σ), i < n → I i s → ∃ t, I (i + 1) t ∧ ∀ rc : σ → Option ρ, b rc s = rc t) :
    ∀ (k i f : Nat) (s : σ), i + k = n → k < f → I i s → ∃ s' g, I n s' ∧ zloop b f s = b (zloop b g) s' := by
  intro k
  induction k with
  | zero =>
    intro i f s hi hf h
    obtain ⟨f, rfl⟩ : ∃ g, f = g + 1 := ⟨f - 1, by omega⟩
    obtain rfl : i = n := by omega
    exact ⟨s, f, h, rfl⟩
  | succ k ih =>
    intro i f s hi hf h
    obtain ⟨f, rfl⟩ : ∃ g, f = g + 1 := ⟨f - 1, by omega⟩
    obtain ⟨t, ht, hb⟩ := hstep i s (by omega) h
    obtain ⟨s', g, h1, h2⟩ := ih (i + 1) f t (by omega) (by omega) ht
    exact ⟨s', g, h1, (hb (zloop b f)).trans h2⟩
theorem wF_eqv {g g' : Nat → Int32} (h : g' 1 = g 1 ∧ g' 2 = g 2 ∧ g' 4 = g 4 ∧ g' 12 = g 12 ∧ g' 14 = g 14) : wF g' = wF g := by
  obtain ⟨h1, h2, h4, h12, h14⟩ := h
  unfold wF jF
  rw [h1, h2, h4, h12, h14]
theorem cF_eqv {g g' : Nat → Int32} (h : g' 1 = g 1 ∧ g' 2 = g 2 ∧ g' 4 = g 4 ∧ g' 12 = g 12 ∧ g' 14 = g 14) (h7 : g' 7 = g 7) (h11 : g' 11 = g 11) : cF g' = cF g := by
  unfold cF
  rw [wF_eqv h, h7, h11]
theorem coF_o (g : Nat → Int32) {c : Nat} (h8 : c ≠ 8) (h9 : c ≠ 9) : coF g c = g c := by
  unfold coF
  rw [upd_o h9, upd_o h8]
theorem coF_8 (g : Nat → Int32) : coF g 8 = (if wF g = 0 then 0 else if wF g = g 9 then g 8 + 1 else 1) := by
  unfold coF
  rw [upd_o (by decide), upd_s]
theorem coF_9 (g : Nat → Int32) : coF g 9 = wF g := by
  unfold coF
  rw [upd_s]
theorem wF_co (g : Nat → Int32) : wF (coF g) = wF g := wF_eqv ⟨coF_o g (by decide) (by decide), coF_o g (by decide) (by decide), coF_o g (by decide) (by decide), coF_o g (by decide) (by decide), coF_o g (by decide) (by decide)⟩
theorem cF_co (g : Nat → Int32) : cF (coF g) = cF g := cF_eqv ⟨coF_o g (by decide) (by decide), coF_o g (by decide) (by decide), coF_o g (by decide) (by decide), coF_o g (by decide) (by decide), coF_o g (by decide) (by decide)⟩ (coF_o g (by decide) (by decide)) (coF_o g (by decide) (by decide))
/-- whether a stage's count is full -/
def clF (g : Nat → Int32) : Int32 := if coF g 8 < g 3 then 0 else 1
theorem runA_eq (v : R2) {n : Nat} (hn : n ≤ 4) (h0 : v 9 0 = nI n) : ∃ w, f_X1_runTick v = j_X1_runTick_57 w ∧ (∀ j, j < n → w j = coF (v j)) ∧ (∀ j, n ≤ j → j ≠ 4 → w j = v j) ∧ ∀ j, j < n → w 4 j = clF (v j) := by
  obtain ⟨⟨x, w⟩, g, ⟨h1, h2, h3, h4⟩, he⟩ := zloop_run b_X1_runTick_2 n (fun k s => s.1 = nI k ∧ (∀ j, j < k → s.2 j = coF (v j)) ∧ (∀ j, k ≤ j → j ≠ 4 → s.2 j = v j) ∧ ∀ j, j < k → s.2 4 j = clF (v j)) (by
    rintro k ⟨x, w⟩ hk ⟨h1, h2, h3, h4⟩
    dsimp only at h1 h2 h3 h4
    subst h1
    have a4 : k < 4 := by omega
    refine ⟨(nI (k + 1), va_up (va_up w k (coF (v k))) 4 (upd (w 4) k (clF (v k)))), ⟨rfl, fun j hj => ?_, fun j hj hj4 => ?_, fun j hj => ?_⟩, fun rc => ?_⟩
    · show va_up (va_up w k _) 4 _ j = _
      rw [vau_o (by omega)]
      by_cases e : j = k
      · subst e; rw [vau_s]
      · rw [vau_o e]; exact h2 j (by omega)
    · show va_up (va_up w k _) 4 _ j = _
      rw [vau_o hj4, vau_o (by omega)]
      exact h3 j (by omega) hj4
    · show va_up (va_up w k (coF (v k))) 4 (upd (w 4) k (clF (v k))) 4 j = _
      rw [vau_s]
      by_cases e : j = k
      · subst e; rw [upd_s]
      · rw [upd_o e]; exact h4 j (by omega)
    · have e9 : w 9 0 = nI n := by rw [h3 9 (by omega) (by decide)]; exact h0
      have ek : w k = v k := h3 k (Nat.le_refl k) (by omega)
      have e4 : va_up w k (coF (v k)) 4 = w 4 := vau_o (by omega)
      unfold b_X1_runTick_2 j_X1_runTick_50
      dsimp only
      rw [if_neg (show ¬ w 9 0 ≤ nI k by rw [e9]; exact nI_ge hk (by omega)), z4 a4, zg_t, n4 a4, ek, coF_eq, zbd_s, zlet_d, zg_t, zg_t, vau_s, coF_o (v k) (c := 3) (by decide) (by decide), zg_t, zg_t, zlet_d, zlet_d, zlet_d, zlet_d, nI_1, nar0, nar1, e4]
      unfold clF
      split <;> rfl) n 0 1000 (0, v) (by omega) (by omega) ⟨nI_0.symm, fun j h => absurd h (by omega), fun _ _ _ => rfl, fun j h => absurd h (by omega)⟩
  dsimp only at h1 h2 h3 h4
  refine ⟨w, ?_, h2, h3, h4⟩
  unfold f_X1_runTick
  rw [he]
  unfold b_X1_runTick_2
  dsimp only
  have e9 : w 9 0 = nI n := by rw [h3 9 (by omega) (by decide)]; exact h0
  rw [if_pos (show w 9 0 ≤ x by rw [e9, h1]; exact Int32.le_refl _)]
theorem counts_eq (v : R2) (ms mw mk : Nat → Int32) {n : Nat} (hn : n ≤ 4) (hM : ms 0 = nI n) (hF : FR n v ms) (hw : ∀ i, i < n → mw i = wF (v i)) : ∃ o, f_X8_counts ms mw mk = some o ∧ (∀ j, j < n → o.1 (6 + 12 * j + 9) = coF (v j) 8 ∧ o.1 (6 + 12 * j + 10) = wF (v j) ∧ o.2 j = clF (v j)) ∧ ∀ x, (∀ j, j < n → x ≠ 6 + 12 * j + 9 ∧ x ≠ 6 + 12 * j + 10) → o.1 x = ms x := by
  unfold f_X8_counts
  refine zloop_inv (b_X8_counts_2 mw) n (fun k s => s.1 = nI k ∧ (∀ j, j < k → s.2.1 (6 + 12 * j + 9) = coF (v j) 8 ∧ s.2.1 (6 + 12 * j + 10) = wF (v j) ∧ s.2.2 j = clF (v j)) ∧ ∀ x, (∀ j, j < k → x ≠ 6 + 12 * j + 9 ∧ x ≠ 6 + 12 * j + 10) → s.2.1 x = ms x) _ ?_ ?_ n 0 1000 _ (by omega) (by omega) ?_
  · rintro ⟨x, N, c⟩ rc ⟨h1, h2, h3⟩
    dsimp only at h1 h2 h3
    unfold b_X8_counts_2
    dsimp only
    rw [z0i, zg_t, z0k, if_pos (show N 0 ≤ x by rw [h3 0 (fun j _ => by omega), hM, h1]; exact Int32.le_refl _)]
    exact ⟨_, rfl, h2, h3⟩
  · rintro k ⟨x, N, c⟩ hk ⟨h1, h2, h3⟩
    dsimp only at h1 h2 h3
    subst h1
    have a4 : k < 4 := by omega
    refine ⟨(nI (k + 1), upd (upd N (6 + 12 * k + 9) (coF (v k) 8)) (6 + 12 * k + 10) (wF (v k)), upd c k (clF (v k))), ⟨rfl, fun j hj => ?_, fun x hx => ?_⟩, fun rc => ?_⟩
    · show upd (upd N _ _) _ _ (6 + 12 * j + 9) = _ ∧ upd (upd N _ _) _ _ (6 + 12 * j + 10) = _ ∧ upd c k _ j = _
      by_cases e : j = k
      · subst e
        rw [upd_o (by omega), upd_s, upd_s, upd_s]
        exact ⟨rfl, rfl, rfl⟩
      · rw [upd_o (by omega), upd_o (by omega), upd_o (by omega), upd_o (by omega), upd_o e]
        exact h2 j (by omega)
    · show upd (upd N _ _) _ _ x = ms x
      obtain ⟨q1, q2⟩ := hx k (by omega)
      rw [upd_o q2, upd_o q1]
      exact h3 x (fun j hj => hx j (by omega))
    · have f9 : N (6 + 12 * k + 9) = v k 8 := by rw [h3 _ (fun j _ => by omega)]; exact (hF k hk 8 (by decide)).symm
      have f10 : N (6 + 12 * k + 10) = v k 9 := by rw [h3 _ (fun j _ => by omega)]; exact (hF k hk 9 (by decide)).symm
      have f3 : N (6 + 12 * k + 3) = v k 3 := by rw [h3 _ (fun j _ => by omega)]; exact (hF k hk 3 (by decide)).symm
      have key : ∀ t1 : Int32, j_X8_counts_58 mw rc (nI k, N, c) t1 = rc (nI (k + 1), upd (upd N (6 + 12 * k + 9) t1) (6 + 12 * k + 10) (wF (v k)), upd c k (if t1 < v k 3 then 0 else 1)) := fun t1 => by
        unfold j_X8_counts_58 j_X8_counts_100
        dsimp only
        rw [puts_9 N a4, zbd_s, z4 a4, zg_t, n4 a4, hw k hk, puts_10 _ a4, zbd_s, of_9 _ a4, zbd_s, of_3 _ a4, zbd_s, upd_o (by omega), upd_s, upd_o (by omega), upd_o (by omega), f3, zg_t, zg_t, zlet_d, zlet_d, zlet_d, zlet_d, nI_1, nar0, nar1]
        split <;> rfl
      unfold b_X8_counts_2
      dsimp only
      rw [z0i, zg_t, z0k, if_neg (show ¬ N 0 ≤ nI k by rw [h3 0 (fun j _ => by omega), hM]; exact nI_ge hk (by omega)), z4 a4, zg_t, zg_t, n4 a4, hw k hk, of_10 N a4, zbd_s, f10, of_9 N a4, zbd_s, f9, key, key, key]
      unfold clF
      rw [coF_8]
      by_cases c1 : wF (v k) = 0
      · rw [if_pos c1, if_pos c1]
      · rw [if_neg c1, if_neg c1]
        by_cases c2 : wF (v k) = v k 9
        · rw [if_pos c2, if_pos c2]
        · rw [if_neg c2, if_neg c2]
  · exact ⟨nI_0.symm, fun j h => absurd h (by omega), fun _ _ => rfl⟩
/-! passing calls on -/
def nxF (W : Nat → Int32) : Nat → Nat → Nat
  | 0, k => k
  | r + 1, k => if W k = 0 then nxF W r (k + 1) else k
theorem nxF_le (W : Nat → Int32) {n : Nat} : ∀ (r k : Nat), k + r = n → k ≤ nxF W r k ∧ nxF W r k ≤ n := by
  intro r
  induction r with
  | zero => intro k h; exact ⟨Nat.le_refl _, by show k ≤ n; omega⟩
  | succ r ih =>
    intro k h
    show k ≤ (if W k = 0 then nxF W r (k + 1) else k) ∧ (if W k = 0 then nxF W r (k + 1) else k) ≤ n
    split
    · have := ih (k + 1) (by omega); omega
    · omega
theorem callNext_eq (w : R2) (W : Nat → Int32) {n : Nat} (hn : n ≤ 4) (h0 : w 9 0 = nI n) (hW : ∀ k, k < n → wF (w k) = W k) : ∀ (r k f : Nat), k + r = n → r < f → zloop (b_X1_callNextBehind_4 w) f (nI k) = some (if nxF W r k < n then va_up w 4 (upd (w 4) (nxF W r k) 1) else w) := by
  intro r
  induction r with
  | zero =>
    intro k f hk hf
    obtain ⟨f, rfl⟩ : ∃ g, f = g + 1 := ⟨f - 1, by omega⟩
    show b_X1_callNextBehind_4 w (zloop (b_X1_callNextBehind_4 w) f) (nI k) = _
    unfold b_X1_callNextBehind_4
    rw [h0, if_pos (nI_le (by omega) (by omega)), if_neg (show ¬ nxF W 0 k < n from by show ¬ k < n; omega)]
  | succ r ih =>
    intro k f hk hf
    obtain ⟨f, rfl⟩ : ∃ g, f = g + 1 := ⟨f - 1, by omega⟩
    have a4 : k < 4 := by omega
    have h1 : b_X1_callNextBehind_4 w (zloop (b_X1_callNextBehind_4 w) f) (nI k) = if W k = 0 then zloop (b_X1_callNextBehind_4 w) f (nI (k + 1)) else some (va_up w 4 (upd (w 4) k 1)) := by
      generalize zloop (b_X1_callNextBehind_4 w) f = rc
      unfold b_X1_callNextBehind_4 j_X1_callNextBehind_24
      rw [h0, if_neg (nI_ge (show k < n by omega) (by omega)), z4 a4, zg_t, zg_t, n4 a4, wF_eq, zbd_s, hW k (by omega), zlet_d, zlet_d, nI_1, nar1]
    show b_X1_callNextBehind_4 w (zloop (b_X1_callNextBehind_4 w) f) (nI k) = _
    rw [h1]
    show _ = some (if (if W k = 0 then nxF W r (k + 1) else k) < n then va_up w 4 (upd (w 4) (if W k = 0 then nxF W r (k + 1) else k) 1) else w)
    by_cases c : W k = 0
    · rw [if_pos c, if_pos c]
      exact ih (k + 1) f (by omega) (by omega)
    · rw [if_neg c, if_neg c, if_pos (by omega)]
theorem pass34_eq (ms mw : Nat → Int32) (rc : Int32 × (Nat → Int32) → Option (Nat → Int32)) (i : Nat) (c : Nat → Int32) (W : Nat → Int32) {n : Nat} (hn : n ≤ 4) (h0 : ms 0 = nI n) (hW : ∀ k, k < n → mw k = W k) : ∀ (r k f : Nat), k + r = n → r < f → zloop (b_X8_passesOn_34 ms mw rc (nI i, c)) f (nI k) = rc (nI (i + 1), if nxF W r k < n then upd c (nxF W r k) 1 else c) := by
  have j59 : ∀ k, k ≤ n → j_X8_passesOn_59 ms rc (nI i, c) (nI k) = rc (nI (i + 1), if k < n then upd c k 1 else c) := fun k hk => by
    unfold j_X8_passesOn_59 j_X8_passesOn_76
    dsimp only
    rw [z0i, zg_t, z0k, h0, nI_1]
    by_cases h : k < n
    · rw [if_neg (nI_ge h (by omega)), z4 (show k < 4 by omega), zg_t, n4 (show k < 4 by omega), zlet_d, zlet_d, nar1, if_pos h]
    · rw [if_pos (nI_le (by omega) (by omega)), zlet_d, if_neg h]
  intro r
  induction r with
  | zero =>
    intro k f hk hf
    obtain ⟨f, rfl⟩ : ∃ g, f = g + 1 := ⟨f - 1, by omega⟩
    show b_X8_passesOn_34 ms mw rc (nI i, c) (zloop (b_X8_passesOn_34 ms mw rc (nI i, c)) f) (nI k) = _
    unfold b_X8_passesOn_34
    rw [z0i, zg_t, z0k, h0, if_pos (nI_le (by omega) (by omega)), j59 k (by omega)]
    rfl
  | succ r ih =>
    intro k f hk hf
    obtain ⟨f, rfl⟩ : ∃ g, f = g + 1 := ⟨f - 1, by omega⟩
    have a4 : k < 4 := by omega
    have h1 : b_X8_passesOn_34 ms mw rc (nI i, c) (zloop (b_X8_passesOn_34 ms mw rc (nI i, c)) f) (nI k) = if W k = 0 then zloop (b_X8_passesOn_34 ms mw rc (nI i, c)) f (nI (k + 1)) else rc (nI (i + 1), if k < n then upd c k 1 else c) := by
      generalize zloop (b_X8_passesOn_34 ms mw rc (nI i, c)) f = rc'
      unfold b_X8_passesOn_34
      rw [z0i, zg_t, z0k, h0, if_neg (nI_ge (show k < n by omega) (by omega)), z4 a4, zg_t, n4 a4, hW k (by omega), zlet_d, nI_1, j59 k (by omega)]
    show b_X8_passesOn_34 ms mw rc (nI i, c) (zloop (b_X8_passesOn_34 ms mw rc (nI i, c)) f) (nI k) = _
    rw [h1]
    show _ = rc (nI (i + 1), if (if W k = 0 then nxF W r (k + 1) else k) < n then upd c (if W k = 0 then nxF W r (k + 1) else k) 1 else c)
    by_cases c : W k = 0
    · rw [if_pos c, if_pos c]
      exact ih (k + 1) f (by omega) (by omega)
    · rw [if_neg c, if_neg c]
theorem pass_eq (w : R2) (N mw mn mk : Nat → Int32) (W C K0 : Nat → Int32) {n : Nat} (hn : n ≤ 4) (h0 : w 9 0 = nI n) (hN : N 0 = nI n) (hw : ∀ k, k < n → wF (w k) = W k ∧ cF (w k) = C k ∧ mw k = W k ∧ mn k = C k) (hk : ∀ k, k < n → w 4 k = mk k ∧ mk k = K0 k) : ∃ w' mk', f_X1_passCallsOn w = some w' ∧ f_X8_passesOn N mw mn mk = some mk' ∧ (∀ j, j ≠ 4 → w' j = w j) ∧ (∀ k, k < n → w' 4 k = mk' k ∧ (mk' k = 0 → K0 k = 0)) := by
  unfold f_X1_passCallsOn f_X8_passesOn
  refine (zloop_sim b_X1_passCallsOn_2 (b_X8_passesOn_2 N mw mn) n (fun i s s' => s.1 = nI i ∧ s'.1 = nI i ∧ (∀ j, j ≠ 4 → s.2 j = w j) ∧ ∀ k, k < n → s.2 4 k = s'.2 k ∧ (s'.2 k = 0 → K0 k = 0)) (fun r r' => (∀ j, j ≠ 4 → r j = w j) ∧ ∀ k, k < n → r 4 k = r' k ∧ (r' k = 0 → K0 k = 0)) ?_ ?_ n 0 1000 1000 (0, w) (0, mk) (by omega) (by omega) (by omega) ?_).elim fun r hr => hr.elim fun r' hr => ⟨r, r', hr.1, hr.2.1, hr.2.2⟩
  · rintro ⟨x, z⟩ ⟨y, c⟩ rc rc' ⟨h1, h2, h3, h4⟩
    dsimp only at h1 h2 h3 h4
    unfold b_X1_passCallsOn_2 b_X8_passesOn_2
    dsimp only
    rw [if_pos (show z 9 0 ≤ x by rw [h3 9 (by decide), h0, h1]; exact Int32.le_refl _), z0i, zg_t, z0k, hN, h2, if_pos (Int32.le_refl _)]
    exact ⟨_, _, rfl, rfl, h3, h4⟩
  · rintro i ⟨x, z⟩ ⟨y, c⟩ hi ⟨h1, h2, h3, h4⟩
    dsimp only at h1 h2 h3 h4
    subst h1
    subst h2
    have a4 : i < 4 := by omega
    obtain ⟨hk1, hk2⟩ := h4 i hi
    have z9 : z 9 0 = nI n := by rw [h3 9 (by decide)]; exact h0
    have zi : z i = w i := h3 i (by omega)
    by_cases c1 : c i = 0
    · refine ⟨(nI (i + 1), z), (nI (i + 1), c), ⟨rfl, rfl, h3, h4⟩, fun rc => ?_, fun rc => ?_⟩
      · unfold b_X1_passCallsOn_2 j_X1_passCallsOn_36
        dsimp only
        rw [if_neg (show ¬ z 9 0 ≤ nI i by rw [z9]; exact nI_ge hi (by omega)), z4 a4, zg_t, n4 a4, if_pos (hk1.trans c1), zlet_d, nI_1]
      · unfold b_X8_passesOn_2 j_X8_passesOn_76
        dsimp only
        rw [z0i, zg_t, z0k, hN, if_neg (nI_ge hi (by omega)), z4 a4, zg_t, n4 a4, if_pos c1, zlet_d, nI_1]
    · by_cases c2 : C i = 0
      · have nn := nxF_le W (n := n) (n - (i + 1)) (i + 1) (by omega)
        refine ⟨(nI (i + 1), if nxF W (n - (i + 1)) (i + 1) < n then va_up z 4 (upd (z 4) (nxF W (n - (i + 1)) (i + 1)) 1) else z), (nI (i + 1), if nxF W (n - (i + 1)) (i + 1) < n then upd c (nxF W (n - (i + 1)) (i + 1)) 1 else c), ⟨rfl, rfl, fun j hj => ?_, fun k hk => ?_⟩, fun rc => ?_, fun rc => ?_⟩
        · show (if nxF W (n - (i + 1)) (i + 1) < n then va_up z 4 (upd (z 4) (nxF W (n - (i + 1)) (i + 1)) 1) else z) j = w j
          split
          · rw [vau_o hj]; exact h3 j hj
          · exact h3 j hj
        · show (if nxF W (n - (i + 1)) (i + 1) < n then va_up z 4 (upd (z 4) (nxF W (n - (i + 1)) (i + 1)) 1) else z) 4 k = (if nxF W (n - (i + 1)) (i + 1) < n then upd c (nxF W (n - (i + 1)) (i + 1)) 1 else c) k ∧ ((if nxF W (n - (i + 1)) (i + 1) < n then upd c (nxF W (n - (i + 1)) (i + 1)) 1 else c) k = 0 → K0 k = 0)
          split
          · rw [vau_s]
            by_cases e : k = nxF W (n - (i + 1)) (i + 1)
            · rw [← e, upd_s, upd_s]; exact ⟨rfl, fun q => absurd q ne10⟩
            · rw [upd_o e, upd_o e]; exact h4 k hk
          · exact h4 k hk
        · unfold b_X1_passCallsOn_2 j_X1_passCallsOn_36 f_X1_callNextBehind
          dsimp only
          rw [if_neg (show ¬ z 9 0 ≤ nI i by rw [z9]; exact nI_ge hi (by omega)), z4 a4, zg_t, zg_t, n4 a4, if_neg (show ¬ z 4 i = 0 by rw [hk1]; exact c1), zi, cF_eq, zbd_s, (hw i hi).2.1, if_pos c2, zlet_d, nI_1, callNext_eq z W hn z9 (fun k hk => by rw [h3 k (by omega)]; exact (hw k hk).1) (n - (i + 1)) (i + 1) 1000 (by omega) (by omega), zbd_s, zlet_d]
        · unfold b_X8_passesOn_2
          dsimp only
          rw [z0i, zg_t, z0k, hN, if_neg (nI_ge hi (by omega)), z4 a4, zg_t, zg_t, n4 a4, if_neg c1, (hw i hi).2.2.2, if_pos c2, zlet_d, nI_1, pass34_eq N mw rc i c W hn hN (fun k hk => (hw k hk).2.2.1) (n - (i + 1)) (i + 1) 1000 (by omega) (by omega)]
      · refine ⟨(nI (i + 1), z), (nI (i + 1), c), ⟨rfl, rfl, h3, h4⟩, fun rc => ?_, fun rc => ?_⟩
        · unfold b_X1_passCallsOn_2 j_X1_passCallsOn_36
          dsimp only
          rw [if_neg (show ¬ z 9 0 ≤ nI i by rw [z9]; exact nI_ge hi (by omega)), z4 a4, zg_t, zg_t, n4 a4, if_neg (show ¬ z 4 i = 0 by rw [hk1]; exact c1), zi, cF_eq, zbd_s, (hw i hi).2.1, if_neg c2, zlet_d, nI_1]
        · unfold b_X8_passesOn_2 j_X8_passesOn_76
          dsimp only
          rw [z0i, zg_t, z0k, hN, if_neg (nI_ge hi (by omega)), z4 a4, zg_t, zg_t, n4 a4, if_neg c1, (hw i hi).2.2.2, if_neg c2, zlet_d, nI_1]
  · exact ⟨nI_0.symm, nI_0.symm, fun _ _ => rfl, fun k hk' => ⟨(hk k hk').1, fun q => (hk k hk').2 ▸ q⟩⟩
