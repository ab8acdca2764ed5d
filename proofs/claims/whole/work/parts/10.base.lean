/-! ===== the base of all contracts here: options that say what code does, worlds cut and joined, one row an instruction ===== -/
def zlet {α ρ : Type} (x : α) (k : α → Option ρ) : Option ρ := k x
def zg {ρ : Type} (b : Bool) (x : Option ρ) : Option ρ := match b with
  | true => x
  | false => none
def zbd {α ρ : Type} (x : Option α) (k : α → Option ρ) : Option ρ := match x with
  | some a => k a
  | none => none
def zloop {σ ρ : Type} (body : (σ → Option ρ) → σ → Option ρ) : Nat → σ → Option ρ
  | 0, _ => none
  | n + 1, s => body (zloop body n) s
theorem zg_some {ρ : Type} {b : Bool} {x : Option ρ} {o : ρ} (h : zg b x = some o) : b = true ∧ x = some o := by
  cases b with
  | true => exact ⟨rfl, h⟩
  | false => exact absurd h (fun h => nomatch h)
theorem zbd_some {α ρ : Type} {x : Option α} {k : α → Option ρ} {o : ρ} (h : zbd x k = some o) : ∃ a, x = some a ∧ k a = some o := by
  cases x with
  | some a => exact ⟨a, rfl, h⟩
  | none => exact absurd h (fun h => nomatch h)
theorem zloop_0 {σ ρ : Type} {body : (σ → Option ρ) → σ → Option ρ} {s : σ} {o : ρ} (h : zloop body 0 s = some o) : False := nomatch h
def zin (i : Int32) (n : Nat) : Bool := decide (¬ (i < 0 ∨ n ≤ i.toNatClampNeg))
theorem zin_in {i : Int32} {n : Nat} (h : zin i n = true) : vp_in i n := by
  have h1 : ¬ (i < 0 ∨ n ≤ i.toNatClampNeg) := of_decide_eq_true h
  exact h1
theorem zin_lt {i : Int32} {n : Nat} (h : zin i n = true) : i.toNatClampNeg < n := Nat.not_le.mp fun q => zin_in h (Or.inr q)
abbrev zn (i : Int32) : Nat := i.toNatClampNeg
abbrev R2 : Type := Nat → Nat → Int32
def z2 (v : R2) (r c : Nat) (x : Int32) : R2 := va_up v r (upd (v r) c x)
/-- the tables' classes of arrays: bytes, ints, longs, booleans, lines, stages -/
abbrev zT (cy : Nat → ClassId) : List (ClassId × FieldType) := [(cy 0, .byte), (cy 1, .int), (cy 2, .long), (cy 3, .boolean), (cy 4, .object "TapCascade$Line"), (cy 5, .object "TapCascade$Stage")]
def z_lo (j : Nat) : Int32 := match j with
  | 0 => 1
  | 1 => 800
  | 2 => 1
  | 3 => 1
  | 4 => 0
  | 5 => -50
  | _ => 0
def z_hi (j : Nat) : Int32 := match j with
  | 0 => 50
  | 1 => 1200
  | 2 => 99
  | 3 => 9
  | 4 => 2
  | 5 => 50
  | _ => 9
/-- links to a nest mate's own members -/
def zNw (U : State) : Prop := va_Nw (.fieldLinkNest RX4 9 "TapCascade" "LEAST_TOLD" "[I" "TapCascade") U ∧ va_Nw (.fieldLinkNest RX6 15 "TapCascade" "LEAST_TOLD" "[I" "TapCascade") U ∧ va_Nw (.fieldLinkNest RX6 57 "TapCascade" "MOST_TOLD" "[I" "TapCascade") U ∧ va_Nw (.methodLinkNest RX1 66 yX7_outOf "TapCascade") U ∧ va_Nw (.methodLinkNest RX1 80 yX7_lostBetween "TapCascade") U ∧ va_Nw (.methodLinkNest RX3 57 yX7_outOf "TapCascade") U
theorem zNw.same {u U : State} (h : u.vm = U.vm) (q : zNw u) : zNw U := ⟨q.1.same rfl h, q.2.1.same rfl h, q.2.2.1.same rfl h, q.2.2.2.1.same rfl h, q.2.2.2.2.1.same rfl h, q.2.2.2.2.2.same rfl h⟩
theorem zNw.warm {s U : State} (hW : s.WarmedH U.vm) (q : zNw s) : zNw U := ⟨q.1.warmF hW, q.2.1.warmF hW, q.2.2.1.warmF hW, q.2.2.2.1.warmM hW, q.2.2.2.2.1.warmM hW, q.2.2.2.2.2.warmM hW⟩
/-- the first text, byte by byte -/
def zFT : List Int32 := [118, 49, 48, 49, 48, 59, 115, 49, 48, 44, 49, 48, 48, 48, 44, 49, 50, 44, 50, 44, 48, 44, 50, 48, 44, 56, 59, 115, 49, 53, 44, 49, 48, 48, 48, 44, 49, 54, 44, 51, 44, 50, 44, 49, 53, 44, 57, 59, 115, 50, 48, 44, 57, 57, 48, 44, 50, 53, 44, 53, 44, 49, 44, 45, 49, 50, 44, 54, 59, 115, 49, 50, 44, 57, 56, 53, 44, 50, 48, 44, 54, 44, 48, 44, 49, 56, 44, 52, 59]
def zFTs : String := "v1010;s10,1000,12,2,0,20,8;s15,1000,16,3,2,15,9;s20,990,25,5,1,-12,6;s12,985,20,6,0,18,4;"
/-- the text's own cells, the JDK's statics, the words of array classes -/
def zSX (st : Nat → Nat) (A : Nat → Prop) (U : State) (H : Heap) : Prop := (va_O "java/lang/String" (st 2) A U H ∧ va_OF "java/lang/String" "coder" "B" (.int 0) (st 2) A U H ∧ va_OF "java/lang/String" "value" "[B" (.ref (st 3)) (st 2) A U H ∧ va_T .byte (st 3) 89 (fun j => .int (zFT.getD j 0)) A U H) ∧ (va_Z "java/lang/String" "COMPACT_STRINGS" "Z" (.int 1) A U H ∧ va_Zq "jdk/internal/util/Preconditions" "SIOOBE_FORMATTER" "Ljava/util/function/BiFunction;" A U H) ∧ (vk_R RX7 47 zFTs (st 2) U ∧ va_AO RX4 U ∧ va_AO RX1 U)
theorem zSX.warm {st : Nat → Nat} {A : Nat → Prop} {u U : State} {H : Heap} (hW : u.WarmedH U.vm) (h : zSX st A u H) : zSX st A U H := ⟨⟨h.1.1.moved hW.alike, h.1.2.1.moved hW.alike, h.1.2.2.1.moved hW.alike, h.1.2.2.2.moved hW.alike⟩, ⟨h.2.1.1.moved hW.alike, h.2.1.2.moved hW.alike⟩, h.2.2.1.warm hW, h.2.2.2.1.moved hW.alike, h.2.2.2.2.moved hW.alike⟩
theorem zSX.same {st : Nat → Nat} {A : Nat → Prop} {u U : State} {H : Heap} (hvm : u.vm.Alike U.vm) (he : u.vm = U.vm) (h : zSX st A u H) : zSX st A U H := ⟨⟨h.1.1.moved hvm, h.1.2.1.moved hvm, h.1.2.2.1.moved hvm, h.1.2.2.2.moved hvm⟩, ⟨h.2.1.1.moved hvm, h.2.1.2.moved hvm⟩, h.2.2.1.same he.symm, h.2.2.2.1.moved hvm, h.2.2.2.2.moved hvm⟩
theorem zSX.kept {st : Nat → Nat} {A : Nat → Prop} {U : State} {H H1 : Heap} (h : zSX st A U H) (hq : ∀ a : Nat, a < H.size → ¬ A a → H1[a]? = H[a]?) : zSX st A U H1 := ⟨⟨h.1.1.kept hq, h.1.2.1.kept hq, h.1.2.2.1.kept hq, h.1.2.2.2.kept hq⟩, ⟨h.2.1.1.kept hq, h.2.1.2.kept hq⟩, h.2.2⟩
theorem zSX.narrow {st : Nat → Nat} {A B : Nat → Prop} {U : State} {H : Heap} (h : zSX st A U H) (hAB : ∀ q, B q → A q) : zSX st B U H := ⟨⟨h.1.1.narrow hAB, h.1.2.1.narrow hAB, h.1.2.2.1.narrow hAB, h.1.2.2.2.narrow hAB⟩, ⟨h.2.1.1.narrow hAB, h.2.1.2.narrow hAB⟩, h.2.2⟩
/-- the two static rows of the class, the links, the first text -/
def z_SE (st : Nat → Nat) (A : Nat → Prop) (U : State) (H : Heap) : Prop := (va_Z "TapCascade" "LEAST_TOLD" "[I" (.ref (st 0)) A U H ∧ va_T .int (st 0) 7 (fun j => .int (z_lo j)) A U H) ∧ (va_Z "TapCascade" "MOST_TOLD" "[I" (.ref (st 1)) A U H ∧ va_T .int (st 1) 7 (fun j => .int (z_hi j)) A U H) ∧ zNw U ∧ zSX st A U H
theorem z_SE.warm {st : Nat → Nat} {A : Nat → Prop} {u U : State} {H : Heap} (hW : u.WarmedH U.vm) (h : z_SE st A u H) : z_SE st A U H := ⟨⟨h.1.1.moved hW.alike, h.1.2.moved hW.alike⟩, ⟨h.2.1.1.moved hW.alike, h.2.1.2.moved hW.alike⟩, h.2.2.1.warm hW, h.2.2.2.warm hW⟩
theorem z_SE.same {st : Nat → Nat} {A : Nat → Prop} {u U : State} {H : Heap} (hvm : u.vm.Alike U.vm) (he : u.vm = U.vm) (h : z_SE st A u H) : z_SE st A U H := ⟨⟨h.1.1.moved hvm, h.1.2.moved hvm⟩, ⟨h.2.1.1.moved hvm, h.2.1.2.moved hvm⟩, h.2.2.1.same he, h.2.2.2.same hvm he⟩
theorem z_SE.kept {st : Nat → Nat} {A : Nat → Prop} {U : State} {H H1 : Heap} (h : z_SE st A U H) (hq : ∀ a : Nat, a < H.size → ¬ A a → H1[a]? = H[a]?) : z_SE st A U H1 := ⟨⟨h.1.1.kept hq, h.1.2.kept hq⟩, ⟨h.2.1.1.kept hq, h.2.1.2.kept hq⟩, h.2.2.1, h.2.2.2.kept hq⟩
theorem z_SE.narrow {st : Nat → Nat} {A B : Nat → Prop} {U : State} {H : Heap} (h : z_SE st A U H) (hAB : ∀ q, B q → A q) : z_SE st B U H := ⟨⟨h.1.1.narrow hAB, h.1.2.narrow hAB⟩, ⟨h.2.1.1.narrow hAB, h.2.1.2.narrow hAB⟩, h.2.2.1, h.2.2.2.narrow hAB⟩
/-! worlds as bags -/
theorem zP_iff {G : va_G} {cl : List vw_C} {ws : va_W} {H : Heap} : va_P G cl ws H ↔ ∀ q ∈ ws, va_at G cl q H :=
  ⟨fun h q hq => by obtain ⟨k, hk⟩ := List.getElem?_of_mem hq; exact h k q hk, fun h k q hk => h q (List.mem_of_getElem? hk)⟩
theorem zP_perm {G : va_G} {cl : List vw_C} {w1 w2 : va_W} {H : Heap} (hp : w1.Perm w2) (h : va_P G cl w1 H) : va_P G cl w2 H := zP_iff.mpr fun q hq => zP_iff.mp h q (hp.mem_iff.mpr hq)
theorem zD_iff {A : Nat → Prop} {ws : va_W} : va_D A ws ↔ (ws.map Prod.fst).Nodup ∧ ∀ q ∈ ws, A q.1 := by
  constructor
  · intro h
    refine ⟨?_, fun q hq => by obtain ⟨k, hk⟩ := List.getElem?_of_mem hq; exact h.2 k q hk⟩
    rw [List.nodup_iff_pairwise_ne, List.pairwise_map, List.pairwise_iff_getElem]
    intro i j hi hj hij he
    have := h.1 i j ws[i] ws[j] (List.getElem?_eq_getElem hi) (List.getElem?_eq_getElem hj) he
    omega
  · intro h
    have h1 := h.1
    rw [List.nodup_iff_pairwise_ne, List.pairwise_map, List.pairwise_iff_getElem] at h1
    refine ⟨fun i j p q hi hj hpq => ?_, fun k q hk => h.2 q (List.mem_of_getElem? hk)⟩
    obtain ⟨hi1, rfl⟩ := List.getElem?_eq_some_iff.mp hi
    obtain ⟨hj1, rfl⟩ := List.getElem?_eq_some_iff.mp hj
    rcases Nat.lt_trichotomy i j with q | q | q
    · exact absurd hpq (h1 i j hi1 hj1 q)
    · exact q
    · exact absurd hpq.symm (h1 j i hj1 hi1 q)
theorem zD_perm {A : Nat → Prop} {w1 w2 : va_W} (hp : w1.Perm w2) (h : va_D A w1) : va_D A w2 :=
  zD_iff.mpr ⟨(hp.map Prod.fst).nodup_iff.mp (zD_iff.mp h).1, fun q hq => (zD_iff.mp h).2 q (hp.mem_iff.mpr hq)⟩
theorem zD_left {A : Nat → Prop} {w1 w2 : va_W} (h : va_D A (w1 ++ w2)) : va_D A w1 :=
  zD_iff.mpr ⟨List.Nodup.sublist ((List.sublist_append_left w1 w2).map Prod.fst) (zD_iff.mp h).1, fun q hq => (zD_iff.mp h).2 q (List.mem_append_left _ hq)⟩
theorem zD_right {A : Nat → Prop} {w1 w2 : va_W} (h : va_D A (w1 ++ w2)) : va_D A w2 :=
  zD_iff.mpr ⟨List.Nodup.sublist ((List.sublist_append_right w1 w2).map Prod.fst) (zD_iff.mp h).1, fun q hq => (zD_iff.mp h).2 q (List.mem_append_right _ hq)⟩
theorem zP_left {G : va_G} {cl : List vw_C} {w1 w2 : va_W} {H : Heap} (h : va_P G cl (w1 ++ w2) H) : va_P G cl w1 H := zP_iff.mpr fun q hq => zP_iff.mp h q (List.mem_append_left _ hq)
theorem zP_right {G : va_G} {cl : List vw_C} {w1 w2 : va_W} {H : Heap} (h : va_P G cl (w1 ++ w2) H) : va_P G cl w2 H := zP_iff.mpr fun q hq => zP_iff.mp h q (List.mem_append_right _ hq)
/-- a part of a world, and the world when that part has become another -/
def zCut (ws wc ws' wc' : va_W) : Prop := ∃ wr : va_W, ws.Perm (wc ++ wr) ∧ (wc' ++ wr).Perm ws'
theorem zCut_all {w w' : va_W} : zCut w w w' w' := ⟨[], by rw [List.append_nil], by rw [List.append_nil]⟩
theorem zCut_nil {w : va_W} : zCut w [] w [] := ⟨w, by rw [List.nil_append], by rw [List.nil_append]⟩
theorem zCut_l {ws wc ws' wc' x : va_W} (h : zCut ws wc ws' wc') : zCut (ws ++ x) wc (ws' ++ x) wc' := by
  obtain ⟨wr, h1, h2⟩ := h
  exact ⟨wr ++ x, by rw [← List.append_assoc]; exact h1.append_right x, by rw [← List.append_assoc]; exact h2.append_right x⟩
theorem zCut_r {ws wc ws' wc' x : va_W} (h : zCut ws wc ws' wc') : zCut (x ++ ws) wc (x ++ ws') wc' := by
  obtain ⟨wr, h1, h2⟩ := h
  exact ⟨x ++ wr, (h1.append_left x).trans (List.perm_append_comm_assoc x wc wr), (List.perm_append_comm_assoc wc' x wr).trans (h2.append_left x)⟩
theorem zCut_b {w1 c1 w1' c1' w2 c2 w2' c2' : va_W} (h : zCut w1 c1 w1' c1') (k : zCut w2 c2 w2' c2') : zCut (w1 ++ w2) (c1 ++ c2) (w1' ++ w2') (c1' ++ c2') := by
  obtain ⟨r1, h1, h2⟩ := h
  obtain ⟨r2, k1, k2⟩ := k
  have p : ∀ a b c d : va_W, ((a ++ b) ++ (c ++ d)).Perm ((a ++ c) ++ (b ++ d)) := fun a b c d => by
    rw [List.append_assoc, List.append_assoc]
    exact (List.perm_append_comm_assoc b c d).append_left a
  exact ⟨r1 ++ r2, (h1.append k1).trans (p _ _ _ _), (p _ _ _ _).trans (h2.append k2)⟩
theorem zCut_c {ws c1 c2 ws' c1' c2' : va_W} (h : zCut ws (c1 ++ c2) ws' (c1' ++ c2')) : zCut ws (c2 ++ c1) ws' (c2' ++ c1') := by
  obtain ⟨r, h1, h2⟩ := h
  exact ⟨r, h1.trans (List.perm_append_comm.append_right r), (List.perm_append_comm.append_right r).trans h2⟩
theorem zCut_t {ws wc ws' wc' wd wd' : va_W} (h : zCut ws wc ws' wc') (k : zCut wc wd wc' wd') : zCut ws wd ws' wd' := by
  obtain ⟨r1, h1, h2⟩ := h
  obtain ⟨r2, k1, k2⟩ := k
  exact ⟨r2 ++ r1, by rw [← List.append_assoc]; exact h1.trans (k1.append_right r1), by rw [← List.append_assoc]; exact (k2.append_right r1).trans h2⟩
theorem zCut_e {ws wc ws' wc' ws2 : va_W} (h : zCut ws wc ws' wc') (e : ws' = ws2) : zCut ws wc ws2 wc' := e ▸ h
theorem z_after {G : va_G} {cl : List vw_C} {A : Nat → Prop} {wc wr wc' : va_W} {H H1 : Heap} (hP : va_P G cl (wc ++ wr) H) (hD : va_D A (wc ++ wr)) (hk : ∀ q : Nat, q < H.size → ¬ va_A wc H.size q → H1[q]? = H[q]?) (hF : ∀ q, va_A wc H.size q → A q) (hP1 : va_P G cl wc' H1) (hD1 : va_D (va_A wc H.size) wc') : va_P G cl (wc' ++ wr) H1 ∧ va_D A (wc' ++ wr) := by
  have apart : ∀ q ∈ wr, q.1 < H.size ∧ ¬ va_A wc H.size q.1 := by
    intro q hq
    have hl := (zP_iff.mp hP q (List.mem_append_right _ hq)).lt
    refine ⟨hl, fun h => ?_⟩
    rcases h with ⟨k, e, h⟩ | h
    · obtain ⟨j, hj⟩ := List.getElem?_of_mem hq
      have hkl := (List.getElem?_eq_some_iff.mp h).1
      have h1 : (wc ++ wr)[k]? = some (q.1, e) := by rw [List.getElem?_append_left hkl]; exact h
      have h2 : (wc ++ wr)[wc.length + j]? = some q := by rw [List.getElem?_append_right (by omega), Nat.add_sub_cancel_left]; exact hj
      have := hD.1 _ _ _ _ h1 h2 rfl
      omega
    · omega
  refine ⟨hP1.app (zP_iff.mpr fun q hq => (zP_iff.mp hP q (List.mem_append_right _ hq)).kept (hk q.1 (apart q hq).1 (apart q hq).2)), va_D.app (hD1.weaken (fun _ q _ h => hF q.1 h)) (zD_right hD) (fun i j x y hx hy hxy => ?_)⟩
  exact (apart y (List.mem_of_getElem? hy)).2 (by rw [← hxy]; exact hD1.2 i x hx)
theorem z_freeA {A : Nat → Prop} {wc : va_W} {H0 H : Heap} {locs : List Loc} (hD : va_D A wc) (hS : va_S A H0 H locs) (hA : ∀ q, H0.size ≤ q → A q) : ∀ q, va_A wc H.size q → A q := by
  intro q h
  rcases h with ⟨k, e, h⟩ | h
  · exact hD.2 k (q, e) h
  · exact hA q (Nat.le_trans hS.1 h)
/-- a cell in its place, and the world when it has become another -/
def zFoc (ws : va_W) (q a : Nat) (e : va_E) (ws' : va_W) (e' : va_E) : Prop := ws[q]? = some (a, e) ∧ ws.set q (a, e') = ws'
theorem zat_l {w1 w2 : va_W} {q : Nat} {x : Nat × va_E} (h : w1[q]? = some x) : (w1 ++ w2)[q]? = some x := by
  rw [List.getElem?_append_left (List.getElem?_eq_some_iff.mp h).1]; exact h
theorem zat_r {w1 w2 : va_W} {n q : Nat} {x : Nat × va_E} (hn : w1.length = n) (h : w2[q]? = some x) : (w1 ++ w2)[n + q]? = some x := by
  subst hn
  rw [List.getElem?_append_right (by omega), Nat.add_sub_cancel_left]; exact h
theorem zFoc_l {w1 w1' w2 : va_W} {q a : Nat} {e e' : va_E} (h : zFoc w1 q a e w1' e') : zFoc (w1 ++ w2) q a e (w1' ++ w2) e' :=
  ⟨zat_l h.1, by rw [List.set_append_left _ _ (List.getElem?_eq_some_iff.mp h.1).1, h.2]⟩
theorem zFoc_r {w1 w2 w2' : va_W} {n q a : Nat} {e e' : va_E} (hn : w1.length = n) (h : zFoc w2 q a e w2' e') : zFoc (w1 ++ w2) (n + q) a e (w1 ++ w2') e' :=
  ⟨zat_r hn h.1, by subst hn; rw [List.set_append_right _ _ (by omega), Nat.add_sub_cancel_left, h.2]⟩
/-! contracts: all cells stay where they are -/
def zPc (G : va_G) (cy : Nat → ClassId) (st : Nat → Nat) (w : va_W) (sz : Nat) (U : State) : Prop := U.heap.size = sz ∧ va_P G vwCl w U.heap ∧ va_K G vwCl (zT cy) U ∧ va_D (fun _ => True) w ∧ z_SE st (va_A w sz) U U.heap
theorem zPc_blind {G : va_G} {cy : Nat → ClassId} {st : Nat → Nat} {w : va_W} {sz : Nat} {av : List Value} : FrameBlind (va_Pc av (zPc G cy st w sz)) := fun a U g mk q => by
  obtain ⟨q0, q1, qP, qK, qD, qS⟩ := q
  exact ⟨q0, q1, qP, va_K.moved (u := U) (U := U.calling g mk a) (Vm.Alike.refl U.vm) qK, qD, z_SE.same (u := U) (U := U.calling g mk a) (Vm.Alike.refl U.vm) rfl qS⟩
abbrev zB (G : va_G) (cy : Nat → ClassId) (A : Nat → Prop) (w : va_W) : Unit → State → Prop := fun _ t => va_P G vwCl w t.heap ∧ va_K G vwCl (zT cy) t ∧ va_D A w
abbrev zQi (G : va_G) (cy : Nat → ClassId) (A : Nat → Prop) (w : va_W) (r : Int32) : Array Value → State → Outcome → State → Prop := va_Qi (fun (x : Int32) (_ : Unit) => x = r) (zB G cy A w) A
abbrev zQl (G : va_G) (cy : Nat → ClassId) (A : Nat → Prop) (w : va_W) (r : Int64) : Array Value → State → Outcome → State → Prop := va_Ql (fun (x : Int64) (_ : Unit) => x = r) (zB G cy A w) A
abbrev zQv (G : va_G) (cy : Nat → ClassId) (A : Nat → Prop) (w : va_W) : Array Value → State → Outcome → State → Prop := va_Qv (fun _ : Unit => True) (zB G cy A w) A
def zMi (l : Launch) (y : MethodName) (ws : List Cond) (rm : Room) (G : va_G) (cy : Nat → ClassId) (st : Nat → Nat) (av : List Value) (w w' : va_W) (r : Int32) : Prop := ∀ sz : Nat, Met l y ws rm (va_Pc av (zPc G cy st w sz)) (zQi G cy (va_A w sz) w' r) 0 0 (va_A w sz)
def zMl (l : Launch) (y : MethodName) (ws : List Cond) (rm : Room) (G : va_G) (cy : Nat → ClassId) (st : Nat → Nat) (av : List Value) (w w' : va_W) (r : Int64) : Prop := ∀ sz : Nat, Met l y ws rm (va_Pc av (zPc G cy st w sz)) (zQl G cy (va_A w sz) w' r) 0 0 (va_A w sz)
def zMv (l : Launch) (y : MethodName) (ws : List Cond) (rm : Room) (G : va_G) (cy : Nat → ClassId) (st : Nat → Nat) (av : List Value) (w w' : va_W) : Prop := ∀ sz : Nat, Met l y ws rm (va_Pc av (zPc G cy st w sz)) (zQv G cy (va_A w sz) w') 0 0 (va_A w sz)
/-- the room of a method that calls d deep -/
def zR (d : Nat) : Room := { frames := d, cells := 0, slots := 0, locals := 40 * d }
abbrev zBody (l : Launch) (y : MethodName) (ws : List Cond) (rm : Room) (G : va_G) (cy : Nat → ClassId) (st : Nat → Nat) (av : List Value) (w : va_W) (cc : ByteArray) (maxL : Nat) (ret : Option FieldType) (Qc : (Nat → Prop) → Array Value → State → Outcome → State → Prop) : Prop :=
  ∀ (p : Program) (e : Env) (s : State) (m : MethodId) (below : List Frame) (meth : Method) (c : Code) (A : Nat → Prop) (ls : Array Slot), p.tables.exec = Jvm.exec → c.code = cc → c.maxLocals = maxL → meth.sig.returnType = ret → meth.locks = false → s.vm.findClass y.cls = some m.cls → (∀ x ∈ ws, x.before av.toArray s = true) → va_K G vwCl (zT cy) s → z_SE st A s s.heap → (∀ q, s.heap.size ≤ q → A q) → va_P G vwCl w s.heap → va_D A w → va_S A s.heap s.heap [] → lv_has ls maxL (lv_args 0 av) → W p l e rm s m av.toArray below meth c s.heap [] 0 0 (MQ below (Qc A) av.toArray s 0 0 A) (F0 m 0 ls [])
theorem zM_of {l : Launch} {y : MethodName} {ws ws' : List Cond} {rm : Room} {G : va_G} {cy : Nat → ClassId} {st : Nat → Nat} {av : List Value} {w : va_W} {cc : ByteArray} {maxL : Nat} {ret : Option FieldType} {Qc : (Nat → Prop) → Array Value → State → Outcome → State → Prop} (hy : plainName y.cls = true) (hw : ws = Cond.code y cc maxL ret :: ws') (hn : (lg_sl av).length ≤ maxL) (body : zBody l y ws rm G cy st av w cc maxL ret Qc) : ∀ sz : Nat, Met l y ws rm (va_Pc av (zPc G cy st w sz)) (Qc (va_A w sz)) 0 0 (va_A w sz) := by
  intro sz
  refine Met.ofW (cc := cc) (maxL := maxL) (ret := ret) hy hw ?_
  intro p e s m args below meth c s₁ B hml hv
  obtain ⟨rfl, hsz, hP, hK, hD0, hSE⟩ := hv
  subst hsz
  rw [lg_entry_eq]
  exact body p e s m below meth c _ _ B.exec B.bytes hml B.returns B.notSynchronized (findClass_of_methodNamed B.named) (atoms_spec (ws := ws) B.pre) hK hSE (fun q h => Or.inr h) hP hD0.self va_S.rf (lv_entry av hn)
