/-! THE CLAIM OUT OF ONE WALK OF THE LAW'S BODY. Your part is whole_start (and what it stands on); all else here is the same for every law, but numbers. -/
def R_law : String := "TapCascadeLaw"
def lw_P (b : Addr) (xs : List Int32) (args : Array Value) (s : State) : Prop := args = #[.ref b] ∧ s.IntsAt b xs ∧ xs.length ≤ 2048 ∧ (Jvm.Cond.and given_1 narrow_1).before args s = true
def lw_Q (_ : Array Value) (s : State) (o : Outcome) (t : State) : Prop := o = .returned (some (.int 1)) ∧ Framed s o t [] 600000 7302250
def lw_Z (below : List Frame) (a : Array Value) (s : State) : State → Prop := fun t => ∃ o, t.status = .running ∧ Ended t below o ∧ lw_Q a s o t
/-- the law's own end, with 1 on the stack, nothing written that was there before, its room as the claim has it -/
theorem lw_ret {p : Program} {l : Launch} {e : Env} {s : State} {m : MethodId} {below : List Frame} {meth : Method} {c : Code} {b : Nat} (hx : p.tables.exec = Jvm.exec) (hb : c.code = code) (hr : meth.sig.returnType = ret) (hlocks : meth.locks = false) {pc : Nat} {H : Heap} {ls : Array Slot} (hdg : decode code pc = .ok (.ireturn, 1)) : W p l e room_1 s m #[Value.ref b] below meth c H [] 600000 7302250 (lw_Z below #[Value.ref b] s) (F0 m pc ls [.int 1]) := by
  intro T hT X
  obtain ⟨fs, hret, hrun, hended, hW, hframe⟩ := X.leave (v := some (.int 1)) (hlocks := hlocks) (fun h => by rw [hr] at h; cases h)
  have hmeth' : T.vm.method? m = some meth := X.method'
  refine ⟨T.setFrames fs, ?_, .returned (some (.int 1)), hrun, hended, rfl, ⟨_, rfl⟩, hW, hframe⟩
  jvm_step X.here [X.here.top, hx, hb, hdg, hmeth', hr, ret, narrow_b1]
  (try refine ⟨rfl, ?_⟩); (try refine ⟨rfl, ?_⟩)
  first | (intro acts; rw [hret _ acts rfl rfl rfl]) | rw [hret _ _ rfl rfl rfl]
  exact Steps.refl _
/-- what holds at the law's entry: the machine, the code, the tables' words (any of lw_tbl by 'hts w (by decide +kernel)'), the script of L ints xs at the cell b, what the Statement gives of the start (any of its parts by flat_of_before) -/
def lw_At (p : Program) (s : State) (m : MethodId) (meth : Method) (c : Code) (b L : Nat) (xs : Nat → Int32) : Prop :=
  p.tables.exec = Jvm.exec ∧ c.code = code ∧ meth.sig.returnType = ret ∧ c.maxLocals = 4 ∧ s.vm.findClass R_law = some m.cls ∧ (∀ w ∈ lw_tbl, w.before #[Value.ref b] s = true) ∧ va_X b L xs s s.heap ∧ b < s.heap.size ∧ meth.locks = false ∧ (Jvm.Cond.and given_1 narrow_1).before #[Value.ref b] s = true
/-! ===== the law from its entry ===== -/
set_option maxHeartbeats 8000000 in
set_option maxRecDepth 100000 in
theorem whole_start {p : Program} {e : Env} {s : State} {m : MethodId} {below : List Frame} {meth : Method} {c : Code} (l : Launch) (hflags : l.flags = flags0) {b L : Nat} {xs : Nat → Int32} (hL : L ≤ 2048) (C0 : lw_At p s m meth c b L xs) : W p l e room_1 s m #[Value.ref b] below meth c s.heap [] 0 0 (lw_Z below #[Value.ref b] s) (entryFrame m ([Value.ref b] : List Value).toArray 4) := by
  obtain ⟨hx, hb, hr, hml, hown, hts0, hX, hbl, hlocks, hgv⟩ := id C0
  have hts : ∀ w ∈ wsL_law, w.before #[Value.ref b] s = true := fun w h => hts0 w (wsL_law_in w h)
  have hA : ∀ q : Nat, s.heap.size ≤ q → (fun q : Nat => s.heap.size ≤ q) q := fun _ h => h
  have hbA : ¬ (fun q : Nat => s.heap.size ≤ q) b := Nat.not_le.mpr hbl
  have hAn : ∀ a : Nat, a < s.heap.size → ¬ (fun q : Nat => s.heap.size ≤ q) a := fun a h => Nat.not_le.mpr h
  have hs := flat_of_before _ hgv
  obtain ⟨k0, j0, hKn0⟩ := u_known (C := RX0) (T := TX0) (N := 7) (n := 7) hts0 inX0 (hts0 (.instantiable RX0 7) (by decide +kernel))
  obtain ⟨k1, j1, hKn1⟩ := u_known (C := RX1) (T := TX1) (N := 6) (n := 6) hts0 inX1 (hts0 (.instantiable RX1 6) (by decide +kernel))
  obtain ⟨k2, j2, hKn2⟩ := u_known (C := RX2) (T := TX2) (N := 3) (n := 3) hts0 inX2 (hts0 (.instantiable RX2 3) (by decide +kernel))
  obtain ⟨k3, j3, hKn3⟩ := u_known (C := RX3) (T := TX3) (N := 3) (n := 3) hts0 inX3 (hts0 (.instantiable RX3 3) (by decide +kernel))
  obtain ⟨k4, j4, hKn4⟩ := u_known (C := RX4) (T := TX4) (N := 15) (n := 15) hts0 inX4 (hts0 (.instantiable RX4 15) (by decide +kernel))
  obtain ⟨k5, j5, hKn5⟩ := u_known (C := RX5) (T := TX5) (N := 5) (n := 5) hts0 inX5 (hts0 (.instantiable RX5 5) (by decide +kernel))
  obtain ⟨k6, j6, hKn6⟩ := u_known (C := RX6) (T := TX6) (N := 4) (n := 4) hts0 inX6 (hts0 (.instantiable RX6 4) (by decide +kernel))
  obtain ⟨k7, j7, hKn7⟩ := u_known (C := RX7) (T := TX7) (N := 6) (n := 6) hts0 inX7 (hts0 (.instantiable RX7 6) (by decide +kernel))
  obtain ⟨k8, j8, hKn8⟩ := u_known (C := RX8) (T := TX8) (N := 24) (n := 24) hts0 inX8 (hts0 (.instantiable RX8 24) (by decide +kernel))
  obtain ⟨G, hKc⟩ : ∃ (G : va_G), ∀ (k : Nat) (q : vw_C), vwCl[k]? = some q → u_Kn s q.1 q.2.1 q.2.2 (G.1 k) (G.2 k) := by
    refine ⟨(fun k => match k with | 0 => k0 | 1 => k1 | 2 => k2 | 3 => k3 | 4 => k4 | 5 => k5 | 6 => k6 | 7 => k7 | _ => k8, fun k => match k with | 0 => j0 | 1 => j1 | 2 => j2 | 3 => j3 | 4 => j4 | 5 => j5 | 6 => j6 | 7 => j7 | _ => j8), ?_⟩
    intro k q hq
    match k, hq with
    | 0, hq => cases hq; exact hKn0
    | 1, hq => cases hq; exact hKn1
    | 2, hq => cases hq; exact hKn2
    | 3, hq => cases hq; exact hKn3
    | 4, hq => cases hq; exact hKn4
    | 5, hq => cases hq; exact hKn5
    | 6, hq => cases hq; exact hKn6
    | 7, hq => cases hq; exact hKn7
    | 8, hq => cases hq; exact hKn8
    | k + 9, hq => simp [vwCl] at hq
  obtain ⟨y0, yk0, yc0, ya0, yb0, yd0⟩ := Cond.arrayClass_spec (hts0 (.arrayClass .byte) (by decide +kernel))
  obtain ⟨y1, yk1, yc1, ya1, yb1, yd1⟩ := Cond.arrayClass_spec (hts0 (.arrayClass .int) (by decide +kernel))
  obtain ⟨y2, yk2, yc2, ya2, yb2, yd2⟩ := Cond.arrayClass_spec (hts0 (.arrayClass .long) (by decide +kernel))
  obtain ⟨y3, yk3, yc3, ya3, yb3, yd3⟩ := Cond.arrayClass_spec (hts0 (.arrayClass .boolean) (by decide +kernel))
  have ao4 : (Cond.arrayOver (.object RX1)).before #[Value.ref b] s = true := hts0 _ (by decide +kernel)
  obtain ⟨yc4, y4, yk4, ye4, yf4, yb4, yd4, ya4⟩ := Cond.arrayOver_spec ao4
  have ao5 : (Cond.arrayOver (.object RX4)).before #[Value.ref b] s = true := hts0 _ (by decide +kernel)
  obtain ⟨yc5, y5, yk5, ye5, yf5, yb5, yd5, ya5⟩ := Cond.arrayOver_spec ao5
  obtain ⟨cy, hcy⟩ : ∃ cy : Nat → ClassId, cy 0 = y0 ∧ cy 1 = y1 ∧ cy 2 = y2 ∧ cy 3 = y3 ∧ cy 4 = y4 ∧ cy 5 = y5 := ⟨fun k => match k with | 0 => y0 | 1 => y1 | 2 => y2 | 3 => y3 | 4 => y4 | _ => y5, rfl, rfl, rfl, rfl, rfl, rfl⟩
  have hK : va_K G vwCl (zT cy) s := by
    refine ⟨hKc, fun k q hq => ?_⟩
    obtain ⟨e0, e1, e2, e3, e4, e5⟩ := hcy
    match k, hq with
    | 0, hq => cases hq; rw [e0]; exact ⟨fun n z => ⟨fun k h => (by cases h), yk0, yb0, yc0, yd0⟩, ya0⟩
    | 1, hq => cases hq; rw [e1]; exact ⟨fun n z => ⟨fun k h => (by cases h), yk1, yb1, yc1, yd1⟩, ya1⟩
    | 2, hq => cases hq; rw [e2]; exact ⟨fun n z => ⟨fun k h => (by cases h), yk2, yb2, yc2, yd2⟩, ya2⟩
    | 3, hq => cases hq; rw [e3]; exact ⟨fun n z => ⟨fun k h => (by cases h), yk3, yb3, yc3, yd3⟩, ya3⟩
    | 4, hq => cases hq; rw [e4]; exact ⟨fun n z => ⟨fun k h => (by cases h), yk4, yb4, yc4, yd4⟩, yk4, yc4, yb4, yd4, ye4, ya4⟩
    | 5, hq => cases hq; rw [e5]; exact ⟨fun n z => ⟨fun k h => (by cases h), yk5, yb5, yc5, yd5⟩, yk5, yc5, yb5, yd5, ye5, ya5⟩
    | k + 6, hq => simp [zT] at hq
  have kT : (Cond.initialized RX7).before #[Value.ref b] s = true := hts0 _ (by decide +kernel)
  have kS : (Cond.initialized "java/lang/String").before #[Value.ref b] s = true := hts0 _ (by decide +kernel)
  have kP : (Cond.initialized "jdk/internal/util/Preconditions").before #[Value.ref b] s = true := hts0 _ (by decide +kernel)
  obtain ⟨s0, hs0, hT0⟩ := va_Tof (N := 7) (tm := .static "TapCascade" "LEAST_TOLD" "[I") (ty := .int) (f := fun j => .int (z_lo j)) (A := fun q : Nat => s.heap.size ≤ q) (args := #[Value.ref b]) (s := s) (by decide) (hs _ (by decide +kernel)) (va_eqt (hs _ (by decide +kernel))) (fun j hj => va_eqt (hs _ ((by decide +kernel : ∀ j, j < 7 → Cond.eq (.elem (.static "TapCascade" "LEAST_TOLD" "[I") (.int (Int32.ofNat j))) (.int (z_lo j)) ∈ flatC (Jvm.Cond.and given_1 narrow_1)) j hj))) hAn
  obtain ⟨s1, hs1, hT1⟩ := va_Tof (N := 7) (tm := .static "TapCascade" "MOST_TOLD" "[I") (ty := .int) (f := fun j => .int (z_hi j)) (A := fun q : Nat => s.heap.size ≤ q) (args := #[Value.ref b]) (s := s) (by decide) (hs _ (by decide +kernel)) (va_eqt (hs _ (by decide +kernel))) (fun j hj => va_eqt (hs _ ((by decide +kernel : ∀ j, j < 7 → Cond.eq (.elem (.static "TapCascade" "MOST_TOLD" "[I") (.int (Int32.ofNat j))) (.int (z_hi j)) ∈ flatC (Jvm.Cond.and given_1 narrow_1)) j hj))) hAn
  obtain ⟨adK, adV, hVS, hVe⟩ := vk_Sof (args := #[Value.ref b]) (s := s) (N := 1) (tm := fun _ => .string "TapCascade" 47) (len := [89]) (byt := [zFT]) (A := fun q : Nat => s.heap.size ≤ q) (fun i hi => by have h0 : i = 0 := (by omega); subst h0; decide) (fun i hi => hs _ (by decide +kernel)) (fun i hi => hs _ (by decide +kernel)) (fun i hi => hs _ (by decide +kernel)) (fun i hi => by have h0 : i = 0 := (by omega); subst h0; exact hs _ (by decide +kernel)) (fun i hi j hj => by have h0 : i = 0 := (by omega); subst h0; exact hs _ ((by decide +kernel : ∀ j, j < 89 → Cond.eq (.elem (.field (.string "TapCascade" 47) "java/lang/String" "value" "[B") (.int (Int32.ofNat j))) (.int (zFT.getD j 0)) ∈ flatC (Jvm.Cond.and given_1 narrow_1)) j hj)) (fun i j hi hj h => absurd (show i = j by omega) h) hAn
  have hV0 := hVS.1 0 (by decide)
  have hSE : z_SE (fun k => match k with | 0 => s0 | 1 => s1 | 2 => adK 0 | _ => adV 0) (fun q : Nat => s.heap.size ≤ q) s s.heap := by
    refine ⟨⟨va_Zref (hts0 _ (by decide +kernel)) kT hs0 hAn, hT0⟩, ⟨va_Zref (hts0 _ (by decide +kernel)) kT hs1 hAn, hT1⟩, ⟨va_Nw.of rfl (hts0 _ (by decide +kernel)), va_Nw.of rfl (hts0 _ (by decide +kernel)), va_Nw.of rfl (hts0 _ (by decide +kernel)), va_Nw.of rfl (hts0 _ (by decide +kernel)), va_Nw.of rfl (hts0 _ (by decide +kernel)), va_Nw.of rfl (hts0 _ (by decide +kernel))⟩, ⟨hV0.1, hV0.2.1, hV0.2.2.1, hV0.2.2.2⟩, ⟨va_Zof (hts0 _ (by decide +kernel)) kS (va_eqi (hs _ (by decide +kernel))) hAn, va_Zqof (hts0 _ (by decide +kernel)) kP (hs _ (by decide +kernel)) hAn⟩, vk_R.of (hts0 (.stringRef "TapCascade" 47 zFTs) (by decide +kernel)) (hVe 0 (by decide)), va_AO.of ao5, va_AO.of ao4⟩
  generalize (fun k => match k with | 0 => s0 | 1 => s1 | 2 => adK 0 | _ => adV 0 : Nat → Nat) = st at hSE
  obtain ⟨o7, o8, hF7, hF8, hFL⟩ := pure_law L xs hL
  have hS : va_S (fun q : Nat => s.heap.size ≤ q) s.heap s.heap [] := va_S.rf
  have hP : va_P G vwCl [] s.heap := fun k q h => by simp at h
  have hD : va_D (fun q : Nat => s.heap.size ≤ q) [] := ⟨fun i j p q h => by simp at h, fun k q h => by simp at h⟩
  have hl := lv_entry ([.ref b]) (n := 4) (Nat.le_of_ble_eq_true rfl)
  rw [lg_entry_eq]
  generalize (lg_sl ([.ref b]) ++ List.replicate (4 - (lg_sl ([.ref b])).length) Slot.unset).toArray = ls at hl ⊢
  have hl : lv_has ls 4 [(0, .ref b)] := hl
  have hown : s.vm.findClass RL = some m.cls := hown
  refine va_new (ci := 7) (fs := [.null, .null, .null, .null, .null, .null]) (C := RX7) (T := TX7) (N := 6) hx hb hts0 inX7 tyX7 tyX7_ok hown (hts0 (.classLink RL 7 RX7) (by decide +kernel)) (hts0 (.instantiable RX7 6) (by decide +kernel)) kT hK hP hD hS hA rfl (fun j hj => match j, hj with | 0, _ => rfl | 1, _ => rfl | 2, _ => rfl | 3, _ => rfl | 4, _ => rfl | 5, _ => rfl | j + 6, h => absurd h (by omega)) (Nat.le_of_ble_eq_true rfl) (Nat.le_of_ble_eq_true rfl) dL_law_0 (fun q1 H hP hD hS => ?_)
  have hP : va_P G vwCl [(q1, .inr (7, [.null, .null, .null, .null, .null, .null]))] H := hP
  have hD : va_D (fun q : Nat => s.heap.size ≤ q) [(q1, .inr (7, [.null, .null, .null, .null, .null, .null]))] := hD
  refine lv_dup hx hb dL_law_3 rfl ?_
  refine z_cI (b := q1) (As := []) (rest := [.ref q1]) (wc := [(q1, .inr (7, [.null, .null, .null, .null, .null, .null]))]) (wf := _) (c_X7_init l G cy st o7 hF7 q1) hP hD (fun u => zCut_all) ⟨hx, hb, hml, hown, hts⟩ (cwI 0 hts gL_law_X7_init rfl rfl rfl kT (hts0 (.methodLink RL 9 yX7_init) (by decide +kernel)) (hts0 (.instanceMethod yX7_init) (by decide +kernel)) rfl (by decide +kernel) ⟨Nat.le_of_ble_eq_true rfl, Nat.le_of_ble_eq_true rfl⟩) hK hSE hA hP hD hS rfl hl.1 rfl (Nat.le_of_ble_eq_true rfl) dL_law_4 ⟨Nat.le_of_ble_eq_true rfl, Nat.le_of_ble_eq_true rfl⟩ (fun u hu H locs hP2 hD2 hS2 => ?_)
  obtain ⟨x, ta, pa, la, ca, ra, sa, na, da⟩ := u
  have hu : x = q1 := hu
  subst hu
  have hP : va_P G vwCl ((wTo cy x (ta 0) (na 0) (da 0) (pa 0) (ca 0) (sa 0)) ++ ((wTx cy ta o7.1 o7.2.1 o7.2.2.1 o7.2.2.2.1) ++ ((wPo cy pa la 0 0) ++ ((wLs cy la (fun _ _ _ => 0)) ++ ((wCo cy ca (ra 0) (fun _ => 0) (fun _ => 0) 0 0 0 0) ++ ((wLn cy ra (fun _ _ => 0)) ++ ((wSe cy sa (fun _ => 0) (fun _ => 0) 0) ++ ((wLn cy na o7.2.2.2.2.1) ++ (wLn cy da o7.2.2.2.2.2))))))))) H := hP2
  have hD : va_D (fun q : Nat => s.heap.size ≤ q) ((wTo cy x (ta 0) (na 0) (da 0) (pa 0) (ca 0) (sa 0)) ++ ((wTx cy ta o7.1 o7.2.1 o7.2.2.1 o7.2.2.2.1) ++ ((wPo cy pa la 0 0) ++ ((wLs cy la (fun _ _ _ => 0)) ++ ((wCo cy ca (ra 0) (fun _ => 0) (fun _ => 0) 0 0 0 0) ++ ((wLn cy ra (fun _ _ => 0)) ++ ((wSe cy sa (fun _ => 0) (fun _ => 0) 0) ++ ((wLn cy na o7.2.2.2.2.1) ++ (wLn cy da o7.2.2.2.2.2))))))))) := hD2
  have hS := hS2
  refine lv_astore_n (lv' := [(1, .ref x), (0, .ref b)]) hx hb dL_law_7 rfl hl (by decide) rfl (fun ls hl => ?_)
  refine va_new (ci := 8) (fs := [.int 0, .null, .int 0, .null, .null, .null, .int 0, .int 0, .int 0, .null, .null, .null, .null, .null, .null, .null, .null, .null, .int 0, .int 0, .int 0, .int 0, .null, .int 0]) (C := RX8) (T := TX8) (N := 24) hx hb hts0 inX8 tyX8 tyX8_ok hown (hts0 (.classLink RL 10 RX8) (by decide +kernel)) (hts0 (.instantiable RX8 24) (by decide +kernel)) (hts0 (.initialized RX8) (by decide +kernel)) hK hP hD hS hA rfl (fun j hj => match j, hj with | 0, _ => rfl | 1, _ => rfl | 2, _ => rfl | 3, _ => rfl | 4, _ => rfl | 5, _ => rfl | 6, _ => rfl | 7, _ => rfl | 8, _ => rfl | 9, _ => rfl | 10, _ => rfl | 11, _ => rfl | 12, _ => rfl | 13, _ => rfl | 14, _ => rfl | 15, _ => rfl | 16, _ => rfl | 17, _ => rfl | 18, _ => rfl | 19, _ => rfl | 20, _ => rfl | 21, _ => rfl | 22, _ => rfl | 23, _ => rfl | j + 24, h => absurd h (by omega)) (Nat.le_of_ble_eq_true rfl) (Nat.le_of_ble_eq_true rfl) dL_law_8 (fun q2 H hP hD hS => ?_)
  refine lv_dup hx hb dL_law_11 rfl ?_
  refine z_cI (b := q2) (As := []) (rest := [.ref q2]) (wc := [(q2, .inr (8, [.int 0, .null, .int 0, .null, .null, .null, .int 0, .int 0, .int 0, .null, .null, .null, .null, .null, .null, .null, .null, .null, .int 0, .int 0, .int 0, .int 0, .null, .int 0]))]) (wf := fun u => ((wTo cy x (ta 0) (na 0) (da 0) (pa 0) (ca 0) (sa 0)) ++ ((wTx cy ta o7.1 o7.2.1 o7.2.2.1 o7.2.2.2.1) ++ ((wPo cy pa la 0 0) ++ ((wLs cy la (fun _ _ _ => 0)) ++ ((wCo cy ca (ra 0) (fun _ => 0) (fun _ => 0) 0 0 0 0) ++ ((wLn cy ra (fun _ _ => 0)) ++ ((wSe cy sa (fun _ => 0) (fun _ => 0) 0) ++ ((wLn cy na o7.2.2.2.2.1) ++ (wLn cy da o7.2.2.2.2.2))))))))) ++ (wMo cy u 0 0 0 0 0 0 0 0 0 0 (fun _ => 0) o8 (fun _ => 0) (fun _ => 0) (fun _ => 0) (fun _ => 0) (fun _ => 0) (fun _ => 0) (fun _ => 0) (fun _ => 0) (fun _ => 0) (fun _ => 0) (fun _ => 0) (fun _ => 0))) (c_X8_init l G cy st o8 hF8 q2) (zP_right hP) (zD_right hD) (fun u => zCut_r zCut_all) ⟨hx, hb, hml, hown, hts⟩ (cwI 0 hts gL_law_X8_init rfl rfl rfl (hts0 (.initialized RX8) (by decide +kernel)) (hts0 (.methodLink RL 12 yX8_init) (by decide +kernel)) (hts0 (.instanceMethod yX8_init) (by decide +kernel)) rfl (by decide +kernel) ⟨Nat.le_of_ble_eq_true rfl, Nat.le_of_ble_eq_true rfl⟩) hK hSE hA hP hD hS rfl hl.1 rfl (Nat.le_of_ble_eq_true rfl) dL_law_12 ⟨Nat.le_of_ble_eq_true rfl, Nat.le_of_ble_eq_true rfl⟩ (fun ma hu H locs hP3 hD3 hS3 => ?_)
  have hu : ma 0 = q2 := hu
  subst hu
  have eW : ((wTo cy x (ta 0) (na 0) (da 0) (pa 0) (ca 0) (sa 0)) ++ ((wTx cy ta o7.1 o7.2.1 o7.2.2.1 o7.2.2.2.1) ++ ((wPo cy pa la 0 0) ++ ((wLs cy la (fun _ _ _ => 0)) ++ ((wCo cy ca (ra 0) (fun _ => 0) (fun _ => 0) 0 0 0 0) ++ ((wLn cy ra (fun _ _ => 0)) ++ ((wSe cy sa (fun _ => 0) (fun _ => 0) 0) ++ ((wLn cy na o7.2.2.2.2.1) ++ (wLn cy da o7.2.2.2.2.2))))))))) ++ (wMo cy ma 0 0 0 0 0 0 0 0 0 0 (fun _ => 0) o8 (fun _ => 0) (fun _ => 0) (fun _ => 0) (fun _ => 0) (fun _ => 0) (fun _ => 0) (fun _ => 0) (fun _ => 0) (fun _ => 0) (fun _ => 0) (fun _ => 0) (fun _ => 0)) = ((wTo cy x (ta 0) (na 0) (da 0) (pa 0) (ca 0) (sa 0)) ++ ((wTx cy ta o7.1 o7.2.1 o7.2.2.1 o7.2.2.2.1) ++ ((wPo cy pa la 0 0) ++ ((wLs cy la (fun _ _ _ => 0)) ++ ((wCo cy ca (ra 0) (fun _ => 0) (fun _ => 0) 0 0 0 0) ++ ((wLn cy ra (fun _ _ => 0)) ++ ((wSe cy sa (fun _ => 0) (fun _ => 0) 0) ++ ((wLn cy na o7.2.2.2.2.1) ++ ((wLn cy da o7.2.2.2.2.2) ++ (wMo cy ma 0 0 0 0 0 0 0 0 0 0 (fun _ => 0) o8 (fun _ => 0) (fun _ => 0) (fun _ => 0) (fun _ => 0) (fun _ => 0) (fun _ => 0) (fun _ => 0) (fun _ => 0) (fun _ => 0) (fun _ => 0) (fun _ => 0) (fun _ => 0))))))))))) := by simp only [List.append_assoc]
  have hP : va_P G vwCl ((wTo cy x (ta 0) (na 0) (da 0) (pa 0) (ca 0) (sa 0)) ++ ((wTx cy ta o7.1 o7.2.1 o7.2.2.1 o7.2.2.2.1) ++ ((wPo cy pa la 0 0) ++ ((wLs cy la (fun _ _ _ => 0)) ++ ((wCo cy ca (ra 0) (fun _ => 0) (fun _ => 0) 0 0 0 0) ++ ((wLn cy ra (fun _ _ => 0)) ++ ((wSe cy sa (fun _ => 0) (fun _ => 0) 0) ++ ((wLn cy na o7.2.2.2.2.1) ++ ((wLn cy da o7.2.2.2.2.2) ++ (wMo cy ma 0 0 0 0 0 0 0 0 0 0 (fun _ => 0) o8 (fun _ => 0) (fun _ => 0) (fun _ => 0) (fun _ => 0) (fun _ => 0) (fun _ => 0) (fun _ => 0) (fun _ => 0) (fun _ => 0) (fun _ => 0) (fun _ => 0) (fun _ => 0))))))))))) H := eW ▸ hP3
  have hD : va_D (fun q : Nat => s.heap.size ≤ q) ((wTo cy x (ta 0) (na 0) (da 0) (pa 0) (ca 0) (sa 0)) ++ ((wTx cy ta o7.1 o7.2.1 o7.2.2.1 o7.2.2.2.1) ++ ((wPo cy pa la 0 0) ++ ((wLs cy la (fun _ _ _ => 0)) ++ ((wCo cy ca (ra 0) (fun _ => 0) (fun _ => 0) 0 0 0 0) ++ ((wLn cy ra (fun _ _ => 0)) ++ ((wSe cy sa (fun _ => 0) (fun _ => 0) 0) ++ ((wLn cy na o7.2.2.2.2.1) ++ ((wLn cy da o7.2.2.2.2.2) ++ (wMo cy ma 0 0 0 0 0 0 0 0 0 0 (fun _ => 0) o8 (fun _ => 0) (fun _ => 0) (fun _ => 0) (fun _ => 0) (fun _ => 0) (fun _ => 0) (fun _ => 0) (fun _ => 0) (fun _ => 0) (fun _ => 0) (fun _ => 0) (fun _ => 0))))))))))) := eW ▸ hD3
  have hS := hS3
  refine lv_astore_n (lv' := [(2, .ref (ma 0)), (1, .ref x), (0, .ref b)]) hx hb dL_law_15 rfl hl (by decide) rfl (fun ls hl => ?_)
  refine lv_iconst (v := 0) hx hb dL_law_16 (by decide) ?_
  refine lv_istore_n (lv' := [(3, .int 0), (2, .ref (ma 0)), (1, .ref x), (0, .ref b)]) hx hb dL_law_17 rfl hl (by decide) rfl (fun ls hl => ?_)
  refine W.widen (k := 126) (n := 3977) (Nat.le_of_ble_eq_true rfl) (Nat.le_of_ble_eq_true rfl) ?_
  exact t_L_law (o := 1) G cy st x ta pa la ca ra sa na da ma o7.1 o7.2.1 o7.2.2.1 o7.2.2.2.1 0 0 (fun _ _ _ => 0) (fun _ => 0) (fun _ => 0) 0 0 0 0 (fun _ _ => 0) (fun _ => 0) (fun _ => 0) 0 o7.2.2.2.2.1 o7.2.2.2.2.2 0 0 0 0 0 0 0 0 0 0 (fun _ => 0) o8 (fun _ => 0) (fun _ => 0) (fun _ => 0) (fun _ => 0) (fun _ => 0) (fun _ => 0) (fun _ => 0) (fun _ => 0) (fun _ => 0) (fun _ => 0) (fun _ => 0) (fun _ => 0) 0 hFL hx hb hml hown hts hX hbl hbA hK hSE hA hP hD hS (lv_sub hl [3, 2, 1, 0] rfl) (fun H locs ls pc hd hS => va_forget (fun q hq => hS.2.2 q hq) (W.widen (k := 600000) (n := 7302250) (Nat.le_of_ble_eq_true rfl) (Nat.le_of_ble_eq_true rfl) (lw_ret hx hb hr hlocks hd)))
