/-! ===== 31.inits: laid by a program out of the decode rows ===== -/
def f_X8_stands (ms : Nat → Int32) (x01 : Int32) (x02 : Int32) (x03 : Int32) (x04 : Int32) (x05 : Int32) (x06 : Int32) (x07 : Int32) (x08 : Int32) : Option ((Nat → Int32)) :=
zlet (6 + (12 * x01)) fun x1 =>
zg (zin x1 114) (
zlet (upd ms (zn x1) x02) fun ms_2 =>
zg (zin (x1 + 1) 114) (
zlet (upd ms_2 (zn (x1 + 1)) x03) fun ms_3 =>
zg (zin (x1 + 2) 114) (
zlet (upd ms_3 (zn (x1 + 2)) x04) fun ms_4 =>
zg (zin (x1 + 3) 114) (
zlet (upd ms_4 (zn (x1 + 3)) x05) fun ms_5 =>
zg (zin (x1 + 4) 114) (
zlet (upd ms_5 (zn (x1 + 4)) x06) fun ms_6 =>
zg (zin (x1 + 5) 114) (
zlet (upd ms_6 (zn (x1 + 5)) x07) fun ms_7 =>
zg (zin (x1 + 6) 114) (
zlet (upd ms_7 (zn (x1 + 6)) x08) fun ms_8 =>
some ms_8)))))))
set_option maxHeartbeats 4000000 in
set_option maxRecDepth 100000 in
theorem c_X8_stands (l : Launch) (G : va_G) (cy : Nat → ClassId) (st : Nat → Nat) (a : Nat → Nat) (m0 : Int32) (m1 : Int32) (m2 : Int32) (m3 : Int32) (m4 : Int32) (m5 : Int32) (m6 : Int32) (m7 : Int32) (m8 : Int32) (m9 : Int32) (mb : Nat → Int32) (ms : Nat → Int32) (md : Nat → Int32) (mp : Nat → Int32) (mf : Nat → Int32) (mi : Nat → Int32) (mo : Nat → Int32) (mw : Nat → Int32) (mn : Nat → Int32) (mk : Nat → Int32) (mt : Nat → Int64) (mq : Nat → Int32) (mz : Nat → Int32) (me : Nat → Int32) (x01 : Int32) (x02 : Int32) (x03 : Int32) (x04 : Int32) (x05 : Int32) (x06 : Int32) (x07 : Int32) (x08 : Int32) (o : (Nat → Int32)) (hF : f_X8_stands ms x01 x02 x03 x04 x05 x06 x07 x08 = some o) : zMv l yX8_stands wsX8_stands (zR 1) G cy st [.ref (a 0), .int x01, .int x02, .int x03, .int x04, .int x05, .int x06, .int x07, .int x08] (wMo cy a m0 m1 m2 m3 m4 m5 m6 m7 m8 m9 mb ms md mp mf mi mo mw mn mk mt mq mz me) (wMo cy a m0 m1 m2 m3 m4 m5 m6 m7 m8 m9 mb o md mp mf mi mo mw mn mk mt mq mz me) := by
  refine zM_of (cc := cX8_stands) (maxL := 10) (ret := none) (Qc := fun A => zQv G cy A (wMo cy a m0 m1 m2 m3 m4 m5 m6 m7 m8 m9 mb o md mp mf mi mo mw mn mk mt mq mz me)) (by decide) rfl (Nat.le_of_ble_eq_true rfl) ?_
  intro p e s m below meth c A ls hx hb hml hr hlocks hown hts hK hSE hA hP hD hS hl
  have hown : s.vm.findClass RX8 = some m.cls := hown
  have hl : lv_has ls 10 [(0, .ref (a 0)), (1, .int x01), (2, .int x02), (3, .int x03), (4, .int x04), (5, .int x05), (6, .int x06), (7, .int x07), (8, .int x08)] := hl
  have k13 := hts (.fieldLink RX8 13 "TapCascadeModel" "s" "[I") (by decide +kernel)
  have iX8 : ∀ w ∈ wsX80, w ∈ wsX8_stands := fun w h => List.mem_cons_of_mem _ (List.mem_append_right _ h)
  unfold f_X8_stands at hF
  refine lv_bipush (v := 6) hx hb dX8_stands_0 (by decide) ?_
  refine lv_bipush (v := 12) hx hb dX8_stands_2 (by decide) ?_
  refine lv_iload_n hx hb dX8_stands_4 rfl (lv_at hl 1 rfl) ?_
  refine lv_imul hx hb dX8_stands_5 ?_
  refine lv_iadd hx hb dX8_stands_6 ?_
  refine z_leti hF (fun x1 hF => ?_)
  refine lv_istore (lv' := [(9, .int x1), (0, .ref (a 0)), (1, .int x01), (2, .int x02), (3, .int x03), (4, .int x04), (5, .int x05), (6, .int x06), (7, .int x07), (8, .int x08)]) hx hb dX8_stands_7 hl (by decide) rfl (fun ls hl => ?_)
  refine lv_aload_n hx hb dX8_stands_9 rfl (lv_at hl 1 rfl) ?_
  refine va_get (ci := 8) (C := RX8) (T := TX8) (N := 24) (fs := (zMo a m0 m1 m2 m3 m4 m5 m6 m7 m8 m9)) (v := .ref (a 2)) hx hb hts iX8 hown hK hP _ (wMo_at0 cy a m0 m1 m2 m3 m4 m5 m6 m7 m8 m9 mb ms md mp mf mi mo mw mn mk mt mq mz me) rfl 3 (by decide) k13 (fun _ h9 => h9) rfl dX8_stands_10 ?_
  refine lv_iload hx hb dX8_stands_13 (lv_at hl 0 rfl) ?_
  refine lv_iload_n hx hb dX8_stands_15 rfl (lv_at hl 3 rfl) ?_
  refine z_iast (n := 114) (f := ms) (i := x1) (x := x02) (wf := (fun y => (wMo cy a m0 m1 m2 m3 m4 m5 m6 m7 m8 m9 mb y md mp mf mi mo mw mn mk mt mq mz me))) hx hb hK hP hD hS _ 1 (wMo_foc2 cy a m0 m1 m2 m3 m4 m5 m6 m7 m8 m9 mb ms md mp mf mi mo mw mn mk mt mq mz me _) rfl hF dX8_stands_16 (fun ms_2 hF H locs hP hD hS => ?_)
  refine lv_aload_n hx hb dX8_stands_17 rfl (lv_at hl 1 rfl) ?_
  refine va_get (ci := 8) (C := RX8) (T := TX8) (N := 24) (fs := (zMo a m0 m1 m2 m3 m4 m5 m6 m7 m8 m9)) (v := .ref (a 2)) hx hb hts iX8 hown hK hP _ (wMo_at0 cy a m0 m1 m2 m3 m4 m5 m6 m7 m8 m9 mb ms_2 md mp mf mi mo mw mn mk mt mq mz me) rfl 3 (by decide) k13 (fun _ h9 => h9) rfl dX8_stands_18 ?_
  refine lv_iload hx hb dX8_stands_21 (lv_at hl 0 rfl) ?_
  refine lv_iconst (v := 1) hx hb dX8_stands_23 (by decide) ?_
  refine lv_iadd hx hb dX8_stands_24 ?_
  refine lv_iload_n hx hb dX8_stands_25 rfl (lv_at hl 4 rfl) ?_
  refine z_iast (n := 114) (f := ms_2) (i := (x1 + 1)) (x := x03) (wf := (fun y => (wMo cy a m0 m1 m2 m3 m4 m5 m6 m7 m8 m9 mb y md mp mf mi mo mw mn mk mt mq mz me))) hx hb hK hP hD hS _ 1 (wMo_foc2 cy a m0 m1 m2 m3 m4 m5 m6 m7 m8 m9 mb ms_2 md mp mf mi mo mw mn mk mt mq mz me _) rfl hF dX8_stands_26 (fun ms_3 hF H locs hP hD hS => ?_)
  refine lv_aload_n hx hb dX8_stands_27 rfl (lv_at hl 1 rfl) ?_
  refine va_get (ci := 8) (C := RX8) (T := TX8) (N := 24) (fs := (zMo a m0 m1 m2 m3 m4 m5 m6 m7 m8 m9)) (v := .ref (a 2)) hx hb hts iX8 hown hK hP _ (wMo_at0 cy a m0 m1 m2 m3 m4 m5 m6 m7 m8 m9 mb ms_3 md mp mf mi mo mw mn mk mt mq mz me) rfl 3 (by decide) k13 (fun _ h9 => h9) rfl dX8_stands_28 ?_
  refine lv_iload hx hb dX8_stands_31 (lv_at hl 0 rfl) ?_
  refine lv_iconst (v := 2) hx hb dX8_stands_33 (by decide) ?_
  refine lv_iadd hx hb dX8_stands_34 ?_
  refine lv_iload hx hb dX8_stands_35 (lv_at hl 5 rfl) ?_
  refine z_iast (n := 114) (f := ms_3) (i := (x1 + 2)) (x := x04) (wf := (fun y => (wMo cy a m0 m1 m2 m3 m4 m5 m6 m7 m8 m9 mb y md mp mf mi mo mw mn mk mt mq mz me))) hx hb hK hP hD hS _ 1 (wMo_foc2 cy a m0 m1 m2 m3 m4 m5 m6 m7 m8 m9 mb ms_3 md mp mf mi mo mw mn mk mt mq mz me _) rfl hF dX8_stands_37 (fun ms_4 hF H locs hP hD hS => ?_)
  refine lv_aload_n hx hb dX8_stands_38 rfl (lv_at hl 1 rfl) ?_
  refine va_get (ci := 8) (C := RX8) (T := TX8) (N := 24) (fs := (zMo a m0 m1 m2 m3 m4 m5 m6 m7 m8 m9)) (v := .ref (a 2)) hx hb hts iX8 hown hK hP _ (wMo_at0 cy a m0 m1 m2 m3 m4 m5 m6 m7 m8 m9 mb ms_4 md mp mf mi mo mw mn mk mt mq mz me) rfl 3 (by decide) k13 (fun _ h9 => h9) rfl dX8_stands_39 ?_
  refine lv_iload hx hb dX8_stands_42 (lv_at hl 0 rfl) ?_
  refine lv_iconst (v := 3) hx hb dX8_stands_44 (by decide) ?_
  refine lv_iadd hx hb dX8_stands_45 ?_
  refine lv_iload hx hb dX8_stands_46 (lv_at hl 6 rfl) ?_
  refine z_iast (n := 114) (f := ms_4) (i := (x1 + 3)) (x := x05) (wf := (fun y => (wMo cy a m0 m1 m2 m3 m4 m5 m6 m7 m8 m9 mb y md mp mf mi mo mw mn mk mt mq mz me))) hx hb hK hP hD hS _ 1 (wMo_foc2 cy a m0 m1 m2 m3 m4 m5 m6 m7 m8 m9 mb ms_4 md mp mf mi mo mw mn mk mt mq mz me _) rfl hF dX8_stands_48 (fun ms_5 hF H locs hP hD hS => ?_)
  refine lv_aload_n hx hb dX8_stands_49 rfl (lv_at hl 1 rfl) ?_
  refine va_get (ci := 8) (C := RX8) (T := TX8) (N := 24) (fs := (zMo a m0 m1 m2 m3 m4 m5 m6 m7 m8 m9)) (v := .ref (a 2)) hx hb hts iX8 hown hK hP _ (wMo_at0 cy a m0 m1 m2 m3 m4 m5 m6 m7 m8 m9 mb ms_5 md mp mf mi mo mw mn mk mt mq mz me) rfl 3 (by decide) k13 (fun _ h9 => h9) rfl dX8_stands_50 ?_
  refine lv_iload hx hb dX8_stands_53 (lv_at hl 0 rfl) ?_
  refine lv_iconst (v := 4) hx hb dX8_stands_55 (by decide) ?_
  refine lv_iadd hx hb dX8_stands_56 ?_
  refine lv_iload hx hb dX8_stands_57 (lv_at hl 7 rfl) ?_
  refine z_iast (n := 114) (f := ms_5) (i := (x1 + 4)) (x := x06) (wf := (fun y => (wMo cy a m0 m1 m2 m3 m4 m5 m6 m7 m8 m9 mb y md mp mf mi mo mw mn mk mt mq mz me))) hx hb hK hP hD hS _ 1 (wMo_foc2 cy a m0 m1 m2 m3 m4 m5 m6 m7 m8 m9 mb ms_5 md mp mf mi mo mw mn mk mt mq mz me _) rfl hF dX8_stands_59 (fun ms_6 hF H locs hP hD hS => ?_)
  refine lv_aload_n hx hb dX8_stands_60 rfl (lv_at hl 1 rfl) ?_
  refine va_get (ci := 8) (C := RX8) (T := TX8) (N := 24) (fs := (zMo a m0 m1 m2 m3 m4 m5 m6 m7 m8 m9)) (v := .ref (a 2)) hx hb hts iX8 hown hK hP _ (wMo_at0 cy a m0 m1 m2 m3 m4 m5 m6 m7 m8 m9 mb ms_6 md mp mf mi mo mw mn mk mt mq mz me) rfl 3 (by decide) k13 (fun _ h9 => h9) rfl dX8_stands_61 ?_
  refine lv_iload hx hb dX8_stands_64 (lv_at hl 0 rfl) ?_
  refine lv_iconst (v := 5) hx hb dX8_stands_66 (by decide) ?_
  refine lv_iadd hx hb dX8_stands_67 ?_
  refine lv_iload hx hb dX8_stands_68 (lv_at hl 8 rfl) ?_
  refine z_iast (n := 114) (f := ms_6) (i := (x1 + 5)) (x := x07) (wf := (fun y => (wMo cy a m0 m1 m2 m3 m4 m5 m6 m7 m8 m9 mb y md mp mf mi mo mw mn mk mt mq mz me))) hx hb hK hP hD hS _ 1 (wMo_foc2 cy a m0 m1 m2 m3 m4 m5 m6 m7 m8 m9 mb ms_6 md mp mf mi mo mw mn mk mt mq mz me _) rfl hF dX8_stands_70 (fun ms_7 hF H locs hP hD hS => ?_)
  refine lv_aload_n hx hb dX8_stands_71 rfl (lv_at hl 1 rfl) ?_
  refine va_get (ci := 8) (C := RX8) (T := TX8) (N := 24) (fs := (zMo a m0 m1 m2 m3 m4 m5 m6 m7 m8 m9)) (v := .ref (a 2)) hx hb hts iX8 hown hK hP _ (wMo_at0 cy a m0 m1 m2 m3 m4 m5 m6 m7 m8 m9 mb ms_7 md mp mf mi mo mw mn mk mt mq mz me) rfl 3 (by decide) k13 (fun _ h9 => h9) rfl dX8_stands_72 ?_
  refine lv_iload hx hb dX8_stands_75 (lv_at hl 0 rfl) ?_
  refine lv_bipush (v := 6) hx hb dX8_stands_77 (by decide) ?_
  refine lv_iadd hx hb dX8_stands_79 ?_
  refine lv_iload hx hb dX8_stands_80 (lv_at hl 9 rfl) ?_
  refine z_iast (n := 114) (f := ms_7) (i := (x1 + 6)) (x := x08) (wf := (fun y => (wMo cy a m0 m1 m2 m3 m4 m5 m6 m7 m8 m9 mb y md mp mf mi mo mw mn mk mt mq mz me))) hx hb hK hP hD hS _ 1 (wMo_foc2 cy a m0 m1 m2 m3 m4 m5 m6 m7 m8 m9 mb ms_7 md mp mf mi mo mw mn mk mt mq mz me _) rfl hF dX8_stands_82 (fun ms_8 hF H locs hP hD hS => ?_)
  refine z_vret (o := o) (o1 := ms_8) (wf := (fun o => (wMo cy a m0 m1 m2 m3 m4 m5 m6 m7 m8 m9 mb o md mp mf mi mo mw mn mk mt mq mz me))) hx hb hr hlocks hK ?_ ?_ hS ?_ dX8_stands_83
  · exact hP
  · exact hD
  · exact hF
def f_X8_init (ms : Nat → Int32) : Option ((Nat → Int32)) :=
zg (zin 0 114) (
zlet (upd ms (zn 0) 4) fun ms_1 =>
zg (zin 1 114) (
zlet (upd ms_1 (zn 1) 1010) fun ms_2 =>
zbd (f_X8_stands ms_2 0 10 1000 12 2 0 20 8) fun o3 =>
zbd (f_X8_stands o3 1 15 1000 16 3 2 15 9) fun o4 =>
zbd (f_X8_stands o4 2 20 990 25 5 1 (-12) 6) fun o5 =>
zbd (f_X8_stands o5 3 12 985 20 6 0 18 4) fun o6 =>
some o6))
set_option maxHeartbeats 4000000 in
set_option maxRecDepth 100000 in
theorem t_X8_init {p : Program} {l : Launch} {e : Env} {s : State} {m : MethodId} {below : List Frame} {meth : Method} {c : Code} {A : Nat → Prop} {ls : Array Slot} {H : Heap} {locs : List Loc} {Q : State → Prop} (G : va_G) (cy : Nat → ClassId) (st : Nat → Nat) (a : Nat → Nat) (m0 : Int32) (m1 : Int32) (m2 : Int32) (m3 : Int32) (m4 : Int32) (m5 : Int32) (m6 : Int32) (m7 : Int32) (m8 : Int32) (m9 : Int32) (mb : Nat → Int32) (ms : Nat → Int32) (md : Nat → Int32) (mp : Nat → Int32) (mf : Nat → Int32) (mi : Nat → Int32) (mo : Nat → Int32) (mw : Nat → Int32) (mn : Nat → Int32) (mk : Nat → Int32) (mt : Nat → Int64) (mq : Nat → Int32) (mz : Nat → Int32) (me : Nat → Int32) (o : (Nat → Int32)) (hF : f_X8_init ms = some o) (hx : p.tables.exec = Jvm.exec) (hb : c.code = cX8_init) (hml : c.maxLocals = 1) (hown : s.vm.findClass RX8 = some m.cls) (hts : ∀ y ∈ wsX8_init, y.before ([.ref (a 0)] : List Value).toArray s = true) (hK : va_K G vwCl (zT cy) s) (hSE : z_SE st A s s.heap) (hA : ∀ q, s.heap.size ≤ q → A q) (hP : va_P G vwCl (wMo cy a m0 m1 m2 m3 m4 m5 m6 m7 m8 m9 mb ms md mp mf mi mo mw mn mk mt mq mz me) H) (hD : va_D A (wMo cy a m0 m1 m2 m3 m4 m5 m6 m7 m8 m9 mb ms md mp mf mi mo mw mn mk mt mq mz me)) (hS : va_S A s.heap H locs) (hl : lv_has ls 1 [(0, .ref (a 0))]) (hQ : ∀ (H : Heap) (locs : List Loc) (ls : Array Slot), va_P G vwCl (wMo cy a m0 m1 m2 m3 m4 m5 m6 m7 m8 m9 mb o md mp mf mi mo mw mn mk mt mq mz me) H → va_D A (wMo cy a m0 m1 m2 m3 m4 m5 m6 m7 m8 m9 mb o md mp mf mi mo mw mn mk mt mq mz me) → va_S A s.heap H locs → W p l e (zRc 5 14 1856) s m ([.ref (a 0)] : List Value).toArray below meth c H locs 14 1856 Q (F0 m 201 ls [])) : W p l e (zRc 5 14 1856) s m ([.ref (a 0)] : List Value).toArray below meth c H locs 14 1856 Q (F0 m 113 ls []) := by
  have k13 := hts (.fieldLink RX8 13 "TapCascadeModel" "s" "[I") (by decide +kernel)
  have iX8 : ∀ w ∈ wsX80, w ∈ wsX8_init := fun w h => List.mem_cons_of_mem _ (List.mem_append_right _ h)
  unfold f_X8_init at hF
  refine lv_aload_n hx hb dX8_init_113 rfl (lv_at hl 0 rfl) ?_
  refine va_get (ci := 8) (C := RX8) (T := TX8) (N := 24) (fs := (zMo a m0 m1 m2 m3 m4 m5 m6 m7 m8 m9)) (v := .ref (a 2)) hx hb hts iX8 hown hK hP _ (wMo_at0 cy a m0 m1 m2 m3 m4 m5 m6 m7 m8 m9 mb ms md mp mf mi mo mw mn mk mt mq mz me) rfl 3 (by decide) k13 (fun _ h9 => h9) rfl dX8_init_114 ?_
  refine lv_iconst (v := 0) hx hb dX8_init_117 (by decide) ?_
  refine lv_iconst (v := 4) hx hb dX8_init_118 (by decide) ?_
  refine z_iast (n := 114) (f := ms) (i := 0) (x := 4) (wf := (fun y => (wMo cy a m0 m1 m2 m3 m4 m5 m6 m7 m8 m9 mb y md mp mf mi mo mw mn mk mt mq mz me))) hx hb hK hP hD hS _ 1 (wMo_foc2 cy a m0 m1 m2 m3 m4 m5 m6 m7 m8 m9 mb ms md mp mf mi mo mw mn mk mt mq mz me _) rfl hF dX8_init_119 (fun ms_1 hF H locs hP hD hS => ?_)
  refine lv_aload_n hx hb dX8_init_120 rfl (lv_at hl 0 rfl) ?_
  refine va_get (ci := 8) (C := RX8) (T := TX8) (N := 24) (fs := (zMo a m0 m1 m2 m3 m4 m5 m6 m7 m8 m9)) (v := .ref (a 2)) hx hb hts iX8 hown hK hP _ (wMo_at0 cy a m0 m1 m2 m3 m4 m5 m6 m7 m8 m9 mb ms_1 md mp mf mi mo mw mn mk mt mq mz me) rfl 3 (by decide) k13 (fun _ h9 => h9) rfl dX8_init_121 ?_
  refine lv_iconst (v := 1) hx hb dX8_init_124 (by decide) ?_
  refine lv_sipush (v := 1010) hx hb dX8_init_125 (by decide) ?_
  refine z_iast (n := 114) (f := ms_1) (i := 1) (x := 1010) (wf := (fun y => (wMo cy a m0 m1 m2 m3 m4 m5 m6 m7 m8 m9 mb y md mp mf mi mo mw mn mk mt mq mz me))) hx hb hK hP hD hS _ 1 (wMo_foc2 cy a m0 m1 m2 m3 m4 m5 m6 m7 m8 m9 mb ms_1 md mp mf mi mo mw mn mk mt mq mz me _) rfl hF dX8_init_128 (fun ms_2 hF H locs hP hD hS => ?_)
  refine lv_aload_n hx hb dX8_init_129 rfl (lv_at hl 0 rfl) ?_
  refine lv_iconst (v := 0) hx hb dX8_init_130 (by decide) ?_
  refine lv_bipush (v := 10) hx hb dX8_init_131 (by decide) ?_
  refine lv_sipush (v := 1000) hx hb dX8_init_133 (by decide) ?_
  refine lv_bipush (v := 12) hx hb dX8_init_136 (by decide) ?_
  refine lv_iconst (v := 2) hx hb dX8_init_138 (by decide) ?_
  refine lv_iconst (v := 0) hx hb dX8_init_139 (by decide) ?_
  refine lv_bipush (v := 20) hx hb dX8_init_140 (by decide) ?_
  refine lv_bipush (v := 8) hx hb dX8_init_142 (by decide) ?_
  refine z_cVv (b := a 0) (As := [.int 0, .int 10, .int 1000, .int 12, .int 2, .int 0, .int 20, .int 8]) (rest := []) (wc := (wMo cy a m0 m1 m2 m3 m4 m5 m6 m7 m8 m9 mb ms_2 md mp mf mi mo mw mn mk mt mq mz me)) (wcf := fun o' => (wMo cy a m0 m1 m2 m3 m4 m5 m6 m7 m8 m9 mb o' md mp mf mi mo mw mn mk mt mq mz me)) (wf := fun o' => (wMo cy a m0 m1 m2 m3 m4 m5 m6 m7 m8 m9 mb o' md mp mf mi mo mw mn mk mt mq mz me)) hF (fun o' hz => c_X8_stands l G cy st a m0 m1 m2 m3 m4 m5 m6 m7 m8 m9 mb ms_2 md mp mf mi mo mw mn mk mt mq mz me 0 10 1000 12 2 0 20 8 o' hz) (fun o' => zCut_all) ⟨hx, hb, hml, hown, hts⟩ (cwV 8 hts gX8_init_X8_stands rfl rfl rfl (by decide +kernel) ⟨by decide, by decide⟩) (ci := 8) (q0 := 0) rfl (wMo_at0 cy a m0 m1 m2 m3 m4 m5 m6 m7 m8 m9 mb ms_2 md mp mf mi mo mw mn mk mt mq mz me) hK hSE hA hP hD hS rfl hl.1 rfl (Nat.le_of_ble_eq_true rfl) dX8_init_144 ⟨Nat.le_refl _, Nat.le_refl _⟩ (fun o3 hF H locs hP hD hS => ?_)
  refine lv_aload_n hx hb dX8_init_147 rfl (lv_at hl 0 rfl) ?_
  refine lv_iconst (v := 1) hx hb dX8_init_148 (by decide) ?_
  refine lv_bipush (v := 15) hx hb dX8_init_149 (by decide) ?_
  refine lv_sipush (v := 1000) hx hb dX8_init_151 (by decide) ?_
  refine lv_bipush (v := 16) hx hb dX8_init_154 (by decide) ?_
  refine lv_iconst (v := 3) hx hb dX8_init_156 (by decide) ?_
  refine lv_iconst (v := 2) hx hb dX8_init_157 (by decide) ?_
  refine lv_bipush (v := 15) hx hb dX8_init_158 (by decide) ?_
  refine lv_bipush (v := 9) hx hb dX8_init_160 (by decide) ?_
  refine z_cVv (b := a 0) (As := [.int 1, .int 15, .int 1000, .int 16, .int 3, .int 2, .int 15, .int 9]) (rest := []) (wc := (wMo cy a m0 m1 m2 m3 m4 m5 m6 m7 m8 m9 mb o3 md mp mf mi mo mw mn mk mt mq mz me)) (wcf := fun o' => (wMo cy a m0 m1 m2 m3 m4 m5 m6 m7 m8 m9 mb o' md mp mf mi mo mw mn mk mt mq mz me)) (wf := fun o' => (wMo cy a m0 m1 m2 m3 m4 m5 m6 m7 m8 m9 mb o' md mp mf mi mo mw mn mk mt mq mz me)) hF (fun o' hz => c_X8_stands l G cy st a m0 m1 m2 m3 m4 m5 m6 m7 m8 m9 mb o3 md mp mf mi mo mw mn mk mt mq mz me 1 15 1000 16 3 2 15 9 o' hz) (fun o' => zCut_all) ⟨hx, hb, hml, hown, hts⟩ (cwV 8 hts gX8_init_X8_stands rfl rfl rfl (by decide +kernel) ⟨by decide, by decide⟩) (ci := 8) (q0 := 0) rfl (wMo_at0 cy a m0 m1 m2 m3 m4 m5 m6 m7 m8 m9 mb o3 md mp mf mi mo mw mn mk mt mq mz me) hK hSE hA hP hD hS rfl hl.1 rfl (Nat.le_of_ble_eq_true rfl) dX8_init_162 ⟨Nat.le_refl _, Nat.le_refl _⟩ (fun o4 hF H locs hP hD hS => ?_)
  refine lv_aload_n hx hb dX8_init_165 rfl (lv_at hl 0 rfl) ?_
  refine lv_iconst (v := 2) hx hb dX8_init_166 (by decide) ?_
  refine lv_bipush (v := 20) hx hb dX8_init_167 (by decide) ?_
  refine lv_sipush (v := 990) hx hb dX8_init_169 (by decide) ?_
  refine lv_bipush (v := 25) hx hb dX8_init_172 (by decide) ?_
  refine lv_iconst (v := 5) hx hb dX8_init_174 (by decide) ?_
  refine lv_iconst (v := 1) hx hb dX8_init_175 (by decide) ?_
  refine lv_bipush (v := (-12)) hx hb dX8_init_176 (by decide) ?_
  refine lv_bipush (v := 6) hx hb dX8_init_178 (by decide) ?_
  refine z_cVv (b := a 0) (As := [.int 2, .int 20, .int 990, .int 25, .int 5, .int 1, .int (-12), .int 6]) (rest := []) (wc := (wMo cy a m0 m1 m2 m3 m4 m5 m6 m7 m8 m9 mb o4 md mp mf mi mo mw mn mk mt mq mz me)) (wcf := fun o' => (wMo cy a m0 m1 m2 m3 m4 m5 m6 m7 m8 m9 mb o' md mp mf mi mo mw mn mk mt mq mz me)) (wf := fun o' => (wMo cy a m0 m1 m2 m3 m4 m5 m6 m7 m8 m9 mb o' md mp mf mi mo mw mn mk mt mq mz me)) hF (fun o' hz => c_X8_stands l G cy st a m0 m1 m2 m3 m4 m5 m6 m7 m8 m9 mb o4 md mp mf mi mo mw mn mk mt mq mz me 2 20 990 25 5 1 (-12) 6 o' hz) (fun o' => zCut_all) ⟨hx, hb, hml, hown, hts⟩ (cwV 8 hts gX8_init_X8_stands rfl rfl rfl (by decide +kernel) ⟨by decide, by decide⟩) (ci := 8) (q0 := 0) rfl (wMo_at0 cy a m0 m1 m2 m3 m4 m5 m6 m7 m8 m9 mb o4 md mp mf mi mo mw mn mk mt mq mz me) hK hSE hA hP hD hS rfl hl.1 rfl (Nat.le_of_ble_eq_true rfl) dX8_init_180 ⟨Nat.le_refl _, Nat.le_refl _⟩ (fun o5 hF H locs hP hD hS => ?_)
  refine lv_aload_n hx hb dX8_init_183 rfl (lv_at hl 0 rfl) ?_
  refine lv_iconst (v := 3) hx hb dX8_init_184 (by decide) ?_
  refine lv_bipush (v := 12) hx hb dX8_init_185 (by decide) ?_
  refine lv_sipush (v := 985) hx hb dX8_init_187 (by decide) ?_
  refine lv_bipush (v := 20) hx hb dX8_init_190 (by decide) ?_
  refine lv_bipush (v := 6) hx hb dX8_init_192 (by decide) ?_
  refine lv_iconst (v := 0) hx hb dX8_init_194 (by decide) ?_
  refine lv_bipush (v := 18) hx hb dX8_init_195 (by decide) ?_
  refine lv_iconst (v := 4) hx hb dX8_init_197 (by decide) ?_
  refine z_cVv (b := a 0) (As := [.int 3, .int 12, .int 985, .int 20, .int 6, .int 0, .int 18, .int 4]) (rest := []) (wc := (wMo cy a m0 m1 m2 m3 m4 m5 m6 m7 m8 m9 mb o5 md mp mf mi mo mw mn mk mt mq mz me)) (wcf := fun o' => (wMo cy a m0 m1 m2 m3 m4 m5 m6 m7 m8 m9 mb o' md mp mf mi mo mw mn mk mt mq mz me)) (wf := fun o' => (wMo cy a m0 m1 m2 m3 m4 m5 m6 m7 m8 m9 mb o' md mp mf mi mo mw mn mk mt mq mz me)) hF (fun o' hz => c_X8_stands l G cy st a m0 m1 m2 m3 m4 m5 m6 m7 m8 m9 mb o5 md mp mf mi mo mw mn mk mt mq mz me 3 12 985 20 6 0 18 4 o' hz) (fun o' => zCut_all) ⟨hx, hb, hml, hown, hts⟩ (cwV 8 hts gX8_init_X8_stands rfl rfl rfl (by decide +kernel) ⟨by decide, by decide⟩) (ci := 8) (q0 := 0) rfl (wMo_at0 cy a m0 m1 m2 m3 m4 m5 m6 m7 m8 m9 mb o5 md mp mf mi mo mw mn mk mt mq mz me) hK hSE hA hP hD hS rfl hl.1 rfl (Nat.le_of_ble_eq_true rfl) dX8_init_198 ⟨Nat.le_refl _, Nat.le_refl _⟩ (fun o6 hF H locs hP hD hS => ?_)
  have hF := Option.some.inj hF
  subst hF
  exact hQ _ _ ls hP hD hS
def j_X7_init_128 (tl_1 : Nat → Int32) (td_5 : Nat → Int32) (tq_6 : Int32) (u_7 : R2) (v_8 : R2) : Option ((Nat → Int32) × (Nat → Int32) × Int32 × Int32 × R2 × R2) :=
zlet 0 fun tn_9 =>
some (tl_1, td_5, tn_9, tq_6, v_8, u_7)
def j_X7_init_101 (td : Nat → Int32) (v : R2) (u : R2) (tl_1 : Nat → Int32) (tn_2 : Int32) : Option ((Nat → Int32) × (Nat → Int32) × Int32 × Int32 × R2 × R2) :=
zbd (f_X6_readInto tl_1 td tn_2 u) fun o3 =>
zlet (o3.1) fun x4 =>
zlet (o3.2.1) fun td_5 =>
zlet (o3.2.2.1) fun tq_6 =>
zlet (o3.2.2.2) fun u_7 =>
if x4 = (-4 : Int32) then (
zbd (f_X1_copyFrom v u_7) fun o10 =>
j_X7_init_128 tl_1 td_5 tq_6 u_7 o10) else (
j_X7_init_128 tl_1 td_5 tq_6 u_7 v)
def b_X7_init_72 (td : Nat → Int32) (v : R2) (u : R2) (rc72 : (Int32 × (Nat → Int32) × Int32) → Option ((Nat → Int32) × (Nat → Int32) × Int32 × Int32 × R2 × R2)) (s72 : Int32 × (Nat → Int32) × Int32) : Option ((Nat → Int32) × (Nat → Int32) × Int32 × Int32 × R2 × R2) :=
zbd (f_J0_length_8abf5) fun o11 =>
if o11 ≤ s72.1 then (
j_X7_init_101 td v u s72.2.1 s72.2.2) else (
zbd (f_J0_charAt_5068e s72.1) fun o12 =>
zbd (f_X6_append s72.2.1 s72.2.2 o12) fun o13 =>
zlet (s72.1 + 1) fun x14 =>
rc72 (x14, o13.2.1, o13.2.2))
def f_X7_init (tl : Nat → Int32) (td : Nat → Int32) (tn : Int32) (v : R2) (u : R2) : Option ((Nat → Int32) × (Nat → Int32) × Int32 × Int32 × R2 × R2) :=
zloop (b_X7_init_72 td v u) 1000 (0, tl, tn)
set_option maxHeartbeats 4000000 in
set_option maxRecDepth 100000 in
theorem t_X7_init {p : Program} {l : Launch} {e : Env} {s : State} {m : MethodId} {below : List Frame} {meth : Method} {c : Code} {A : Nat → Prop} {ls : Array Slot} {H : Heap} {locs : List Loc} {Q : State → Prop} (G : va_G) (cy : Nat → ClassId) (st : Nat → Nat) (x : Nat) (ta : Nat → Nat) (pa : Nat → Nat) (la : Nat → Nat → Nat) (ca : Nat → Nat) (ra : Nat → Nat) (sa : Nat → Nat) (na : Nat → Nat) (da : Nat → Nat) (tl : Nat → Int32) (td : Nat → Int32) (tn : Int32) (tq : Int32) (pn : Int32) (pz : Int32) (pl : Nat → R2) (sn : Nat → Int64) (sb : Nat → Int32) (c0 : Int32) (c1 : Int32) (c2 : Int32) (c3 : Int32) (tv : R2) (sp : Nat → Int32) (sq : Nat → Int32) (sk : Int32) (v : R2) (u : R2) (o : (Nat → Int32) × (Nat → Int32) × Int32 × Int32 × R2 × R2) (hF : f_X7_init tl td tn v u = some o) (hx : p.tables.exec = Jvm.exec) (hb : c.code = cX7_init) (hml : c.maxLocals = 2) (hown : s.vm.findClass RX7 = some m.cls) (hts : ∀ y ∈ wsX7_init, y.before ([.ref x] : List Value).toArray s = true) (hK : va_K G vwCl (zT cy) s) (hSE : z_SE st A s s.heap) (hA : ∀ q, s.heap.size ≤ q → A q) (hP : va_P G vwCl ((wTo cy x (ta 0) (na 0) (da 0) (pa 0) (ca 0) (sa 0)) ++ ((wTx cy ta tl td tn tq) ++ ((wPo cy pa la pn pz) ++ ((wLs cy la pl) ++ ((wCo cy ca (ra 0) sn sb c0 c1 c2 c3) ++ ((wLn cy ra tv) ++ ((wSe cy sa sp sq sk) ++ ((wLn cy na v) ++ (wLn cy da u))))))))) H) (hD : va_D A ((wTo cy x (ta 0) (na 0) (da 0) (pa 0) (ca 0) (sa 0)) ++ ((wTx cy ta tl td tn tq) ++ ((wPo cy pa la pn pz) ++ ((wLs cy la pl) ++ ((wCo cy ca (ra 0) sn sb c0 c1 c2 c3) ++ ((wLn cy ra tv) ++ ((wSe cy sa sp sq sk) ++ ((wLn cy na v) ++ (wLn cy da u)))))))))) (hS : va_S A s.heap H locs) (hl : lv_has ls 2 [(0, .ref x)]) (hQ : ∀ (H : Heap) (locs : List Loc) (ls : Array Slot), va_P G vwCl ((wTo cy x (ta 0) (na 0) (da 0) (pa 0) (ca 0) (sa 0)) ++ ((wTx cy ta o.1 o.2.1 o.2.2.1 o.2.2.2.1) ++ ((wPo cy pa la pn pz) ++ ((wLs cy la pl) ++ ((wCo cy ca (ra 0) sn sb c0 c1 c2 c3) ++ ((wLn cy ra tv) ++ ((wSe cy sa sp sq sk) ++ ((wLn cy na o.2.2.2.2.1) ++ (wLn cy da o.2.2.2.2.2))))))))) H → va_D A ((wTo cy x (ta 0) (na 0) (da 0) (pa 0) (ca 0) (sa 0)) ++ ((wTx cy ta o.1 o.2.1 o.2.2.1 o.2.2.2.1) ++ ((wPo cy pa la pn pz) ++ ((wLs cy la pl) ++ ((wCo cy ca (ra 0) sn sb c0 c1 c2 c3) ++ ((wLn cy ra tv) ++ ((wSe cy sa sp sq sk) ++ ((wLn cy na o.2.2.2.2.1) ++ (wLn cy da o.2.2.2.2.2))))))))) → va_S A s.heap H locs → W p l e (zRc 6 110 2091) s m ([.ref x] : List Value).toArray below meth c H locs 110 2091 Q (F0 m 136 ls [])) : W p l e (zRc 6 110 2091) s m ([.ref x] : List Value).toArray below meth c H locs 110 2091 Q (F0 m 70 ls []) := by
  have k10 := hts (.fieldLink RX7 10 "TapCascade" "text" "LTapCascade$Text;") (by decide +kernel)
  have iX7 : ∀ w ∈ wsX70, w ∈ wsX7_init := fun w h => List.mem_cons_of_mem _ (List.mem_append_left _ (List.mem_append_left _ (List.mem_append_left _ (List.mem_append_left _ (List.mem_append_left _ (List.mem_append_left _ (List.mem_append_right _ h)))))))
  have k23 := hts (.fieldLink RX7 23 "TapCascade" "draft" "LTapCascade$Line;") (by decide +kernel)
  have k71 := hts (.fieldLink RX7 71 "TapCascade$Text" "length" "I") (by decide +kernel)
  have iX6 : ∀ w ∈ wsX60, w ∈ wsX7_init := fun w h => List.mem_cons_of_mem _ (List.mem_append_left _ (List.mem_append_left _ (List.mem_append_left _ (List.mem_append_left _ (List.mem_append_left _ (List.mem_append_left _ (List.mem_append_left _ (List.mem_append_right _ h))))))))
  have k19 := hts (.fieldLink RX7 19 "TapCascade" "line" "LTapCascade$Line;") (by decide +kernel)
  unfold f_X7_init at hF
  refine lv_iconst (v := 0) hx hb dX7_init_70 (by decide) ?_
  refine lv_istore_n (lv' := [(1, .int 0), (0, .ref x)]) hx hb dX7_init_71 rfl hl (by decide) rfl (fun ls hl => ?_)
  have J101 : ∀ (tl_1 : Nat → Int32) (tn_2 : Int32) (H : Heap) (locs : List Loc) (ls : Array Slot), va_P G vwCl ((wTo cy x (ta 0) (na 0) (da 0) (pa 0) (ca 0) (sa 0)) ++ ((wTx cy ta tl_1 td tn_2 tq) ++ ((wPo cy pa la pn pz) ++ ((wLs cy la pl) ++ ((wCo cy ca (ra 0) sn sb c0 c1 c2 c3) ++ ((wLn cy ra tv) ++ ((wSe cy sa sp sq sk) ++ ((wLn cy na v) ++ (wLn cy da u))))))))) H → va_D A ((wTo cy x (ta 0) (na 0) (da 0) (pa 0) (ca 0) (sa 0)) ++ ((wTx cy ta tl_1 td tn_2 tq) ++ ((wPo cy pa la pn pz) ++ ((wLs cy la pl) ++ ((wCo cy ca (ra 0) sn sb c0 c1 c2 c3) ++ ((wLn cy ra tv) ++ ((wSe cy sa sp sq sk) ++ ((wLn cy na v) ++ (wLn cy da u))))))))) → va_S A s.heap H locs → lv_has ls 2 [(0, .ref x)] → j_X7_init_101 td v u tl_1 tn_2 = some o → W p l e (zRc 6 110 2091) s m ([.ref x] : List Value).toArray below meth c H locs 110 2091 Q (F0 m 101 ls []) := by
    intro tl_1 tn_2 H locs ls hP hD hS hl hF
    unfold j_X7_init_101 at hF
    refine lv_aload_n hx hb dX7_init_101 rfl (lv_at hl 0 rfl) ?_
    refine va_get (ci := 7) (C := RX7) (T := TX7) (N := 6) (fs := (zTo x (ta 0) (na 0) (da 0) (pa 0) (ca 0) (sa 0))) (v := .ref (ta 0)) hx hb hts iX7 hown hK hP _ (zat_l (wTo_at0 cy x (ta 0) (na 0) (da 0) (pa 0) (ca 0) (sa 0))) rfl 0 (by decide) k10 (fun _ h9 => h9) rfl dX7_init_102 ?_
    refine lv_aload_n hx hb dX7_init_105 rfl (lv_at hl 0 rfl) ?_
    refine va_get (ci := 7) (C := RX7) (T := TX7) (N := 6) (fs := (zTo x (ta 0) (na 0) (da 0) (pa 0) (ca 0) (sa 0))) (v := .ref (da 0)) hx hb hts iX7 hown hK hP _ (zat_l (wTo_at0 cy x (ta 0) (na 0) (da 0) (pa 0) (ca 0) (sa 0))) rfl 2 (by decide) k23 (fun _ h9 => h9) rfl dX7_init_106 ?_
    refine z_cVi (b := ta 0) (As := [.ref (da 0)]) (rest := []) (wc := ((wTx cy ta tl_1 td tn_2 tq) ++ (wLn cy da u))) (wcf := fun o' => ((wTx cy ta tl_1 o'.2.1 tn_2 o'.2.2.1) ++ (wLn cy da o'.2.2.2))) (wf := fun o' => ((wTo cy x (ta 0) (na 0) (da 0) (pa 0) (ca 0) (sa 0)) ++ ((wTx cy ta tl_1 o'.2.1 tn_2 o'.2.2.1) ++ ((wPo cy pa la pn pz) ++ ((wLs cy la pl) ++ ((wCo cy ca (ra 0) sn sb c0 c1 c2 c3) ++ ((wLn cy ra tv) ++ ((wSe cy sa sp sq sk) ++ ((wLn cy na v) ++ (wLn cy da o'.2.2.2)))))))))) (rf := fun o' => o'.1) hF (fun o' hz => c_X6_readInto l G cy st ta da tl_1 td tn_2 tq u o' hz) (fun o' => (zCut_r (zCut_b zCut_all (zCut_r (zCut_r (zCut_r (zCut_r (zCut_r (zCut_r zCut_all))))))))) ⟨hx, hb, hml, hown, hts⟩ (cwV 1 hts gX7_init_X6_readInto rfl rfl rfl (by decide +kernel) ⟨by decide, by decide⟩) (ci := 6) (q0 := 0) rfl (zat_l (wTx_at0 cy ta tl_1 td tn_2 tq)) hK hSE hA hP hD hS rfl hl.1 rfl (Nat.le_of_ble_eq_true rfl) dX7_init_109 ⟨Nat.le_refl _, Nat.le_refl _⟩ (fun o3 hF H locs hP hD hS => ?_)
    refine z_leti hF (fun x4 hF => ?_)
    refine z_nameW (wf := (fun y => ((wTo cy x (ta 0) (na 0) (da 0) (pa 0) (ca 0) (sa 0)) ++ ((wTx cy ta tl_1 y tn_2 o3.2.2.1) ++ ((wPo cy pa la pn pz) ++ ((wLs cy la pl) ++ ((wCo cy ca (ra 0) sn sb c0 c1 c2 c3) ++ ((wLn cy ra tv) ++ ((wSe cy sa sp sq sk) ++ ((wLn cy na v) ++ (wLn cy da o3.2.2.2))))))))))) hF hP hD (fun td_5 hF hP hD => ?_)
    refine z_nameW (wf := (fun y => ((wTo cy x (ta 0) (na 0) (da 0) (pa 0) (ca 0) (sa 0)) ++ ((wTx cy ta tl_1 td_5 tn_2 y) ++ ((wPo cy pa la pn pz) ++ ((wLs cy la pl) ++ ((wCo cy ca (ra 0) sn sb c0 c1 c2 c3) ++ ((wLn cy ra tv) ++ ((wSe cy sa sp sq sk) ++ ((wLn cy na v) ++ (wLn cy da o3.2.2.2))))))))))) hF hP hD (fun tq_6 hF hP hD => ?_)
    refine z_nameW (wf := (fun y => ((wTo cy x (ta 0) (na 0) (da 0) (pa 0) (ca 0) (sa 0)) ++ ((wTx cy ta tl_1 td_5 tn_2 tq_6) ++ ((wPo cy pa la pn pz) ++ ((wLs cy la pl) ++ ((wCo cy ca (ra 0) sn sb c0 c1 c2 c3) ++ ((wLn cy ra tv) ++ ((wSe cy sa sp sq sk) ++ ((wLn cy na v) ++ (wLn cy da y))))))))))) hF hP hD (fun u_7 hF hP hD => ?_)
    refine lv_bipush (v := (-4)) hx hb dX7_init_112 (by decide) ?_
    have J128 : ∀ (v_8 : R2) (H : Heap) (locs : List Loc) (ls : Array Slot), va_P G vwCl ((wTo cy x (ta 0) (na 0) (da 0) (pa 0) (ca 0) (sa 0)) ++ ((wTx cy ta tl_1 td_5 tn_2 tq_6) ++ ((wPo cy pa la pn pz) ++ ((wLs cy la pl) ++ ((wCo cy ca (ra 0) sn sb c0 c1 c2 c3) ++ ((wLn cy ra tv) ++ ((wSe cy sa sp sq sk) ++ ((wLn cy na v_8) ++ (wLn cy da u_7))))))))) H → va_D A ((wTo cy x (ta 0) (na 0) (da 0) (pa 0) (ca 0) (sa 0)) ++ ((wTx cy ta tl_1 td_5 tn_2 tq_6) ++ ((wPo cy pa la pn pz) ++ ((wLs cy la pl) ++ ((wCo cy ca (ra 0) sn sb c0 c1 c2 c3) ++ ((wLn cy ra tv) ++ ((wSe cy sa sp sq sk) ++ ((wLn cy na v_8) ++ (wLn cy da u_7))))))))) → va_S A s.heap H locs → lv_has ls 2 [(0, .ref x)] → j_X7_init_128 tl_1 td_5 tq_6 u_7 v_8 = some o → W p l e (zRc 6 110 2091) s m ([.ref x] : List Value).toArray below meth c H locs 110 2091 Q (F0 m 128 ls []) := by
      intro v_8 H locs ls hP hD hS hl hF
      unfold j_X7_init_128 at hF
      refine lv_aload_n hx hb dX7_init_128 rfl (lv_at hl 0 rfl) ?_
      refine va_get (ci := 7) (C := RX7) (T := TX7) (N := 6) (fs := (zTo x (ta 0) (na 0) (da 0) (pa 0) (ca 0) (sa 0))) (v := .ref (ta 0)) hx hb hts iX7 hown hK hP _ (zat_l (wTo_at0 cy x (ta 0) (na 0) (da 0) (pa 0) (ca 0) (sa 0))) rfl 0 (by decide) k10 (fun _ h9 => h9) rfl dX7_init_129 ?_
      refine lv_iconst (v := 0) hx hb dX7_init_132 (by decide) ?_
      refine z_puti (ci := 6) (C := RX6) (T := TX6) (N := 4) (fs := (zTx ta tn_2 tq_6)) (x := 0) (wf := (fun y => ((wTo cy x (ta 0) (na 0) (da 0) (pa 0) (ca 0) (sa 0)) ++ ((wTx cy ta tl_1 td_5 y tq_6) ++ ((wPo cy pa la pn pz) ++ ((wLs cy la pl) ++ ((wCo cy ca (ra 0) sn sb c0 c1 c2 c3) ++ ((wLn cy ra tv) ++ ((wSe cy sa sp sq sk) ++ ((wLn cy na v_8) ++ (wLn cy da u_7))))))))))) hx hb hts iX6 tyX6 tyX6_ok nmX6 hown hK hP hD hS _ 2 (zFoc_r (wTo_len cy x (ta 0) (na 0) (da 0) (pa 0) (ca 0) (sa 0)) (zFoc_l (wTx_foc0_2 cy ta tl_1 td_5 tn_2 tq_6 0))) rfl (by decide) k71 (fun _ h9 => h9) rfl (by decide +kernel) (Nat.le_of_ble_eq_true rfl) hF dX7_init_133 (fun tn_9 hF H locs hP hD hS => ?_)
      have hF := Option.some.inj hF
      subst hF
      exact hQ _ _ ls hP hD hS
    refine zi_ne (tgt := 128) hx hb hF dX7_init_114 (by decide) (fun hF => ?_) (fun hF => ?_)
    · exact J128 v _ _ ls hP hD hS (lv_sub hl [0] rfl) hF
    · refine lv_aload_n hx hb dX7_init_117 rfl (lv_at hl 0 rfl) ?_
      refine va_get (ci := 7) (C := RX7) (T := TX7) (N := 6) (fs := (zTo x (ta 0) (na 0) (da 0) (pa 0) (ca 0) (sa 0))) (v := .ref (na 0)) hx hb hts iX7 hown hK hP _ (zat_l (wTo_at0 cy x (ta 0) (na 0) (da 0) (pa 0) (ca 0) (sa 0))) rfl 1 (by decide) k19 (fun _ h9 => h9) rfl dX7_init_118 ?_
      refine lv_aload_n hx hb dX7_init_121 rfl (lv_at hl 0 rfl) ?_
      refine va_get (ci := 7) (C := RX7) (T := TX7) (N := 6) (fs := (zTo x (ta 0) (na 0) (da 0) (pa 0) (ca 0) (sa 0))) (v := .ref (da 0)) hx hb hts iX7 hown hK hP _ (zat_l (wTo_at0 cy x (ta 0) (na 0) (da 0) (pa 0) (ca 0) (sa 0))) rfl 2 (by decide) k23 (fun _ h9 => h9) rfl dX7_init_122 ?_
      refine z_cVv (b := na 0) (As := [.ref (da 0)]) (rest := []) (wc := ((wLn cy na v) ++ (wLn cy da u_7))) (wcf := fun o' => ((wLn cy na o') ++ (wLn cy da u_7))) (wf := fun o' => ((wTo cy x (ta 0) (na 0) (da 0) (pa 0) (ca 0) (sa 0)) ++ ((wTx cy ta tl_1 td_5 tn_2 tq_6) ++ ((wPo cy pa la pn pz) ++ ((wLs cy la pl) ++ ((wCo cy ca (ra 0) sn sb c0 c1 c2 c3) ++ ((wLn cy ra tv) ++ ((wSe cy sa sp sq sk) ++ ((wLn cy na o') ++ (wLn cy da u_7)))))))))) hF (fun o' hz => c_X1_copyFrom l G cy st na da v u_7 o' hz) (fun o' => (zCut_r (zCut_r (zCut_r (zCut_r (zCut_r (zCut_r (zCut_r (zCut_b zCut_all zCut_all))))))))) ⟨hx, hb, hml, hown, hts⟩ (cwV 1 hts gX7_init_X1_copyFrom rfl rfl rfl (by decide +kernel) ⟨by decide, by decide⟩) (ci := 1) (q0 := 0) rfl (zat_l (wLn_at0 cy na v)) hK hSE hA hP hD hS rfl hl.1 rfl (Nat.le_of_ble_eq_true rfl) dX7_init_125 ⟨Nat.le_refl _, Nat.le_refl _⟩ (fun o10 hF H locs hP hD hS => ?_)
      exact J128 o10 _ _ ls hP hD hS (lv_sub hl [0] rfl) hF
  have L72 : ∀ (n : Nat) (s72 : Int32 × (Nat → Int32) × Int32) (H : Heap) (locs : List Loc) (ls : Array Slot), va_P G vwCl ((wTo cy x (ta 0) (na 0) (da 0) (pa 0) (ca 0) (sa 0)) ++ ((wTx cy ta s72.2.1 td s72.2.2 tq) ++ ((wPo cy pa la pn pz) ++ ((wLs cy la pl) ++ ((wCo cy ca (ra 0) sn sb c0 c1 c2 c3) ++ ((wLn cy ra tv) ++ ((wSe cy sa sp sq sk) ++ ((wLn cy na v) ++ (wLn cy da u))))))))) H → va_D A ((wTo cy x (ta 0) (na 0) (da 0) (pa 0) (ca 0) (sa 0)) ++ ((wTx cy ta s72.2.1 td s72.2.2 tq) ++ ((wPo cy pa la pn pz) ++ ((wLs cy la pl) ++ ((wCo cy ca (ra 0) sn sb c0 c1 c2 c3) ++ ((wLn cy ra tv) ++ ((wSe cy sa sp sq sk) ++ ((wLn cy na v) ++ (wLn cy da u))))))))) → va_S A s.heap H locs → lv_has ls 2 [(0, .ref x), (1, .int s72.1)] → zloop (b_X7_init_72 td v u) n s72 = some o → W p l e (zRc 6 110 2091) s m ([.ref x] : List Value).toArray below meth c H locs 110 2091 Q (F0 m 72 ls []) := by
    intro n
    induction n with
    | zero => exact fun s72 H locs ls _ _ _ _ hF => (zloop_0 hF).elim
    | succ n ih72 =>
      intro s72 H locs ls hP hD hS hl hF
      have hF : b_X7_init_72 td v u (zloop (b_X7_init_72 td v u) n) s72 = some o := hF
      generalize zloop (b_X7_init_72 td v u) n = rc72 at ih72 hF
      unfold b_X7_init_72 at hF
      refine lv_iload_n hx hb dX7_init_72 rfl (lv_at hl 1 rfl) ?_
      refine va_ldcS hx hb hown hSE.2.2.2.2.2.1 dX7_init_73 ?_
      refine z_cWi (b := st 2) (As := []) (rest := [.int s72.1]) (wc := ([] : va_W)) (wcf := fun o' => ([] : va_W)) (wf := fun o' => ((wTo cy x (ta 0) (na 0) (da 0) (pa 0) (ca 0) (sa 0)) ++ ((wTx cy ta s72.2.1 td s72.2.2 tq) ++ ((wPo cy pa la pn pz) ++ ((wLs cy la pl) ++ ((wCo cy ca (ra 0) sn sb c0 c1 c2 c3) ++ ((wLn cy ra tv) ++ ((wSe cy sa sp sq sk) ++ ((wLn cy na v) ++ (wLn cy da u)))))))))) (rf := fun o' => o') hF (fun o' hz => c_J0_length_8abf5 l G cy st  o' hz) (fun o' => zCut_nil) ⟨hx, hb, hml, hown, hts⟩ (cwV 0 hts gX7_init_J0_length_8abf5 rfl rfl rfl (by decide +kernel) ⟨by decide, by decide⟩) (C := RJ0) (by obtain ⟨cell, h1, h2, h3, -⟩ := hSE.2.2.2.1.1.kept hS.2.1; exact ⟨cell, h1, h2, h3⟩) hK hSE hA hP hD hS rfl hl.1 rfl (Nat.le_of_ble_eq_true rfl) dX7_init_75 ⟨Nat.le_refl _, Nat.le_refl _⟩ (fun o11 hF H locs hP hD hS => ?_)
      refine zi_ge (tgt := 101) hx hb hF dX7_init_78 (by decide) (fun hF => ?_) (fun hF => ?_)
      · exact J101 s72.2.1 s72.2.2 _ _ ls hP hD hS (lv_sub hl [0] rfl) hF
      · refine lv_aload_n hx hb dX7_init_81 rfl (lv_at hl 0 rfl) ?_
        refine va_get (ci := 7) (C := RX7) (T := TX7) (N := 6) (fs := (zTo x (ta 0) (na 0) (da 0) (pa 0) (ca 0) (sa 0))) (v := .ref (ta 0)) hx hb hts iX7 hown hK hP _ (zat_l (wTo_at0 cy x (ta 0) (na 0) (da 0) (pa 0) (ca 0) (sa 0))) rfl 0 (by decide) k10 (fun _ h9 => h9) rfl dX7_init_82 ?_
        refine va_ldcS hx hb hown hSE.2.2.2.2.2.1 dX7_init_85 ?_
        refine lv_iload_n hx hb dX7_init_87 rfl (lv_at hl 1 rfl) ?_
        refine z_cWi (b := st 2) (As := [.int s72.1]) (rest := [.ref (ta 0)]) (wc := ([] : va_W)) (wcf := fun o' => ([] : va_W)) (wf := fun o' => ((wTo cy x (ta 0) (na 0) (da 0) (pa 0) (ca 0) (sa 0)) ++ ((wTx cy ta s72.2.1 td s72.2.2 tq) ++ ((wPo cy pa la pn pz) ++ ((wLs cy la pl) ++ ((wCo cy ca (ra 0) sn sb c0 c1 c2 c3) ++ ((wLn cy ra tv) ++ ((wSe cy sa sp sq sk) ++ ((wLn cy na v) ++ (wLn cy da u)))))))))) (rf := fun o' => o') hF (fun o' hz => c_J0_charAt_5068e l G cy st s72.1 o' hz) (fun o' => zCut_nil) ⟨hx, hb, hml, hown, hts⟩ (cwV 1 hts gX7_init_J0_charAt_5068e rfl rfl rfl (by decide +kernel) ⟨by decide, by decide⟩) (C := RJ0) (by obtain ⟨cell, h1, h2, h3, -⟩ := hSE.2.2.2.1.1.kept hS.2.1; exact ⟨cell, h1, h2, h3⟩) hK hSE hA hP hD hS rfl hl.1 rfl (Nat.le_of_ble_eq_true rfl) dX7_init_88 ⟨Nat.le_refl _, Nat.le_refl _⟩ (fun o12 hF H locs hP hD hS => ?_)
        refine z_cVi (b := ta 0) (As := [.int o12]) (rest := []) (wc := (wTx cy ta s72.2.1 td s72.2.2 tq)) (wcf := fun o' => (wTx cy ta o'.2.1 td o'.2.2 tq)) (wf := fun o' => ((wTo cy x (ta 0) (na 0) (da 0) (pa 0) (ca 0) (sa 0)) ++ ((wTx cy ta o'.2.1 td o'.2.2 tq) ++ ((wPo cy pa la pn pz) ++ ((wLs cy la pl) ++ ((wCo cy ca (ra 0) sn sb c0 c1 c2 c3) ++ ((wLn cy ra tv) ++ ((wSe cy sa sp sq sk) ++ ((wLn cy na v) ++ (wLn cy da u)))))))))) (rf := fun o' => o'.1) hF (fun o' hz => c_X6_append l G cy st ta s72.2.1 td s72.2.2 tq o12 o' hz) (fun o' => (zCut_r (zCut_l zCut_all))) ⟨hx, hb, hml, hown, hts⟩ (cwV 1 hts gX7_init_X6_append rfl rfl rfl (by decide +kernel) ⟨by decide, by decide⟩) (ci := 6) (q0 := 0) rfl (wTx_at0 cy ta s72.2.1 td s72.2.2 tq) hK hSE hA hP hD hS rfl hl.1 rfl (Nat.le_of_ble_eq_true rfl) dX7_init_91 ⟨Nat.le_refl _, Nat.le_refl _⟩ (fun o13 hF H locs hP hD hS => ?_)
        refine lv_pop hx hb dX7_init_94 rfl ?_
        refine z_name hF (fun x14 ex14 hF => ?_)
        refine lv_iinc (v := x14) (lv' := [(1, .int x14), (0, .ref x)]) hx hb dX7_init_95 hl (k := 1) rfl (by rw [ex14]; rfl) (by decide) rfl (fun ls hl => ?_)
        refine lv_goto (tgt := 72) hx hb dX7_init_98 (by decide) ?_
        exact ih72 (x14, o13.2.1, o13.2.2) _ _ ls hP hD hS (lv_sub hl [1, 0] rfl) hF
  exact L72 1000 (0, tl, tn) _ _ ls hP hD hS (lv_sub hl [1, 0] rfl) hF
