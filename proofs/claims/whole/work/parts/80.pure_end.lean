theorem pure_law (L : Nat) (xs : Nat → Int32) (hL : L ≤ 2048) : ∃ (o7 : (Nat → Int32) × (Nat → Int32) × Int32 × Int32 × R2 × R2) (o8 : Nat → Int32), f_X7_init (fun _ => 0) (fun _ => 0) 0 (fun _ _ => 0) (fun _ _ => 0) = some o7 ∧ f_X8_init (fun _ => 0) = some o8 ∧ f_L_law L xs o7.1 o7.2.1 o7.2.2.1 o7.2.2.2.1 0 0 (fun _ _ _ => 0) (fun _ => 0) (fun _ => 0) 0 0 0 0 (fun _ _ => 0) (fun _ => 0) (fun _ => 0) 0 o7.2.2.2.2.1 o7.2.2.2.2.2 0 0 0 0 0 0 0 0 0 0 (fun _ => 0) o8 (fun _ => 0) (fun _ => 0) (fun _ => 0) (fun _ => 0) (fun _ => 0) (fun _ => 0) (fun _ => 0) (fun _ => 0) (fun _ => 0) (fun _ => 0) (fun _ => 0) (fun _ => 0) 0 = some 1 := by
  obtain ⟨o7, e1, o8, e2, h⟩ := init_go
  refine ⟨o7, o8, e1, e2, ?_⟩
  unfold f_L_law
  exact law_go L xs hL 512 0 1000 _ (by omega) (by omega) (by omega) nI_0.symm h
