theorem mv31_here : True := trivial
set_option maxHeartbeats 4000000 in
set_option maxRecDepth 100000 in
theorem c_X12_areApart (l : Launch) (G : mvG) (t : Nat) (o : Nat) (ht : t < 25) (ho : o < 25) : KQ l yX12_areApart cX12_areApart 4 (some .boolean) (1, 22) G [.int (nI t), .int (nI o)] [] (fun (zz : Nat) => some (.int (nI zz))) (fun (zz : Nat) => (zz = 1 ∧ (t / 5 + 1 < o / 5 ∨ o / 5 + 1 < t / 5 ∨ t % 5 + 1 < o % 5 ∨ o % 5 + 1 < t % 5)) ∨ (zz = 0 ∧ (t / 5 ≤ o / 5 + 1 ∧ o / 5 ≤ t / 5 + 1 ∧ t % 5 ≤ o % 5 + 1 ∧ o % 5 ≤ t % 5 + 1))) (fun (zz : Nat) => []) := by
  refine KQ.mk (by decide +kernel) (fun _ _ => rfl) [some (.int (nI t)), some (.int (nI o)), none, none] (Nat.le_of_ble_eq_true rfl) rfl (fun C X Y hC => ?_)
  subst hC
  refine V_iload_n X dX12_areApart_0 rfl ?_
  refine V_iconst X (nI 5) dX12_areApart_1 (by decide) ?_
  refine V_idivN X dX12_areApart_2 (by omega) (by omega) (by omega) ?_
  refine V_iload_n X dX12_areApart_3 rfl ?_
  refine V_iconst X (nI 5) dX12_areApart_4 (by decide) ?_
  refine V_idivN X dX12_areApart_5 (by omega) (by omega) (by omega) ?_
  refine V_two (show (nI (t / 5)) = iI ((t / 5 : Nat) : Int) from rfl) (show (nI (o / 5)) = iI ((o / 5 : Nat) : Int) from rfl) ?_
  refine V_isubS X dX12_areApart_6 ?_
  refine V_istore_n X dX12_areApart_7 (by decide) rfl ?_
  refine V_iload_n X dX12_areApart_8 rfl ?_
  refine V_iconst X (nI 5) dX12_areApart_9 (by decide) ?_
  refine V_iremN X dX12_areApart_10 (by omega) (by omega) (by omega) ?_
  refine V_iload_n X dX12_areApart_11 rfl ?_
  refine V_iconst X (nI 5) dX12_areApart_12 (by decide) ?_
  refine V_iremN X dX12_areApart_13 (by omega) (by omega) (by omega) ?_
  refine V_two (show (nI (t % 5)) = iI ((t % 5 : Nat) : Int) from rfl) (show (nI (o % 5)) = iI ((o % 5 : Nat) : Int) from rfl) ?_
  refine V_isubS X dX12_areApart_14 ?_
  refine V_istore_n X dX12_areApart_15 (by decide) rfl ?_
  refine V_iload_n X dX12_areApart_16 rfl ?_
  refine V_iconst X (-1) dX12_areApart_17 (by decide) ?_
  refine V_iconst X (nI 1) dX12_areApart_18 (by decide) ?_
  refine V_callS (rest := []) X (c_X12_in (Cl C) G (((t / 5 : Nat) : Int) - ((o / 5 : Nat) : Int)) (-1) ((1 : Nat) : Int) (by first | assumption | omega) (by first | assumption | omega) (by first | assumption | omega)) mi_X12_in kw_3_232 kw_3_233 dX12_areApart_19 [] rfl (by decide) rfl rfl (by decide) (Nat.le_of_ble_eq_true rfl) ⟨rfl, rfl⟩ (fun u_ hu_2 => ?_)
  obtain ⟨b_1, rfl⟩ : ∃ z, z = u_ := ⟨_, rfl⟩
  have hu_2 : (b_1 = 1 ∧ (-1) ≤ (((t / 5 : Nat) : Int) - ((o / 5 : Nat) : Int)) ∧ (((t / 5 : Nat) : Int) - ((o / 5 : Nat) : Int)) ≤ ((1 : Nat) : Int)) ∨ (b_1 = 0 ∧ ((((t / 5 : Nat) : Int) - ((o / 5 : Nat) : Int)) < (-1) ∨ ((1 : Nat) : Int) < (((t / 5 : Nat) : Int) - ((o / 5 : Nat) : Int)))) := hu_2
  show V C 0 0 [] 22 [some (.int (nI t)), some (.int (nI o)), some (.int (iI (((t / 5 : Nat) : Int) - ((o / 5 : Nat) : Int)))), some (.int (iI (((t % 5 : Nat) : Int) - ((o % 5 : Nat) : Int))))] [.int (nI b_1)]
  refine V_if_eqN X 34 dX12_areApart_22 (by decide) (by omega) (fun c_3 => ?_) (fun c_3 => ?_)
  · refine V_iconst X (nI 1) dX12_areApart_34 (by decide) ?_
    refine V_goto X 39 dX12_areApart_35 (by decide) ?_
    exact V_iret X Y 1 (by omega) rfl rfl rfl dX12_areApart_39
  · refine V_iload_n X dX12_areApart_25 rfl ?_
    refine V_iconst X (-1) dX12_areApart_26 (by decide) ?_
    refine V_iconst X (nI 1) dX12_areApart_27 (by decide) ?_
    refine V_callS (rest := []) X (c_X12_in (Cl C) G (((t % 5 : Nat) : Int) - ((o % 5 : Nat) : Int)) (-1) ((1 : Nat) : Int) (by first | assumption | omega) (by first | assumption | omega) (by first | assumption | omega)) mi_X12_in kw_3_232 kw_3_233 dX12_areApart_28 [] rfl (by decide) rfl rfl (by decide) (Nat.le_of_ble_eq_true rfl) ⟨rfl, rfl⟩ (fun u_ hu_5 => ?_)
    obtain ⟨b_4, rfl⟩ : ∃ z, z = u_ := ⟨_, rfl⟩
    have hu_5 : (b_4 = 1 ∧ (-1) ≤ (((t % 5 : Nat) : Int) - ((o % 5 : Nat) : Int)) ∧ (((t % 5 : Nat) : Int) - ((o % 5 : Nat) : Int)) ≤ ((1 : Nat) : Int)) ∨ (b_4 = 0 ∧ ((((t % 5 : Nat) : Int) - ((o % 5 : Nat) : Int)) < (-1) ∨ ((1 : Nat) : Int) < (((t % 5 : Nat) : Int) - ((o % 5 : Nat) : Int)))) := hu_5
    show V C 0 0 [] 31 [some (.int (nI t)), some (.int (nI o)), some (.int (iI (((t / 5 : Nat) : Int) - ((o / 5 : Nat) : Int)))), some (.int (iI (((t % 5 : Nat) : Int) - ((o % 5 : Nat) : Int))))] [.int (nI b_4)]
    refine V_if_neN X 38 dX12_areApart_31 (by decide) (by omega) (fun c_6 => ?_) (fun c_6 => ?_)
    · refine V_iconst X (nI 0) dX12_areApart_38 (by decide) ?_
      exact V_iret X Y 0 (by omega) rfl rfl rfl dX12_areApart_39
    · refine V_iconst X (nI 1) dX12_areApart_34 (by decide) ?_
      refine V_goto X 39 dX12_areApart_35 (by decide) ?_
      exact V_iret X Y 1 (by omega) rfl rfl rfl dX12_areApart_39
