theorem psm_0 (w1 v1 : Nat → Nat) : PSM (va_up (fun _ => 0) 1 1) (fun _ => 0) (w1, v1, 0, 1, 0, fun _ => 0, fun _ => 0) :=
  ⟨rfl, rfl, rfl, fun j h => absurd h (Nat.not_lt_zero j), fun _ _ => rfl, fun _ _ => rfl, fun j _ _ => ⟨rfl, by simp only [va_up]; rw [if_neg (by omega)], by simp only [va_up]; rw [if_neg (by omega)]⟩, fun _ _ _ => rfl⟩
theorem psm_2 {D B : Nat → Nat} {P : PS} {x : Nat} (h : PSM D B P) (hn : P.2.2.1 ≤ 5) : PSM (va_up D 2 x) B P := by
  obtain ⟨h0, h1, h3, hw, hb, hc, hz⟩ := h
  refine ⟨h0, h1, h3, fun j hj => ?_, hb, hc, fun j hj hj2 => ?_, hz.2⟩
  · have := hw j hj
    simp only [va_up]
    rw [if_neg (by omega), if_neg (by omega)]
    exact this
  · have := hz.1 j hj hj2
    simp only [va_up]
    rw [if_neg (by omega), if_neg (by omega)]
    exact this
theorem itemM_end {T : Nat → Nat} {len kd p ts p2 q e k2 va : Nat} {ps P : PS} (h : itemM T len kd ps p ts (.inr (P, p2))) (t : tokf T len p2 = (q, e, k2, va)) (hk : ¬ k2 = 59) : itemf T len kd ps p ts = .inl q := by
  simp only [itemM, rdN_endB t hk] at h
  exact h
theorem itemM_ok {T : Nat → Nat} {len kd p ts p2 q e k2 va : Nat} {ps P : PS} (h : itemM T len kd ps p ts (.inr (P, p2))) (t : tokf T len p2 = (q, e, k2, va)) (hk : k2 = 59) : itemf T len kd ps p ts = .inr (P, e) := by
  simp only [itemM, rdN_end t hk] at h
  exact h
abbrev prs0 (tx : Nat → Nat) (ty : Nat) (w1 v1 : Nat → Nat) : Nat ⊕ (Nat × PS) := prs tx ty 101 0 (w1, v1, 0, 1, 0, fun _ => 0, fun _ => 0) 0
set_option maxHeartbeats 4000000 in
set_option maxRecDepth 100000 in
theorem c_X12_reads (l : Launch) (G : mvG) (a : Nat → Nat) (tx : Nat → Nat) (to : Nat → Nat) (dr : Nat → Nat) (be : Nat → Nat) (s : Nat → Nat) (pa : Nat → Nat) (im : Nat → Nat) (ke : Nat → Nat) (no : Nat → Nat) (fa : Nat → Nat) (tr : Nat) (ty : Nat) (kn : Nat) (nd : Nat) (att : Nat) (so : Nat) (ss : Nat) (va : Int) (w1 : Nat → Nat) (v1 : Nat → Nat) (hty : ty ≤ 100) (htx : ∀ j, tx j < 256) : KQ l yX12_reads cX12_reads 2 (some .boolean) (5, 108) G [.ref (a 0)] [gMod G a (nF tx) (nF to) (nF dr) (nF be) (nF s) (nF pa) (nF im) (nF ke) (nF no) (nF fa) (lN tr) (nI ty) (nI kn) (nI nd) (nI att) (nI so) (nI ss) (iI va)] (fun (zz : Nat × (Nat → Nat) × (Nat → Nat) × Nat × Nat × Nat × Int × PS) => some (.int (nI zz.1))) (fun (zz : Nat × (Nat → Nat) × (Nat → Nat) × Nat × Nat × Nat × Int × PS) => ((zz.1 = 1 ∧ prs0 tx ty w1 v1 = .inr (zz.2.1 2, zz.2.2.2.2.2.2.2) ∧ PSM zz.2.1 zz.2.2.1 zz.2.2.2.2.2.2.2 ∧ zz.2.2.2.2.2.2.2.2.2.1 ≤ 5 ∧ zz.2.2.2.2.2.2.2.2.2.2.2.1 ≤ 1 ∧ zz.2.1 2 ≤ 100) ∨ (zz.1 = 0 ∧ prs0 tx ty w1 v1 = .inl zz.2.2.2.2.1)) ∧ zz.2.2.2.2.1 ≤ 100) (fun (zz : Nat × (Nat → Nat) × (Nat → Nat) × Nat × Nat × Nat × Int × PS) => [gMod G a (nF tx) (nF to) (nF zz.2.1) (nF zz.2.2.1) (nF s) (nF pa) (nF im) (nF ke) (nF no) (nF fa) (lN tr) (nI ty) (nI kn) (nI nd) (nI zz.2.2.2.1) (nI zz.2.2.2.2.2.1) (nI zz.2.2.2.2.1) (iI zz.2.2.2.2.2.2.1)]) := by
  refine KQ.mk (by decide +kernel) (fun _ _ => rfl) [some (.ref (a 0)), none] (Nat.le_of_ble_eq_true rfl) rfl (fun C X Y hC => ?_)
  subst hC
  refine V_iconst X (nI 0) dX12_reads_0 (by decide) ?_
  refine V_istore_n X dX12_reads_1 (by decide) rfl ?_
  have L_2 : ∀ (fz_2 : Nat) (k : Nat) (D : Nat → Nat) (hk : k ≤ 14) (hD : ∀ j, j < k → D j = 0), (14 - k) < fz_2 → V C 0 0 [gMod G a (nF tx) (nF to) (nF D) (nF be) (nF s) (nF pa) (nF im) (nF ke) (nF no) (nF fa) (lN tr) (nI ty) (nI kn) (nI nd) (nI att) (nI so) (nI ss) (iI va)] 2 [some (.ref (a 0)), some (.int (nI k))] [] := by
    intro fz_2
    induction fz_2 with
    | zero => intro k D hk hD hf_2; exact absurd hf_2 (Nat.not_lt_zero _)
    | succ fz_2 ih_2 =>
      intro k D hk hD hf_2
      refine V_iload_n X dX12_reads_2 rfl ?_
      refine V_bipush X (nI 14) dX12_reads_3 (by decide) ?_
      refine V_icmp_geN X 21 dX12_reads_5 (by decide) (by omega) (by decide) (fun c_1 => ?_) (fun c_1 => ?_)
      · refine V_arr (nF (fun _ => 0)) 0 3 rfl rfl (fun j hj => by simp only [nF]; rw [hD j (by omega)]) ?_
        show V C 0 0 [gMod G a (nF tx) (nF to) (nF (fun _ => 0)) (nF be) (nF s) (nF pa) (nF im) (nF ke) (nF no) (nF fa) (lN tr) (nI ty) (nI kn) (nI nd) (nI att) (nI so) (nI ss) (iI va)] 21 [some (.ref (a 0)), some (.int (nI k))] []
        refine V_iconst X (nI 0) dX12_reads_21 (by decide) ?_
        refine V_istore_n X dX12_reads_22 (by decide) rfl ?_
        have L_23 : ∀ (fz_23 : Nat) (k : Nat) (B : Nat → Nat) (hk : k ≤ 44) (hB : ∀ j, j < k → B j = 0), (44 - k) < fz_23 → V C 0 0 [gMod G a (nF tx) (nF to) (nF (fun _ => 0)) (nF B) (nF s) (nF pa) (nF im) (nF ke) (nF no) (nF fa) (lN tr) (nI ty) (nI kn) (nI nd) (nI att) (nI so) (nI ss) (iI va)] 23 [some (.ref (a 0)), some (.int (nI k))] [] := by
          intro fz_23
          induction fz_23 with
          | zero => intro k B hk hB hf_23; exact absurd hf_23 (Nat.not_lt_zero _)
          | succ fz_23 ih_23 =>
            intro k B hk hB hf_23
            refine V_iload_n X dX12_reads_23 rfl ?_
            refine V_bipush X (nI 44) dX12_reads_24 (by decide) ?_
            refine V_icmp_geN X 42 dX12_reads_26 (by decide) (by omega) (by decide) (fun c_2 => ?_) (fun c_2 => ?_)
            · refine V_arr (nF (fun _ => 0)) 0 4 rfl rfl (fun j hj => by simp only [nF]; rw [hB j (by omega)]) ?_
              show V C 0 0 [gMod G a (nF tx) (nF to) (nF (fun _ => 0)) (nF (fun _ => 0)) (nF s) (nF pa) (nF im) (nF ke) (nF no) (nF fa) (lN tr) (nI ty) (nI kn) (nI nd) (nI att) (nI so) (nI ss) (iI va)] 42 [some (.ref (a 0)), some (.int (nI k))] []
              refine V_aload_n X dX12_reads_42 rfl ?_
              refine V_get X fl_X12_16 0 0 rfl rfl rfl dX12_reads_43 ?_
              refine V_iconst X (nI 1) dX12_reads_46 (by decide) ?_
              refine V_iconst X (nI 1) dX12_reads_47 (by decide) ?_
              refine V_iastN X 0 3 rfl rfl (by decide) (by decide) dX12_reads_48 ?_
              show V C 0 0 [gMod G a (nF tx) (nF to) (nF (va_up (fun _ => 0) 1 1)) (nF (fun _ => 0)) (nF s) (nF pa) (nF im) (nF ke) (nF no) (nF fa) (lN tr) (nI ty) (nI kn) (nI nd) (nI att) (nI so) (nI ss) (iI va)] 49 [some (.ref (a 0)), some (.int (nI k))] []
              refine V_aload_n X dX12_reads_49 rfl ?_
              refine V_iconst X (nI 0) dX12_reads_50 (by decide) ?_
              refine V_put X fl_X12_56 0 0 rfl rfl rfl rfl (Nat.le_of_ble_eq_true rfl) dX12_reads_51 ?_
              show V C 0 0 [gMod G a (nF tx) (nF to) (nF (va_up (fun _ => 0) 1 1)) (nF (fun _ => 0)) (nF s) (nF pa) (nF im) (nF ke) (nF no) (nF fa) (lN tr) (nI ty) (nI kn) (nI nd) (nI 0) (nI so) (nI ss) (iI va)] 54 [some (.ref (a 0)), some (.int (nI k))] []
              refine V_aload_n X dX12_reads_54 rfl ?_
              refine V_callV (rest := []) X (c_X12_token (Cl C) G a tx to (va_up (fun _ => 0) 1 1) (fun _ => 0) s pa im ke no fa tr ty kn nd 0 so ss va (by first | assumption | omega) (by first | assumption | omega) (by first | assumption | omega)) mi_X12_token kw_3_221 kw_3_223 kw_s_28 dX12_reads_55 [0] rfl (by decide) 0 0 rfl rfl rfl rfl rfl rfl (by decide) (Nat.le_of_ble_eq_true rfl) ⟨rfl, rfl⟩ (fun u_ hu_9 => ?_)
              obtain ⟨p_3, q_4, o_5, x_6, kd_7, va_8⟩ := u_
              have hu_9 : (tokf tx ty 0 = (q_4, p_3, kd_7, va_8) ∧ clsM kd_7 va_8 o_5 x_6) ∧ x_6 ≤ 1000 ∧ p_3 ≤ ty ∧ q_4 ≤ ty ∧ 0 ≤ p_3 ∧ (o_5 = 0 ∨ 0 < p_3) ∧ o_5 ≤ 4 ∧ -1 ≤ x_6 := hu_9
              show V C 0 0 [gMod G a (nF tx) (nF to) (nF (va_up (fun _ => 0) 1 1)) (nF (fun _ => 0)) (nF s) (nF pa) (nF im) (nF ke) (nF no) (nF fa) (lN tr) (nI ty) (nI kn) (nI nd) (nI p_3) (nI o_5) (nI q_4) (iI x_6)] 58 [some (.ref (a 0)), some (.int (nI k))] []
              have h0 := hu_9
              have h0c := h0.1.2
              simp only [clsM] at h0c
              have L_58 : ∀ (fz_58 : Nat) (it : Nat) (p0 : Nat) (D1 : Nat → Nat) (B1 : Nat → Nat) (p1 : Nat) (q1 : Nat) (o1 : Nat) (x1 : Int) (ps1 : PS) (kd1 : Nat) (vv1 : Nat) (hit : it ≤ p0 ∧ p0 ≤ p1 ∧ p1 ≤ ty ∧ q1 ≤ ty ∧ (o1 = 0 ∨ p0 < p1) ∧ o1 ≤ 4 ∧ -1 ≤ x1 ∧ x1 ≤ 1000) (ht : tokf tx ty p0 = (q1, p1, kd1, vv1)) (hcl : clsM kd1 vv1 o1 x1) (hps : PSM D1 B1 ps1) (hpb : ps1.2.2.1 ≤ 5 ∧ ps1.2.2.2.2.1 ≤ 1 ∧ D1 2 = it ∧ it ≤ 100) (he : prs tx ty (101 - it) it ps1 p0 = prs tx ty 101 0 (w1, v1, 0, 1, 0, fun _ => 0, fun _ => 0) 0), (101 - it) < fz_58 → V C 0 0 [gMod G a (nF tx) (nF to) (nF D1) (nF B1) (nF s) (nF pa) (nF im) (nF ke) (nF no) (nF fa) (lN tr) (nI ty) (nI kn) (nI nd) (nI p1) (nI o1) (nI q1) (iI x1)] 58 [some (.ref (a 0)), none] [] := by
                intro fz_58
                induction fz_58 with
                | zero => intro it p0 D1 B1 p1 q1 o1 x1 ps1 kd1 vv1 hit ht hcl hps hpb he hf_58; exact absurd hf_58 (Nat.not_lt_zero _)
                | succ fz_58 ih_58 =>
                  intro it p0 D1 B1 p1 q1 o1 x1 ps1 kd1 vv1 hit ht hcl hps hpb he hf_58
                  refine V_aload_n X dX12_reads_58 rfl ?_
                  have hclx := hcl
                  simp only [clsM] at hclx
                  refine V_get X fl_X12_73 0 0 rfl rfl rfl dX12_reads_59 ?_
                  refine V_if_eqN X 105 dX12_reads_62 (by decide) (by omega) (fun c_10 => ?_) (fun c_10 => ?_)
                  · refine V_iconst X (nI 1) dX12_reads_105 (by decide) ?_
                    exact V_iret X Y ⟨1, D1, B1, p1, q1, o1, x1, ps1⟩ (show ((1 = 1 ∧ prs0 tx ty w1 v1 = .inr (D1 2, ps1) ∧ PSM D1 B1 ps1 ∧ ps1.2.2.1 ≤ 5 ∧ ps1.2.2.2.2.1 ≤ 1 ∧ D1 2 ≤ 100) ∨ (1 = 0 ∧ prs0 tx ty w1 v1 = .inl q1)) ∧ q1 ≤ 100 from ⟨Or.inl ⟨rfl, by rw [hpb.2.2.1, prs0, ← he, show 101 - it = (100 - it) + 1 by omega]; exact prs_end ht (by omega), hps, hpb.1, hpb.2.1, by omega⟩, by omega⟩) rfl rfl rfl dX12_reads_106
                  · refine V_aload_n X dX12_reads_65 rfl ?_
                    refine V_callV (rest := []) X (c_X12_readsItem (Cl C) G a tx to D1 B1 s pa im ke no fa tr ty kn nd p1 o1 q1 x1 ps1 kd1 vv1 (by first | assumption | omega) (by first | assumption | omega) (by first | assumption | omega) (by first | assumption | omega) (by first | assumption | omega) (by first | assumption | omega)) mi_X12_readsItem kw_3_238 kw_4_0 kw_s_30 dX12_reads_66 [0] rfl (by decide) 0 0 rfl rfl rfl rfl rfl rfl (by decide) (Nat.le_of_ble_eq_true rfl) ⟨rfl, rfl⟩ (fun u_ hu_19 => ?_)
                    obtain ⟨b_11, D_12, B_13, p_14, q_15, o_16, x_17, P_18⟩ := u_
                    have hu_19 : ((b_11 = 1 ∧ itemM tx ty kd1 ps1 p1 q1 (.inr (P_18, p_14)) ∧ PSM D_12 B_13 P_18 ∧ D_12 2 = D1 2 ∧ P_18.2.2.1 ≤ 5 ∧ P_18.2.2.2.2.1 ≤ 1) ∨ (b_11 = 0 ∧ itemM tx ty kd1 ps1 p1 q1 (.inl q_15))) ∧ x_17 ≤ 1000 ∧ -1 ≤ x_17 ∧ p_14 ≤ ty ∧ q_15 ≤ ty ∧ p1 ≤ p_14 ∧ o_16 ≤ 4 := hu_19
                    show V C 0 0 [gMod G a (nF tx) (nF to) (nF D_12) (nF B_13) (nF s) (nF pa) (nF im) (nF ke) (nF no) (nF fa) (lN tr) (nI ty) (nI kn) (nI nd) (nI p_14) (nI o_16) (nI q_15) (iI x_17)] 69 [some (.ref (a 0)), none] [.int (nI b_11)]
                    have hi := hu_19
                    refine V_if_neN X 74 dX12_reads_69 (by decide) (by omega) (fun c_20 => ?_) (fun c_20 => ?_)
                    · have hj := (hi.1.resolve_right (by omega)).2
                      refine V_aload_n X dX12_reads_74 rfl ?_
                      refine V_callV (rest := []) X (c_X12_token (Cl C) G a tx to D_12 B_13 s pa im ke no fa tr ty kn nd p_14 o_16 q_15 x_17 (by first | assumption | omega) (by first | assumption | omega) (by first | assumption | omega)) mi_X12_token kw_3_221 kw_3_223 kw_s_28 dX12_reads_75 [0] rfl (by decide) 0 0 rfl rfl rfl rfl rfl rfl (by decide) (Nat.le_of_ble_eq_true rfl) ⟨rfl, rfl⟩ (fun u_ hu_27 => ?_)
                      obtain ⟨p_21, q_22, o_23, x_24, kd_25, va_26⟩ := u_
                      have hu_27 : (tokf tx ty p_14 = (q_22, p_21, kd_25, va_26) ∧ clsM kd_25 va_26 o_23 x_24) ∧ x_24 ≤ 1000 ∧ p_21 ≤ ty ∧ q_22 ≤ ty ∧ p_14 ≤ p_21 ∧ (o_23 = 0 ∨ p_14 < p_21) ∧ o_23 ≤ 4 ∧ -1 ≤ x_24 := hu_27
                      show V C 0 0 [gMod G a (nF tx) (nF to) (nF D_12) (nF B_13) (nF s) (nF pa) (nF im) (nF ke) (nF no) (nF fa) (lN tr) (nI ty) (nI kn) (nI nd) (nI p_21) (nI o_23) (nI q_22) (iI x_24)] 78 [some (.ref (a 0)), none] []
                      have h2 := hu_27
                      have h2c := h2.1.2
                      simp only [clsM] at h2c
                      refine V_aload_n X dX12_reads_78 rfl ?_
                      refine V_get X fl_X12_73 0 0 rfl rfl rfl dX12_reads_79 ?_
                      refine V_iconst X (nI 3) dX12_reads_82 (by decide) ?_
                      refine V_icmp_eqN X 88 dX12_reads_83 (by decide) (by omega) (by decide) (fun c_28 => ?_) (fun c_28 => ?_)
                      · refine V_aload_n X dX12_reads_88 rfl ?_
                        refine V_get X fl_X12_16 0 0 rfl rfl rfl dX12_reads_89 ?_
                        refine V_iconst X (nI 2) dX12_reads_92 (by decide) ?_
                        refine V_dup2 X dX12_reads_93 rfl rfl ?_
                        refine V_ialdN X 0 3 rfl rfl (by decide) (by decide) dX12_reads_94 ?_
                        refine V_iconst X (nI 1) dX12_reads_95 (by decide) ?_
                        refine V_iaddN X dX12_reads_96 ?_
                        refine V_iastN X 0 3 rfl rfl (by decide) (by decide) dX12_reads_97 ?_
                        show V C 0 0 [gMod G a (nF tx) (nF to) (nF (va_up D_12 2 ((D_12 2) + 1))) (nF B_13) (nF s) (nF pa) (nF im) (nF ke) (nF no) (nF fa) (lN tr) (nI ty) (nI kn) (nI nd) (nI p_21) (nI o_23) (nI q_22) (iI x_24)] 98 [some (.ref (a 0)), none] []
                        refine V_aload_n X dX12_reads_98 rfl ?_
                        refine V_callV (rest := []) X (c_X12_token (Cl C) G a tx to (va_up D_12 2 ((D_12 2) + 1)) B_13 s pa im ke no fa tr ty kn nd p_21 o_23 q_22 x_24 (by first | assumption | omega) (by first | assumption | omega) (by first | assumption | omega)) mi_X12_token kw_3_221 kw_3_223 kw_s_28 dX12_reads_99 [0] rfl (by decide) 0 0 rfl rfl rfl rfl rfl rfl (by decide) (Nat.le_of_ble_eq_true rfl) ⟨rfl, rfl⟩ (fun u_ hu_35 => ?_)
                        obtain ⟨p_29, q_30, o_31, x_32, kd_33, va_34⟩ := u_
                        have hu_35 : (tokf tx ty p_21 = (q_30, p_29, kd_33, va_34) ∧ clsM kd_33 va_34 o_31 x_32) ∧ x_32 ≤ 1000 ∧ p_29 ≤ ty ∧ q_30 ≤ ty ∧ p_21 ≤ p_29 ∧ (o_31 = 0 ∨ p_21 < p_29) ∧ o_31 ≤ 4 ∧ -1 ≤ x_32 := hu_35
                        show V C 0 0 [gMod G a (nF tx) (nF to) (nF (va_up D_12 2 ((D_12 2) + 1))) (nF B_13) (nF s) (nF pa) (nF im) (nF ke) (nF no) (nF fa) (lN tr) (nI ty) (nI kn) (nI nd) (nI p_29) (nI o_31) (nI q_30) (iI x_32)] 102 [some (.ref (a 0)), none] []
                        have h3 := hu_35
                        have h3c := h3.1.2
                        simp only [clsM] at h3c
                        refine V_goto X 58 dX12_reads_102 (by decide) ?_
                        refine V_weak (lv' := [some (.ref (a 0)), none]) (And.intro rfl trivial) ?_
                        exact ih_58 (it + 1) p_21 (va_up D_12 2 ((D_12 2) + 1)) B_13 p_29 q_30 o_31 x_32 P_18 kd_33 va_34 (by omega) h3.1.1 h3.1.2 (psm_2 hj.2.1 hj.2.2.2.1) ⟨hj.2.2.2.1, hj.2.2.2.2, (by show D_12 2 + 1 = it + 1; omega), by omega⟩ (by rw [← he, show 101 - it = (101 - (it + 1)) + 1 by omega]; exact (prs_ok ht (by omega) (itemM_ok hj.1 h2.1.1 (by omega))).symm) (by omega)
                      · refine V_iconst X (nI 0) dX12_reads_86 (by decide) ?_
                        exact V_iret X Y ⟨0, D_12, B_13, p_21, q_22, o_23, x_24, ps1⟩ (show ((0 = 1 ∧ prs0 tx ty w1 v1 = .inr (D_12 2, ps1) ∧ PSM D_12 B_13 ps1 ∧ ps1.2.2.1 ≤ 5 ∧ ps1.2.2.2.2.1 ≤ 1 ∧ D_12 2 ≤ 100) ∨ (0 = 0 ∧ prs0 tx ty w1 v1 = .inl q_22)) ∧ q_22 ≤ 100 from ⟨Or.inr ⟨rfl, by rw [prs0, ← he, show 101 - it = (100 - it) + 1 by omega]; exact prs_bad ht (by omega) (itemM_end hj.1 h2.1.1 (by omega))⟩, by omega⟩) rfl rfl rfl dX12_reads_87
                    · refine V_iconst X (nI 0) dX12_reads_72 (by decide) ?_
                      exact V_iret X Y ⟨0, D_12, B_13, p_14, q_15, o_16, x_17, ps1⟩ (show ((0 = 1 ∧ prs0 tx ty w1 v1 = .inr (D_12 2, ps1) ∧ PSM D_12 B_13 ps1 ∧ ps1.2.2.1 ≤ 5 ∧ ps1.2.2.2.2.1 ≤ 1 ∧ D_12 2 ≤ 100) ∨ (0 = 0 ∧ prs0 tx ty w1 v1 = .inl q_15)) ∧ q_15 ≤ 100 from ⟨Or.inr ⟨rfl, by rw [prs0, ← he, show 101 - it = (100 - it) + 1 by omega]; exact prs_bad ht (by omega) (hi.1.resolve_left (by omega)).2⟩, by omega⟩) rfl rfl rfl dX12_reads_73
              refine V_weak (lv' := [some (.ref (a 0)), none]) (And.intro rfl trivial) ?_
              exact L_58 _ 0 0 (va_up (fun _ => 0) 1 1) (fun _ => 0) p_3 q_4 o_5 x_6 (w1, v1, 0, 1, 0, fun _ => 0, fun _ => 0) kd_7 va_8 (by omega) h0.1.1 h0.1.2 (psm_0 w1 v1) ⟨by show 0 ≤ 5; omega, by show 0 ≤ 1; omega, rfl, by omega⟩ rfl (Nat.lt_succ_self _)
            · refine V_aload_n X dX12_reads_29 rfl ?_
              refine V_get X fl_X12_19 0 0 rfl rfl rfl dX12_reads_30 ?_
              refine V_iload_n X dX12_reads_33 rfl ?_
              refine V_iconst X (nI 0) dX12_reads_34 (by decide) ?_
              refine V_iastN X 0 4 rfl rfl (by omega) (by decide) dX12_reads_35 ?_
              show V C 0 0 [gMod G a (nF tx) (nF to) (nF (fun _ => 0)) (nF (va_up B k 0)) (nF s) (nF pa) (nF im) (nF ke) (nF no) (nF fa) (lN tr) (nI ty) (nI kn) (nI nd) (nI att) (nI so) (nI ss) (iI va)] 36 [some (.ref (a 0)), some (.int (nI k))] []
              refine V_iincN X (c := 1) dX12_reads_36 rfl (by decide) rfl ?_
              refine V_goto X 23 dX12_reads_39 (by decide) ?_
              refine V_weak (lv' := [some (.ref (a 0)), some (.int (nI (k + 1)))]) (And.intro rfl (And.intro rfl trivial)) ?_
              exact ih_23 (k + 1) (va_up B k 0) (by omega) (fun j h => by simp only [va_up]; by_cases e : j = k; rw [if_pos e]; rw [if_neg e]; exact hB j (by omega)) (by omega)
        refine V_weak (lv' := [some (.ref (a 0)), some (.int (nI 0))]) (And.intro rfl (And.intro rfl trivial)) ?_
        exact L_23 _ 0 be (by omega) (fun j h => absurd h (Nat.not_lt_zero j)) (Nat.lt_succ_self _)
      · refine V_aload_n X dX12_reads_8 rfl ?_
        refine V_get X fl_X12_16 0 0 rfl rfl rfl dX12_reads_9 ?_
        refine V_iload_n X dX12_reads_12 rfl ?_
        refine V_iconst X (nI 0) dX12_reads_13 (by decide) ?_
        refine V_iastN X 0 3 rfl rfl (by omega) (by decide) dX12_reads_14 ?_
        show V C 0 0 [gMod G a (nF tx) (nF to) (nF (va_up D k 0)) (nF be) (nF s) (nF pa) (nF im) (nF ke) (nF no) (nF fa) (lN tr) (nI ty) (nI kn) (nI nd) (nI att) (nI so) (nI ss) (iI va)] 15 [some (.ref (a 0)), some (.int (nI k))] []
        refine V_iincN X (c := 1) dX12_reads_15 rfl (by decide) rfl ?_
        refine V_goto X 2 dX12_reads_18 (by decide) ?_
        refine V_weak (lv' := [some (.ref (a 0)), some (.int (nI (k + 1)))]) (And.intro rfl (And.intro rfl trivial)) ?_
        exact ih_2 (k + 1) (va_up D k 0) (by omega) (fun j h => by simp only [va_up]; by_cases e : j = k; rw [if_pos e]; rw [if_neg e]; exact hD j (by omega)) (by omega)
  refine V_weak (lv' := [some (.ref (a 0)), some (.int (nI 0))]) (And.intro rfl (And.intro rfl trivial)) ?_
  exact L_2 _ 0 dr (by omega) (fun j h => absurd h (Nat.not_lt_zero j)) (Nat.lt_succ_self _)
set_option maxHeartbeats 4000000 in
set_option maxRecDepth 100000 in
theorem c_X12_begins (l : Launch) (G : mvG) (a : Nat → Nat) (tx : Nat → Nat) (to : Nat → Nat) (dr : Nat → Nat) (be : Nat → Nat) (s : Nat → Nat) (pa : Nat → Nat) (im : Nat → Nat) (ke : Nat → Nat) (no : Nat → Nat) (fa : Nat → Nat) (tr : Nat) (ty : Nat) (kn : Nat) (nd : Nat) (att : Nat) (so : Nat) (ss : Nat) (va : Int) : KQ l yX12_begins cX12_begins 2 none (0, 0) G [.ref (a 0)] [gMod G a (nF tx) (nF to) (nF dr) (nF be) (nF s) (nF pa) (nF im) (nF ke) (nF no) (nF fa) (lN tr) (nI ty) (nI kn) (nI nd) (nI att) (nI so) (nI ss) (iI va)] (fun (zz : (Nat → Nat)) => none) (fun (zz : (Nat → Nat)) => zz 0 = 0 ∧ zz 1 = 0) (fun (zz : (Nat → Nat)) => [gMod G a (nF tx) (nF dr) (nF dr) (nF be) (nF be) (nF pa) (nF im) (nF zz) (nF no) (nF fa) (lN tr) (nI ty) (nI 0) (nI 0) (nI att) (nI so) (nI ss) (iI va)]) := by
  refine KQ.mk (by decide +kernel) (fun _ _ => rfl) [some (.ref (a 0)), none] (Nat.le_of_ble_eq_true rfl) rfl (fun C X Y hC => ?_)
  subst hC
  refine V_iconst X (nI 0) dX12_begins_0 (by decide) ?_
  refine V_istore_n X dX12_begins_1 (by decide) rfl ?_
  have L_2 : ∀ (fz_2 : Nat) (k : Nat) (D : Nat → Nat) (hk : k ≤ 14) (hD : ∀ j, j < k → D j = dr j), (14 - k) < fz_2 → V C 0 0 [gMod G a (nF tx) (nF D) (nF dr) (nF be) (nF s) (nF pa) (nF im) (nF ke) (nF no) (nF fa) (lN tr) (nI ty) (nI kn) (nI nd) (nI att) (nI so) (nI ss) (iI va)] 2 [some (.ref (a 0)), some (.int (nI k))] [] := by
    intro fz_2
    induction fz_2 with
    | zero => intro k D hk hD hf_2; exact absurd hf_2 (Nat.not_lt_zero _)
    | succ fz_2 ih_2 =>
      intro k D hk hD hf_2
      refine V_iload_n X dX12_begins_2 rfl ?_
      refine V_bipush X (nI 14) dX12_begins_3 (by decide) ?_
      refine V_icmp_geN X 26 dX12_begins_5 (by decide) (by omega) (by decide) (fun c_1 => ?_) (fun c_1 => ?_)
      · refine V_arr (nF dr) 0 2 rfl rfl (fun j hj => by simp only [nF]; rw [hD j (by omega)]) ?_
        show V C 0 0 [gMod G a (nF tx) (nF dr) (nF dr) (nF be) (nF s) (nF pa) (nF im) (nF ke) (nF no) (nF fa) (lN tr) (nI ty) (nI kn) (nI nd) (nI att) (nI so) (nI ss) (iI va)] 26 [some (.ref (a 0)), some (.int (nI k))] []
        refine V_iconst X (nI 0) dX12_begins_26 (by decide) ?_
        refine V_istore_n X dX12_begins_27 (by decide) rfl ?_
        have L_28 : ∀ (fz_28 : Nat) (k : Nat) (D : Nat → Nat) (hk : k ≤ 44) (hD : ∀ j, j < k → D j = be j), (44 - k) < fz_28 → V C 0 0 [gMod G a (nF tx) (nF dr) (nF dr) (nF be) (nF D) (nF pa) (nF im) (nF ke) (nF no) (nF fa) (lN tr) (nI ty) (nI kn) (nI nd) (nI att) (nI so) (nI ss) (iI va)] 28 [some (.ref (a 0)), some (.int (nI k))] [] := by
          intro fz_28
          induction fz_28 with
          | zero => intro k D hk hD hf_28; exact absurd hf_28 (Nat.not_lt_zero _)
          | succ fz_28 ih_28 =>
            intro k D hk hD hf_28
            refine V_iload_n X dX12_begins_28 rfl ?_
            refine V_bipush X (nI 44) dX12_begins_29 (by decide) ?_
            refine V_icmp_geN X 52 dX12_begins_31 (by decide) (by omega) (by decide) (fun c_2 => ?_) (fun c_2 => ?_)
            · refine V_arr (nF be) 0 5 rfl rfl (fun j hj => by simp only [nF]; rw [hD j (by omega)]) ?_
              show V C 0 0 [gMod G a (nF tx) (nF dr) (nF dr) (nF be) (nF be) (nF pa) (nF im) (nF ke) (nF no) (nF fa) (lN tr) (nI ty) (nI kn) (nI nd) (nI att) (nI so) (nI ss) (iI va)] 52 [some (.ref (a 0)), some (.int (nI k))] []
              refine V_aload_n X dX12_begins_52 rfl ?_
              refine V_iconst X (nI 0) dX12_begins_53 (by decide) ?_
              refine V_put X fl_X12_89 0 0 rfl rfl rfl rfl (Nat.le_of_ble_eq_true rfl) dX12_begins_54 ?_
              show V C 0 0 [gMod G a (nF tx) (nF dr) (nF dr) (nF be) (nF be) (nF pa) (nF im) (nF ke) (nF no) (nF fa) (lN tr) (nI ty) (nI 0) (nI nd) (nI att) (nI so) (nI ss) (iI va)] 57 [some (.ref (a 0)), some (.int (nI k))] []
              refine V_aload_n X dX12_begins_57 rfl ?_
              refine V_iconst X (nI 0) dX12_begins_58 (by decide) ?_
              refine V_put X fl_X12_92 0 0 rfl rfl rfl rfl (Nat.le_of_ble_eq_true rfl) dX12_begins_59 ?_
              show V C 0 0 [gMod G a (nF tx) (nF dr) (nF dr) (nF be) (nF be) (nF pa) (nF im) (nF ke) (nF no) (nF fa) (lN tr) (nI ty) (nI 0) (nI 0) (nI att) (nI so) (nI ss) (iI va)] 62 [some (.ref (a 0)), some (.int (nI k))] []
              refine V_aload_n X dX12_begins_62 rfl ?_
              refine V_get X fl_X12_31 0 0 rfl rfl rfl dX12_begins_63 ?_
              refine V_iconst X (nI 0) dX12_begins_66 (by decide) ?_
              refine V_iconst X (nI 0) dX12_begins_67 (by decide) ?_
              refine V_zastN X 0 8 rfl rfl (by decide) (by decide) (by omega) dX12_begins_68 ?_
              show V C 0 0 [gMod G a (nF tx) (nF dr) (nF dr) (nF be) (nF be) (nF pa) (nF im) (nF (va_up ke 0 0)) (nF no) (nF fa) (lN tr) (nI ty) (nI 0) (nI 0) (nI att) (nI so) (nI ss) (iI va)] 69 [some (.ref (a 0)), some (.int (nI k))] []
              refine V_aload_n X dX12_begins_69 rfl ?_
              refine V_get X fl_X12_31 0 0 rfl rfl rfl dX12_begins_70 ?_
              refine V_iconst X (nI 1) dX12_begins_73 (by decide) ?_
              refine V_iconst X (nI 0) dX12_begins_74 (by decide) ?_
              refine V_zastN X 0 8 rfl rfl (by decide) (by decide) (by omega) dX12_begins_75 ?_
              show V C 0 0 [gMod G a (nF tx) (nF dr) (nF dr) (nF be) (nF be) (nF pa) (nF im) (nF (va_up (va_up ke 0 0) 1 0)) (nF no) (nF fa) (lN tr) (nI ty) (nI 0) (nI 0) (nI att) (nI so) (nI ss) (iI va)] 76 [some (.ref (a 0)), some (.int (nI k))] []
              exact V_vret X Y (va_up (va_up ke 0 0) 1 0) ⟨rfl, rfl⟩ rfl rfl dX12_begins_76
            · refine V_aload_n X dX12_begins_34 rfl ?_
              refine V_get X fl_X12_22 0 0 rfl rfl rfl dX12_begins_35 ?_
              refine V_iload_n X dX12_begins_38 rfl ?_
              refine V_aload_n X dX12_begins_39 rfl ?_
              refine V_get X fl_X12_19 0 0 rfl rfl rfl dX12_begins_40 ?_
              refine V_iload_n X dX12_begins_43 rfl ?_
              refine V_ialdN X 0 4 rfl rfl (by omega) (by decide) dX12_begins_44 ?_
              refine V_iastN X 0 5 rfl rfl (by omega) (by decide) dX12_begins_45 ?_
              show V C 0 0 [gMod G a (nF tx) (nF dr) (nF dr) (nF be) (nF (va_up D k (be k))) (nF pa) (nF im) (nF ke) (nF no) (nF fa) (lN tr) (nI ty) (nI kn) (nI nd) (nI att) (nI so) (nI ss) (iI va)] 46 [some (.ref (a 0)), some (.int (nI k))] []
              refine V_iincN X (c := 1) dX12_begins_46 rfl (by decide) rfl ?_
              refine V_goto X 28 dX12_begins_49 (by decide) ?_
              refine V_weak (lv' := [some (.ref (a 0)), some (.int (nI (k + 1)))]) (And.intro rfl (And.intro rfl trivial)) ?_
              exact ih_28 (k + 1) (va_up D k (be k)) (by omega) (fun j h => by simp only [va_up]; by_cases e : j = k; rw [if_pos e, e]; rw [if_neg e]; exact hD j (by omega)) (by omega)
        refine V_weak (lv' := [some (.ref (a 0)), some (.int (nI 0))]) (And.intro rfl (And.intro rfl trivial)) ?_
        exact L_28 _ 0 s (by omega) (fun j h => absurd h (Nat.not_lt_zero j)) (Nat.lt_succ_self _)
      · refine V_aload_n X dX12_begins_8 rfl ?_
        refine V_get X fl_X12_13 0 0 rfl rfl rfl dX12_begins_9 ?_
        refine V_iload_n X dX12_begins_12 rfl ?_
        refine V_aload_n X dX12_begins_13 rfl ?_
        refine V_get X fl_X12_16 0 0 rfl rfl rfl dX12_begins_14 ?_
        refine V_iload_n X dX12_begins_17 rfl ?_
        refine V_ialdN X 0 3 rfl rfl (by omega) (by decide) dX12_begins_18 ?_
        refine V_iastN X 0 2 rfl rfl (by omega) (by decide) dX12_begins_19 ?_
        show V C 0 0 [gMod G a (nF tx) (nF (va_up D k (dr k))) (nF dr) (nF be) (nF s) (nF pa) (nF im) (nF ke) (nF no) (nF fa) (lN tr) (nI ty) (nI kn) (nI nd) (nI att) (nI so) (nI ss) (iI va)] 20 [some (.ref (a 0)), some (.int (nI k))] []
        refine V_iincN X (c := 1) dX12_begins_20 rfl (by decide) rfl ?_
        refine V_goto X 2 dX12_begins_23 (by decide) ?_
        refine V_weak (lv' := [some (.ref (a 0)), some (.int (nI (k + 1)))]) (And.intro rfl (And.intro rfl trivial)) ?_
        exact ih_2 (k + 1) (va_up D k (dr k)) (by omega) (fun j h => by simp only [va_up]; by_cases e : j = k; rw [if_pos e, e]; rw [if_neg e]; exact hD j (by omega)) (by omega)
  refine V_weak (lv' := [some (.ref (a 0)), some (.int (nI 0))]) (And.intro rfl (And.intro rfl trivial)) ?_
  exact L_2 _ 0 to (by omega) (fun j h => absurd h (Nat.not_lt_zero j)) (Nat.lt_succ_self _)
set_option maxHeartbeats 4000000 in
set_option maxRecDepth 100000 in
theorem c_X12_field (l : Launch) (G : mvG) (a : Nat → Nat) (tx : Nat → Nat) (to : Nat → Nat) (dr : Nat → Nat) (be : Nat → Nat) (s : Nat → Nat) (pa : Nat → Nat) (im : Nat → Nat) (ke : Nat → Nat) (no : Nat → Nat) (fa : Nat → Nat) (tr : Nat) (ty : Nat) (kn : Nat) (nd : Nat) (att : Nat) (so : Nat) (ss : Nat) (va : Int) (w1 : Nat → Nat) (v1 : Nat → Nat) (hty : ty ≤ 100) (htx : ∀ j, tx j < 256) : KQ l yX12_field cX12_field 1 (some .int) (6, 129) G [.ref (a 0)] [gMod G a (nF tx) (nF to) (nF dr) (nF be) (nF s) (nF pa) (nF im) (nF ke) (nF no) (nF fa) (lN tr) (nI ty) (nI kn) (nI nd) (nI att) (nI so) (nI ss) (iI va)] (fun (zz : Int × (Nat → Nat) × (Nat → Nat) × Nat × Nat × Nat × Int × (Nat → Nat) × (Nat → Nat) × Nat × Nat × (Nat → Nat) × Nat) => some (.int (iI zz.1))) (fun (zz : Int × (Nat → Nat) × (Nat → Nat) × Nat × Nat × Nat × Int × (Nat → Nat) × (Nat → Nat) × Nat × Nat × (Nat → Nat) × Nat) => (∃ (P : PS) (it : Nat) (D B : Nat → Nat), prs0 tx ty w1 v1 = .inr (it, P) ∧ PSM D B P ∧ (P.2.2.1 ≤ 5 ∧ P.2.2.2.2.1 ≤ 1 ∧ it ≤ 100) ∧ zz.1 = (it : Int) ∧ D 2 = it ∧ zz.2.2.2.2.2.2.2.1 = D ∧ zz.2.2.2.2.2.2.2.2.1 = B ∧ zz.2.2.2.2.2.2.2.2.2.1 = 0 ∧ zz.2.2.2.2.2.2.2.2.2.2.1 = 0 ∧ zz.2.2.2.2.2.2.2.2.2.2.2.2 = 0 ∧ zz.2.2.2.2.2.2.2.2.2.2.2.1 0 = 0 ∧ zz.2.2.2.2.2.2.2.2.2.2.2.1 1 = 0) ∨ (∃ q : Nat, prs0 tx ty w1 v1 = .inl q ∧ zz.1 = -10 - (q : Int) ∧ q ≤ 100 ∧ zz.2.2.2.2.2.2.2.1 = to ∧ zz.2.2.2.2.2.2.2.2.1 = s ∧ zz.2.2.2.2.2.2.2.2.2.1 = kn ∧ zz.2.2.2.2.2.2.2.2.2.2.1 = nd ∧ zz.2.2.2.2.2.2.2.2.2.2.2.2 = ty ∧ zz.2.2.2.2.2.2.2.2.2.2.2.1 = ke)) (fun (zz : Int × (Nat → Nat) × (Nat → Nat) × Nat × Nat × Nat × Int × (Nat → Nat) × (Nat → Nat) × Nat × Nat × (Nat → Nat) × Nat) => [gMod G a (nF tx) (nF zz.2.2.2.2.2.2.2.1) (nF zz.2.1) (nF zz.2.2.1) (nF zz.2.2.2.2.2.2.2.2.1) (nF pa) (nF im) (nF zz.2.2.2.2.2.2.2.2.2.2.2.1) (nF no) (nF fa) (lN tr) (nI zz.2.2.2.2.2.2.2.2.2.2.2.2) (nI zz.2.2.2.2.2.2.2.2.2.1) (nI zz.2.2.2.2.2.2.2.2.2.2.1) (nI zz.2.2.2.1) (nI zz.2.2.2.2.2.1) (nI zz.2.2.2.2.1) (iI zz.2.2.2.2.2.2.1)]) := by
  refine KQ.mk (by decide +kernel) (fun _ _ => rfl) [some (.ref (a 0))] (Nat.le_of_ble_eq_true rfl) rfl (fun C X Y hC => ?_)
  subst hC
  refine V_aload_n X dX12_field_0 rfl ?_
  refine V_callV (rest := []) X (c_X12_reads (Cl C) G a tx to dr be s pa im ke no fa tr ty kn nd att so ss va w1 v1 (by first | assumption | omega) (by first | assumption | omega)) mi_X12_reads kw_3_217 kw_3_219 kw_s_27 dX12_field_1 [0] rfl (by decide) 0 0 rfl rfl rfl rfl rfl rfl (by decide) (Nat.le_of_ble_eq_true rfl) ⟨rfl, rfl⟩ (fun u_ hu_9 => ?_)
  obtain ⟨b_1, D_2, B_3, p_4, q_5, o_6, x_7, P_8⟩ := u_
  have hu_9 : ((b_1 = 1 ∧ prs0 tx ty w1 v1 = .inr (D_2 2, P_8) ∧ PSM D_2 B_3 P_8 ∧ P_8.2.2.1 ≤ 5 ∧ P_8.2.2.2.2.1 ≤ 1 ∧ D_2 2 ≤ 100) ∨ (b_1 = 0 ∧ prs0 tx ty w1 v1 = .inl q_5)) ∧ q_5 ≤ 100 := hu_9
  show V C 0 0 [gMod G a (nF tx) (nF to) (nF D_2) (nF B_3) (nF s) (nF pa) (nF im) (nF ke) (nF no) (nF fa) (lN tr) (nI ty) (nI kn) (nI nd) (nI p_4) (nI o_6) (nI q_5) (iI x_7)] 4 [some (.ref (a 0))] [.int (nI b_1)]
  have hr := hu_9
  refine V_if_neN X 15 dX12_field_4 (by decide) (by omega) (fun c_10 => ?_) (fun c_10 => ?_)
  · refine V_aload_n X dX12_field_15 rfl ?_
    refine V_callV (rest := []) X (c_X12_begins (Cl C) G a tx to D_2 B_3 s pa im ke no fa tr ty kn nd p_4 o_6 q_5 x_7) mi_X12_begins kw_4_6 kw_4_8 kw_s_32 dX12_field_16 [0] rfl (by decide) 0 0 rfl rfl rfl rfl rfl rfl (by decide) (Nat.le_of_ble_eq_true rfl) ⟨rfl, rfl⟩ (fun u_ hu_12 => ?_)
    obtain ⟨K_11, rfl⟩ : ∃ z, z = u_ := ⟨_, rfl⟩
    have hu_12 : K_11 0 = 0 ∧ K_11 1 = 0 := hu_12
    show V C 0 0 [gMod G a (nF tx) (nF D_2) (nF D_2) (nF B_3) (nF B_3) (nF pa) (nF im) (nF K_11) (nF no) (nF fa) (lN tr) (nI ty) (nI 0) (nI 0) (nI p_4) (nI o_6) (nI q_5) (iI x_7)] 19 [some (.ref (a 0))] []
    have hb := hu_12
    refine V_aload_n X dX12_field_19 rfl ?_
    refine V_iconst X (nI 0) dX12_field_20 (by decide) ?_
    refine V_put X fl_X12_52 0 0 rfl rfl rfl rfl (Nat.le_of_ble_eq_true rfl) dX12_field_21 ?_
    show V C 0 0 [gMod G a (nF tx) (nF D_2) (nF D_2) (nF B_3) (nF B_3) (nF pa) (nF im) (nF K_11) (nF no) (nF fa) (lN tr) (nI 0) (nI 0) (nI 0) (nI p_4) (nI o_6) (nI q_5) (iI x_7)] 24 [some (.ref (a 0))] []
    refine V_aload_n X dX12_field_24 rfl ?_
    refine V_get X fl_X12_13 0 0 rfl rfl rfl dX12_field_25 ?_
    refine V_iconst X (nI 2) dX12_field_28 (by decide) ?_
    refine V_ialdN X 0 2 rfl rfl (by decide) (by decide) dX12_field_29 ?_
    exact V_iret X Y ⟨((D_2 2 : Nat) : Int), D_2, B_3, p_4, q_5, o_6, x_7, D_2, B_3, 0, 0, K_11, 0⟩ (show (∃ (P : PS) (it : Nat) (D B : Nat → Nat), prs0 tx ty w1 v1 = .inr (it, P) ∧ PSM D B P ∧ (P.2.2.1 ≤ 5 ∧ P.2.2.2.2.1 ≤ 1 ∧ it ≤ 100) ∧ ((D_2 2 : Nat) : Int) = (it : Int) ∧ D 2 = it ∧ D_2 = D ∧ B_3 = B ∧ 0 = 0 ∧ 0 = 0 ∧ 0 = 0 ∧ K_11 0 = 0 ∧ K_11 1 = 0) ∨ (∃ q : Nat, prs0 tx ty w1 v1 = .inl q ∧ ((D_2 2 : Nat) : Int) = -10 - (q : Int) ∧ q ≤ 100 ∧ D_2 = to ∧ B_3 = s ∧ 0 = kn ∧ 0 = nd ∧ 0 = ty ∧ K_11 = ke) from Or.inl ⟨_, _, _, _, (hr.1.resolve_right (by omega)).2.1, (hr.1.resolve_right (by omega)).2.2.1, ⟨(hr.1.resolve_right (by omega)).2.2.2.1, (hr.1.resolve_right (by omega)).2.2.2.2.1, (hr.1.resolve_right (by omega)).2.2.2.2.2⟩, rfl, rfl, rfl, rfl, rfl, rfl, rfl, hb⟩) (mv_ri (by rfl)) rfl rfl dX12_field_30
  · refine V_bipush X (-10) dX12_field_7 (by decide) ?_
    refine V_aload_n X dX12_field_9 rfl ?_
    refine V_get X fl_X12_63 0 0 rfl rfl rfl dX12_field_10 ?_
    refine V_two (show (-10) = iI (-10 : Int) from rfl) (show (nI q_5) = iI ((q_5 : Nat) : Int) from rfl) ?_
    refine V_isubS X dX12_field_13 ?_
    exact V_iret X Y ⟨(-10 : Int) - ((q_5 : Nat) : Int), D_2, B_3, p_4, q_5, o_6, x_7, to, s, kn, nd, ke, ty⟩ (show (∃ (P : PS) (it : Nat) (D B : Nat → Nat), prs0 tx ty w1 v1 = .inr (it, P) ∧ PSM D B P ∧ (P.2.2.1 ≤ 5 ∧ P.2.2.2.2.1 ≤ 1 ∧ it ≤ 100) ∧ ((-10 : Int) - ((q_5 : Nat) : Int)) = (it : Int) ∧ D 2 = it ∧ to = D ∧ s = B ∧ kn = 0 ∧ nd = 0 ∧ ty = 0 ∧ ke 0 = 0 ∧ ke 1 = 0) ∨ (∃ q : Nat, prs0 tx ty w1 v1 = .inl q ∧ ((-10 : Int) - ((q_5 : Nat) : Int)) = -10 - (q : Int) ∧ q ≤ 100 ∧ to = to ∧ s = s ∧ kn = kn ∧ nd = nd ∧ ty = ty ∧ ke = ke) from Or.inr ⟨_, (hr.1.resolve_left (by omega)).2, rfl, hr.2, rfl, rfl, rfl, rfl, rfl, rfl⟩) (mv_si (by rfl)) rfl rfl dX12_field_14
