theorem mv_look3 {a b c d e f g i : Int} (h1 : ¬ a = i) (h2 : ¬ b = i) (h3 : ¬ c = i) : Op.lookupswitch.offset [(a, d), (b, e), (c, f)] g i = g := by
  rw [Op.lookupswitch.offset_cons, if_neg h1, Op.lookupswitch.offset_cons, if_neg h2, Op.lookupswitch.offset_cons, if_neg h3]
  rfl
abbrev PS : Type := (Nat → Nat) × (Nat → Nat) × Nat × Nat × Nat × (Nat → Nat) × (Nat → Nat)
def rdN (T : Nat → Nat) (len : Nat) : List (Nat × Nat) → Nat → Nat ⊕ (List Nat × Nat)
  | [], p => if (tokf T len p).2.2.1 = 59 then .inr ([], (tokf T len p).2.1) else .inl (tokf T len p).1
  | r :: rs, p => if (tokf T len p).2.2.1 = 1 ∧ r.1 ≤ (tokf T len p).2.2.2 ∧ (tokf T len p).2.2.2 ≤ r.2 then
      (match rdN T len rs (tokf T len p).2.1 with
        | .inl q => .inl q
        | .inr z => .inr ((tokf T len p).2.2.2 :: z.1, z.2))
    else .inl (tokf T len p).1
theorem rdN_ok {T : Nat → Nat} {len p q e kd va lo hi : Nat} {rs : List (Nat × Nat)} (h : tokf T len p = (q, e, kd, va)) (h1 : kd = 1 ∧ lo ≤ va ∧ va ≤ hi) : rdN T len ((lo, hi) :: rs) p = (match rdN T len rs e with
        | .inl q => .inl q
        | .inr z => .inr (va :: z.1, z.2)) := by
  simp only [rdN, h]
  rw [if_pos h1]
theorem rdN_bad {T : Nat → Nat} {len p q e kd va lo hi : Nat} {rs : List (Nat × Nat)} (h : tokf T len p = (q, e, kd, va)) (h1 : ¬ (kd = 1 ∧ lo ≤ va ∧ va ≤ hi)) : rdN T len ((lo, hi) :: rs) p = .inl q := by
  simp only [rdN, h]
  rw [if_neg h1]
theorem rdN_end {T : Nat → Nat} {len p q e kd va : Nat} (h : tokf T len p = (q, e, kd, va)) (h1 : kd = 59) : rdN T len [] p = .inr ([], e) := by
  simp only [rdN, h]
  rw [if_pos h1]
theorem rdN_endB {T : Nat → Nat} {len p q e kd va : Nat} (h : tokf T len p = (q, e, kd, va)) (h1 : ¬ kd = 59) : rdN T len [] p = .inl q := by
  simp only [rdN, h]
  rw [if_neg h1]
abbrev rgP : List (Nat × Nat) := [(0, 5), (0, 5), (1, 4), (0, 9)]
abbrev rgS : List (Nat × Nat) := [(1, 9)]
abbrev rgF : List (Nat × Nat) := [(0, 5), (0, 5), (0, 9)]
def upP (ps : PS) (x y u z : Nat) : PS := (va_up ps.1 ps.2.2.1 u, va_up ps.2.1 ps.2.2.1 z, ps.2.2.1 + 1, ps.2.2.2.1, ps.2.2.2.2.1, va_up ps.2.2.2.2.2.1 ps.2.2.1 (6 * x + y), ps.2.2.2.2.2.2)
def upS (ps : PS) (x : Nat) : PS := (ps.1, ps.2.1, ps.2.2.1, x, 1, ps.2.2.2.2.2.1, ps.2.2.2.2.2.2)
def upF (ps : PS) (x y z : Nat) : PS := (ps.1, ps.2.1, ps.2.2.1, ps.2.2.2.1, ps.2.2.2.2.1, ps.2.2.2.2.2.1, va_up ps.2.2.2.2.2.2 (6 * x + y) z)
/-- an item behind its first token, which began at ts: the fault's place, or what is told then and where it ends -/
def itemf (T : Nat → Nat) (len kd : Nat) (ps : PS) (p ts : Nat) : Nat ⊕ (PS × Nat) :=
  if kd = 112 then (if ps.2.2.1 < 5 then (match rdN T len rgP p with
      | .inl q => .inl q
      | .inr z => .inr (upP ps (z.1.getD 0 0) (z.1.getD 1 0) (z.1.getD 2 0) (z.1.getD 3 0), z.2)) else .inl ts)
  else if kd = 115 then (if ps.2.2.2.2.1 = 0 then (match rdN T len rgS p with
      | .inl q => .inl q
      | .inr z => .inr (upS ps (z.1.getD 0 0), z.2)) else .inl ts)
  else if kd = 102 then (match rdN T len rgF p with
      | .inl q => .inl q
      | .inr z => .inr (upF ps (z.1.getD 0 0) (z.1.getD 1 0) (z.1.getD 2 0), z.2))
  else .inl ts
def prs (T : Nat → Nat) (len : Nat) : Nat → Nat → PS → Nat → Nat ⊕ (Nat × PS)
  | 0, _, _, _ => .inl 0
  | f + 1, it, ps, p => if (tokf T len p).2.2.1 = 0 then .inr (it, ps)
    else match itemf T len (tokf T len p).2.2.1 ps (tokf T len p).2.1 (tokf T len p).1 with
      | .inl q => .inl q
      | .inr z => prs T len f (it + 1) z.1 z.2
theorem prs_end {T : Nat → Nat} {len f it p q e kd va : Nat} {ps : PS} (h : tokf T len p = (q, e, kd, va)) (h1 : kd = 0) : prs T len (f + 1) it ps p = .inr (it, ps) := by
  simp only [prs, h]
  rw [if_pos h1]
theorem prs_bad {T : Nat → Nat} {len f it p q e kd va z : Nat} {ps : PS} (h : tokf T len p = (q, e, kd, va)) (h1 : ¬ kd = 0) (h2 : itemf T len kd ps e q = .inl z) : prs T len (f + 1) it ps p = .inl z := by
  simp only [prs, h]
  rw [if_neg h1, h2]
theorem prs_ok {T : Nat → Nat} {len f it p q e kd va e' : Nat} {ps ps' : PS} (h : tokf T len p = (q, e, kd, va)) (h1 : ¬ kd = 0) (h2 : itemf T len kd ps e q = .inr (ps', e')) : prs T len (f + 1) it ps p = prs T len f (it + 1) ps' e' := by
  simp only [prs, h]
  rw [if_neg h1, h2]
set_option maxHeartbeats 4000000 in
set_option maxRecDepth 100000 in
theorem c_X6_readNumbers_p (l : Launch) (G : mvG) (a : Nat → Nat) (ro : Nat) (fi : Nat) (L : Nat → Nat) (Nn : Nat → Nat) (len : Nat) (sk : Nat) (att : Nat) (ts : Nat) (tk : Nat) (nb : Nat) (hlen : len ≤ 100) (hL : ∀ j, L j < 256) (hat : att ≤ len) (hnb : nb ≤ 100) : KQ l yX6_readNumbers cX6_readNumbers 4 (some .boolean) (3, 63) G [.ref (a 0), .ref (G.2.2 0), .ref (G.2.2 1)] [gRead G a ro fi (nF L) (nF Nn) (nI len) (nI sk) (nI att) (nI ts) (nI tk) (nI nb)] (fun (zz : Nat × (Nat → Nat) × Nat × Nat × Nat × Nat) => some (.int (nI zz.1))) (fun (zz : Nat × (Nat → Nat) × Nat × Nat × Nat × Nat) => ((zz.1 = 1 ∧ rdN L len rgP att = .inr ([zz.2.1 0, zz.2.1 1, zz.2.1 2, zz.2.1 3], zz.2.2.1) ∧ zz.2.1 0 ≤ 5 ∧ zz.2.1 1 ≤ 5 ∧ zz.2.1 2 ≤ 4 ∧ zz.2.1 3 ≤ 9) ∨ (zz.1 = 0 ∧ rdN L len rgP att = .inl zz.2.2.2.1)) ∧ zz.2.2.2.2.2 ≤ 100 ∧ zz.2.2.2.2.1 < 256 ∧ zz.2.2.1 ≤ len ∧ zz.2.2.2.1 ≤ len ∧ att ≤ zz.2.2.1) (fun (zz : Nat × (Nat → Nat) × Nat × Nat × Nat × Nat) => [gRead G a ro fi (nF L) (nF zz.2.1) (nI len) (nI sk) (nI zz.2.2.1) (nI zz.2.2.2.1) (nI zz.2.2.2.2.1) (nI zz.2.2.2.2.2)]) := by
  refine KQ.mk (by decide +kernel) (fun _ _ => rfl) [some (.ref (a 0)), some (.ref (G.2.2 0)), some (.ref (G.2.2 1)), none] (Nat.le_of_ble_eq_true rfl) rfl (fun C X Y hC => ?_)
  subst hC
  refine V_iconst X (nI 0) dX6_readNumbers_0 (by decide) ?_
  refine V_istore_n X dX6_readNumbers_1 (by decide) rfl ?_
  refine V_iload_n X dX6_readNumbers_2 rfl ?_
  refine V_aload_n X dX6_readNumbers_3 rfl ?_
  refine V_slen X 0 rfl (nI 4) rfl dX6_readNumbers_4 ?_
  refine V_icmp_geN X 73 dX6_readNumbers_5 (by decide) (by decide) (by decide) (fun c_1 => ?_) (fun c_1 => ?_)
  · exfalso; omega
  · refine V_iload_n X dX6_readNumbers_8 rfl ?_
    refine V_aload_n X dX6_readNumbers_9 rfl ?_
    refine V_slen X 1 rfl (nI 4) rfl dX6_readNumbers_10 ?_
    refine V_icmp_geN X 73 dX6_readNumbers_11 (by decide) (by decide) (by decide) (fun c_2 => ?_) (fun c_2 => ?_)
    · exfalso; omega
    · refine V_iload_n X dX6_readNumbers_14 rfl ?_
      refine V_aload_n X dX6_readNumbers_15 rfl ?_
      refine V_get X fl_X6_29 0 0 rfl rfl rfl dX6_readNumbers_16 ?_
      refine V_alen X (t0 := 0) 0 2 (nI 4) rfl rfl rfl rfl dX6_readNumbers_19 ?_
      refine V_icmp_geN X 73 dX6_readNumbers_20 (by decide) (by decide) (by decide) (fun c_3 => ?_) (fun c_3 => ?_)
      · exfalso; omega
      · refine V_aload_n X dX6_readNumbers_23 rfl ?_
        refine V_callV (rest := []) X (c_X6_nextToken (Cl C) G a ro fi L Nn len sk att ts tk nb (by first | assumption | omega) (by first | assumption | omega) (by first | assumption | omega) (by first | assumption | omega)) mi_X6_nextToken kw_2_49 kw_2_51 kw_s_0 dX6_readNumbers_24 [0] rfl (by decide) 0 0 rfl rfl rfl rfl rfl rfl (by decide) (Nat.le_of_ble_eq_true rfl) ⟨rfl, rfl⟩ (fun u_ hu_10 => ?_)
        obtain ⟨p_4, q_5, t_6, x_7, kd_8, va_9⟩ := u_
        have hu_10 : (tokf L len att = (q_5, p_4, kd_8, va_9) ∧ clsC kd_8 va_9 t_6 x_7) ∧ x_7 ≤ 100 ∧ t_6 < 256 ∧ p_4 ≤ len ∧ q_5 ≤ len ∧ att ≤ p_4 ∧ (t_6 = 3 ∨ att < p_4) := hu_10
        show V C 0 0 [gRead G a ro fi (nF L) (nF Nn) (nI len) (nI sk) (nI p_4) (nI q_5) (nI t_6) (nI x_7)] 27 [some (.ref (a 0)), some (.ref (G.2.2 0)), some (.ref (G.2.2 1)), some (.int (nI 0))] []
        have tA_0 := hu_10
        have tB_0 := hu_10.1.2
        simp only [clsC] at tB_0
        refine V_aload_n X dX6_readNumbers_27 rfl ?_
        refine V_get X fl_X6_51 0 0 rfl rfl rfl dX6_readNumbers_28 ?_
        refine V_iconst X (nI 1) dX6_readNumbers_31 (by decide) ?_
        refine V_icmp_neN X 55 dX6_readNumbers_32 (by decide) (by omega) (by decide) (fun c_11 => ?_) (fun c_11 => ?_)
        · refine V_iconst X (nI 0) dX6_readNumbers_55 (by decide) ?_
          exact V_iret X Y ⟨0, Nn, p_4, q_5, t_6, x_7⟩ (show ((0 = 1 ∧ rdN L len rgP att = .inr ([Nn 0, Nn 1, Nn 2, Nn 3], p_4) ∧ Nn 0 ≤ 5 ∧ Nn 1 ≤ 5 ∧ Nn 2 ≤ 4 ∧ Nn 3 ≤ 9) ∨ (0 = 0 ∧ rdN L len rgP att = .inl q_5)) ∧ x_7 ≤ 100 ∧ t_6 < 256 ∧ p_4 ≤ len ∧ q_5 ≤ len ∧ att ≤ p_4 from ⟨Or.inr ⟨rfl, by rw [rdN_bad tA_0.1.1 (by omega)]⟩, by omega⟩) rfl rfl rfl dX6_readNumbers_56
        · refine V_aload_n X dX6_readNumbers_35 rfl ?_
          refine V_get X fl_X6_95 0 0 rfl rfl rfl dX6_readNumbers_36 ?_
          refine V_aload_n X dX6_readNumbers_39 rfl ?_
          refine V_iload_n X dX6_readNumbers_40 rfl ?_
          refine V_saldN X 0 rfl (by decide) (by decide) (nI 0) rfl dX6_readNumbers_41 ?_
          refine V_icmp_ltN X 55 dX6_readNumbers_42 (by decide) (by omega) (by decide) (fun c_12 => ?_) (fun c_12 => ?_)
          · refine V_iconst X (nI 0) dX6_readNumbers_55 (by decide) ?_
            exact V_iret X Y ⟨0, Nn, p_4, q_5, t_6, x_7⟩ (show ((0 = 1 ∧ rdN L len rgP att = .inr ([Nn 0, Nn 1, Nn 2, Nn 3], p_4) ∧ Nn 0 ≤ 5 ∧ Nn 1 ≤ 5 ∧ Nn 2 ≤ 4 ∧ Nn 3 ≤ 9) ∨ (0 = 0 ∧ rdN L len rgP att = .inl q_5)) ∧ x_7 ≤ 100 ∧ t_6 < 256 ∧ p_4 ≤ len ∧ q_5 ≤ len ∧ att ≤ p_4 from ⟨Or.inr ⟨rfl, by rw [rdN_bad tA_0.1.1 (by omega)]⟩, by omega⟩) rfl rfl rfl dX6_readNumbers_56
          · refine V_aload_n X dX6_readNumbers_45 rfl ?_
            refine V_get X fl_X6_95 0 0 rfl rfl rfl dX6_readNumbers_46 ?_
            refine V_aload_n X dX6_readNumbers_49 rfl ?_
            refine V_iload_n X dX6_readNumbers_50 rfl ?_
            refine V_saldN X 1 rfl (by decide) (by decide) (nI 5) rfl dX6_readNumbers_51 ?_
            refine V_icmp_leN X 57 dX6_readNumbers_52 (by decide) (by omega) (by decide) (fun c_13 => ?_) (fun c_13 => ?_)
            · have tC_0 : kd_8 = 1 ∧ 0 ≤ va_9 ∧ va_9 ≤ 5 ∧ x_7 = va_9 := by omega
              clear tB_0
              refine V_aload_n X dX6_readNumbers_57 rfl ?_
              refine V_get X fl_X6_29 0 0 rfl rfl rfl dX6_readNumbers_58 ?_
              refine V_iload_n X dX6_readNumbers_61 rfl ?_
              refine V_aload_n X dX6_readNumbers_62 rfl ?_
              refine V_get X fl_X6_95 0 0 rfl rfl rfl dX6_readNumbers_63 ?_
              refine V_iastN X 0 2 rfl rfl (by decide) (by decide) dX6_readNumbers_66 ?_
              show V C 0 0 [gRead G a ro fi (nF L) (nF (va_up Nn 0 x_7)) (nI len) (nI sk) (nI p_4) (nI q_5) (nI t_6) (nI x_7)] 67 [some (.ref (a 0)), some (.ref (G.2.2 0)), some (.ref (G.2.2 1)), some (.int (nI 0))] []
              refine V_iincN X (c := 1) dX6_readNumbers_67 rfl (by decide) rfl ?_
              show V C 0 0 _ 70 [some (.ref (a 0)), some (.ref (G.2.2 0)), some (.ref (G.2.2 1)), some (.int (nI 1))] []
              refine V_goto X 2 dX6_readNumbers_70 (by decide) ?_
              refine V_iload_n X dX6_readNumbers_2 rfl ?_
              refine V_aload_n X dX6_readNumbers_3 rfl ?_
              refine V_slen X 0 rfl (nI 4) rfl dX6_readNumbers_4 ?_
              refine V_icmp_geN X 73 dX6_readNumbers_5 (by decide) (by decide) (by decide) (fun c_14 => ?_) (fun c_14 => ?_)
              · exfalso; omega
              · refine V_iload_n X dX6_readNumbers_8 rfl ?_
                refine V_aload_n X dX6_readNumbers_9 rfl ?_
                refine V_slen X 1 rfl (nI 4) rfl dX6_readNumbers_10 ?_
                refine V_icmp_geN X 73 dX6_readNumbers_11 (by decide) (by decide) (by decide) (fun c_15 => ?_) (fun c_15 => ?_)
                · exfalso; omega
                · refine V_iload_n X dX6_readNumbers_14 rfl ?_
                  refine V_aload_n X dX6_readNumbers_15 rfl ?_
                  refine V_get X fl_X6_29 0 0 rfl rfl rfl dX6_readNumbers_16 ?_
                  refine V_alen X (t0 := 0) 0 2 (nI 4) rfl rfl rfl rfl dX6_readNumbers_19 ?_
                  refine V_icmp_geN X 73 dX6_readNumbers_20 (by decide) (by decide) (by decide) (fun c_16 => ?_) (fun c_16 => ?_)
                  · exfalso; omega
                  · refine V_aload_n X dX6_readNumbers_23 rfl ?_
                    refine V_callV (rest := []) X (c_X6_nextToken (Cl C) G a ro fi L (va_up Nn 0 x_7) len sk p_4 q_5 t_6 x_7 (by first | assumption | omega) (by first | assumption | omega) (by first | assumption | omega) (by first | assumption | omega)) mi_X6_nextToken kw_2_49 kw_2_51 kw_s_0 dX6_readNumbers_24 [0] rfl (by decide) 0 0 rfl rfl rfl rfl rfl rfl (by decide) (Nat.le_of_ble_eq_true rfl) ⟨rfl, rfl⟩ (fun u_ hu_23 => ?_)
                    obtain ⟨p_17, q_18, t_19, x_20, kd_21, va_22⟩ := u_
                    have hu_23 : (tokf L len p_4 = (q_18, p_17, kd_21, va_22) ∧ clsC kd_21 va_22 t_19 x_20) ∧ x_20 ≤ 100 ∧ t_19 < 256 ∧ p_17 ≤ len ∧ q_18 ≤ len ∧ p_4 ≤ p_17 ∧ (t_19 = 3 ∨ p_4 < p_17) := hu_23
                    show V C 0 0 [gRead G a ro fi (nF L) (nF (va_up Nn 0 x_7)) (nI len) (nI sk) (nI p_17) (nI q_18) (nI t_19) (nI x_20)] 27 [some (.ref (a 0)), some (.ref (G.2.2 0)), some (.ref (G.2.2 1)), some (.int (nI 1))] []
                    have tA_1 := hu_23
                    have tB_1 := hu_23.1.2
                    simp only [clsC] at tB_1
                    refine V_aload_n X dX6_readNumbers_27 rfl ?_
                    refine V_get X fl_X6_51 0 0 rfl rfl rfl dX6_readNumbers_28 ?_
                    refine V_iconst X (nI 1) dX6_readNumbers_31 (by decide) ?_
                    refine V_icmp_neN X 55 dX6_readNumbers_32 (by decide) (by omega) (by decide) (fun c_24 => ?_) (fun c_24 => ?_)
                    · refine V_iconst X (nI 0) dX6_readNumbers_55 (by decide) ?_
                      exact V_iret X Y ⟨0, (va_up Nn 0 x_7), p_17, q_18, t_19, x_20⟩ (show ((0 = 1 ∧ rdN L len rgP att = .inr ([(va_up Nn 0 x_7) 0, (va_up Nn 0 x_7) 1, (va_up Nn 0 x_7) 2, (va_up Nn 0 x_7) 3], p_17) ∧ (va_up Nn 0 x_7) 0 ≤ 5 ∧ (va_up Nn 0 x_7) 1 ≤ 5 ∧ (va_up Nn 0 x_7) 2 ≤ 4 ∧ (va_up Nn 0 x_7) 3 ≤ 9) ∨ (0 = 0 ∧ rdN L len rgP att = .inl q_18)) ∧ x_20 ≤ 100 ∧ t_19 < 256 ∧ p_17 ≤ len ∧ q_18 ≤ len ∧ att ≤ p_17 from ⟨Or.inr ⟨rfl, by rw [rdN_ok tA_0.1.1 (by omega), rdN_bad tA_1.1.1 (by omega)]⟩, by omega⟩) rfl rfl rfl dX6_readNumbers_56
                    · refine V_aload_n X dX6_readNumbers_35 rfl ?_
                      refine V_get X fl_X6_95 0 0 rfl rfl rfl dX6_readNumbers_36 ?_
                      refine V_aload_n X dX6_readNumbers_39 rfl ?_
                      refine V_iload_n X dX6_readNumbers_40 rfl ?_
                      refine V_saldN X 0 rfl (by decide) (by decide) (nI 0) rfl dX6_readNumbers_41 ?_
                      refine V_icmp_ltN X 55 dX6_readNumbers_42 (by decide) (by omega) (by decide) (fun c_25 => ?_) (fun c_25 => ?_)
                      · refine V_iconst X (nI 0) dX6_readNumbers_55 (by decide) ?_
                        exact V_iret X Y ⟨0, (va_up Nn 0 x_7), p_17, q_18, t_19, x_20⟩ (show ((0 = 1 ∧ rdN L len rgP att = .inr ([(va_up Nn 0 x_7) 0, (va_up Nn 0 x_7) 1, (va_up Nn 0 x_7) 2, (va_up Nn 0 x_7) 3], p_17) ∧ (va_up Nn 0 x_7) 0 ≤ 5 ∧ (va_up Nn 0 x_7) 1 ≤ 5 ∧ (va_up Nn 0 x_7) 2 ≤ 4 ∧ (va_up Nn 0 x_7) 3 ≤ 9) ∨ (0 = 0 ∧ rdN L len rgP att = .inl q_18)) ∧ x_20 ≤ 100 ∧ t_19 < 256 ∧ p_17 ≤ len ∧ q_18 ≤ len ∧ att ≤ p_17 from ⟨Or.inr ⟨rfl, by rw [rdN_ok tA_0.1.1 (by omega), rdN_bad tA_1.1.1 (by omega)]⟩, by omega⟩) rfl rfl rfl dX6_readNumbers_56
                      · refine V_aload_n X dX6_readNumbers_45 rfl ?_
                        refine V_get X fl_X6_95 0 0 rfl rfl rfl dX6_readNumbers_46 ?_
                        refine V_aload_n X dX6_readNumbers_49 rfl ?_
                        refine V_iload_n X dX6_readNumbers_50 rfl ?_
                        refine V_saldN X 1 rfl (by decide) (by decide) (nI 5) rfl dX6_readNumbers_51 ?_
                        refine V_icmp_leN X 57 dX6_readNumbers_52 (by decide) (by omega) (by decide) (fun c_26 => ?_) (fun c_26 => ?_)
                        · have tC_1 : kd_21 = 1 ∧ 0 ≤ va_22 ∧ va_22 ≤ 5 ∧ x_20 = va_22 := by omega
                          clear tB_1
                          refine V_aload_n X dX6_readNumbers_57 rfl ?_
                          refine V_get X fl_X6_29 0 0 rfl rfl rfl dX6_readNumbers_58 ?_
                          refine V_iload_n X dX6_readNumbers_61 rfl ?_
                          refine V_aload_n X dX6_readNumbers_62 rfl ?_
                          refine V_get X fl_X6_95 0 0 rfl rfl rfl dX6_readNumbers_63 ?_
                          refine V_iastN X 0 2 rfl rfl (by decide) (by decide) dX6_readNumbers_66 ?_
                          show V C 0 0 [gRead G a ro fi (nF L) (nF (va_up (va_up Nn 0 x_7) 1 x_20)) (nI len) (nI sk) (nI p_17) (nI q_18) (nI t_19) (nI x_20)] 67 [some (.ref (a 0)), some (.ref (G.2.2 0)), some (.ref (G.2.2 1)), some (.int (nI 1))] []
                          refine V_iincN X (c := 1) dX6_readNumbers_67 rfl (by decide) rfl ?_
                          show V C 0 0 _ 70 [some (.ref (a 0)), some (.ref (G.2.2 0)), some (.ref (G.2.2 1)), some (.int (nI 2))] []
                          refine V_goto X 2 dX6_readNumbers_70 (by decide) ?_
                          refine V_iload_n X dX6_readNumbers_2 rfl ?_
                          refine V_aload_n X dX6_readNumbers_3 rfl ?_
                          refine V_slen X 0 rfl (nI 4) rfl dX6_readNumbers_4 ?_
                          refine V_icmp_geN X 73 dX6_readNumbers_5 (by decide) (by decide) (by decide) (fun c_27 => ?_) (fun c_27 => ?_)
                          · exfalso; omega
                          · refine V_iload_n X dX6_readNumbers_8 rfl ?_
                            refine V_aload_n X dX6_readNumbers_9 rfl ?_
                            refine V_slen X 1 rfl (nI 4) rfl dX6_readNumbers_10 ?_
                            refine V_icmp_geN X 73 dX6_readNumbers_11 (by decide) (by decide) (by decide) (fun c_28 => ?_) (fun c_28 => ?_)
                            · exfalso; omega
                            · refine V_iload_n X dX6_readNumbers_14 rfl ?_
                              refine V_aload_n X dX6_readNumbers_15 rfl ?_
                              refine V_get X fl_X6_29 0 0 rfl rfl rfl dX6_readNumbers_16 ?_
                              refine V_alen X (t0 := 0) 0 2 (nI 4) rfl rfl rfl rfl dX6_readNumbers_19 ?_
                              refine V_icmp_geN X 73 dX6_readNumbers_20 (by decide) (by decide) (by decide) (fun c_29 => ?_) (fun c_29 => ?_)
                              · exfalso; omega
                              · refine V_aload_n X dX6_readNumbers_23 rfl ?_
                                refine V_callV (rest := []) X (c_X6_nextToken (Cl C) G a ro fi L (va_up (va_up Nn 0 x_7) 1 x_20) len sk p_17 q_18 t_19 x_20 (by first | assumption | omega) (by first | assumption | omega) (by first | assumption | omega) (by first | assumption | omega)) mi_X6_nextToken kw_2_49 kw_2_51 kw_s_0 dX6_readNumbers_24 [0] rfl (by decide) 0 0 rfl rfl rfl rfl rfl rfl (by decide) (Nat.le_of_ble_eq_true rfl) ⟨rfl, rfl⟩ (fun u_ hu_36 => ?_)
                                obtain ⟨p_30, q_31, t_32, x_33, kd_34, va_35⟩ := u_
                                have hu_36 : (tokf L len p_17 = (q_31, p_30, kd_34, va_35) ∧ clsC kd_34 va_35 t_32 x_33) ∧ x_33 ≤ 100 ∧ t_32 < 256 ∧ p_30 ≤ len ∧ q_31 ≤ len ∧ p_17 ≤ p_30 ∧ (t_32 = 3 ∨ p_17 < p_30) := hu_36
                                show V C 0 0 [gRead G a ro fi (nF L) (nF (va_up (va_up Nn 0 x_7) 1 x_20)) (nI len) (nI sk) (nI p_30) (nI q_31) (nI t_32) (nI x_33)] 27 [some (.ref (a 0)), some (.ref (G.2.2 0)), some (.ref (G.2.2 1)), some (.int (nI 2))] []
                                have tA_2 := hu_36
                                have tB_2 := hu_36.1.2
                                simp only [clsC] at tB_2
                                refine V_aload_n X dX6_readNumbers_27 rfl ?_
                                refine V_get X fl_X6_51 0 0 rfl rfl rfl dX6_readNumbers_28 ?_
                                refine V_iconst X (nI 1) dX6_readNumbers_31 (by decide) ?_
                                refine V_icmp_neN X 55 dX6_readNumbers_32 (by decide) (by omega) (by decide) (fun c_37 => ?_) (fun c_37 => ?_)
                                · refine V_iconst X (nI 0) dX6_readNumbers_55 (by decide) ?_
                                  exact V_iret X Y ⟨0, (va_up (va_up Nn 0 x_7) 1 x_20), p_30, q_31, t_32, x_33⟩ (show ((0 = 1 ∧ rdN L len rgP att = .inr ([(va_up (va_up Nn 0 x_7) 1 x_20) 0, (va_up (va_up Nn 0 x_7) 1 x_20) 1, (va_up (va_up Nn 0 x_7) 1 x_20) 2, (va_up (va_up Nn 0 x_7) 1 x_20) 3], p_30) ∧ (va_up (va_up Nn 0 x_7) 1 x_20) 0 ≤ 5 ∧ (va_up (va_up Nn 0 x_7) 1 x_20) 1 ≤ 5 ∧ (va_up (va_up Nn 0 x_7) 1 x_20) 2 ≤ 4 ∧ (va_up (va_up Nn 0 x_7) 1 x_20) 3 ≤ 9) ∨ (0 = 0 ∧ rdN L len rgP att = .inl q_31)) ∧ x_33 ≤ 100 ∧ t_32 < 256 ∧ p_30 ≤ len ∧ q_31 ≤ len ∧ att ≤ p_30 from ⟨Or.inr ⟨rfl, by rw [rdN_ok tA_0.1.1 (by omega), rdN_ok tA_1.1.1 (by omega), rdN_bad tA_2.1.1 (by omega)]⟩, by omega⟩) rfl rfl rfl dX6_readNumbers_56
                                · refine V_aload_n X dX6_readNumbers_35 rfl ?_
                                  refine V_get X fl_X6_95 0 0 rfl rfl rfl dX6_readNumbers_36 ?_
                                  refine V_aload_n X dX6_readNumbers_39 rfl ?_
                                  refine V_iload_n X dX6_readNumbers_40 rfl ?_
                                  refine V_saldN X 0 rfl (by decide) (by decide) (nI 1) rfl dX6_readNumbers_41 ?_
                                  refine V_icmp_ltN X 55 dX6_readNumbers_42 (by decide) (by omega) (by decide) (fun c_38 => ?_) (fun c_38 => ?_)
                                  · refine V_iconst X (nI 0) dX6_readNumbers_55 (by decide) ?_
                                    exact V_iret X Y ⟨0, (va_up (va_up Nn 0 x_7) 1 x_20), p_30, q_31, t_32, x_33⟩ (show ((0 = 1 ∧ rdN L len rgP att = .inr ([(va_up (va_up Nn 0 x_7) 1 x_20) 0, (va_up (va_up Nn 0 x_7) 1 x_20) 1, (va_up (va_up Nn 0 x_7) 1 x_20) 2, (va_up (va_up Nn 0 x_7) 1 x_20) 3], p_30) ∧ (va_up (va_up Nn 0 x_7) 1 x_20) 0 ≤ 5 ∧ (va_up (va_up Nn 0 x_7) 1 x_20) 1 ≤ 5 ∧ (va_up (va_up Nn 0 x_7) 1 x_20) 2 ≤ 4 ∧ (va_up (va_up Nn 0 x_7) 1 x_20) 3 ≤ 9) ∨ (0 = 0 ∧ rdN L len rgP att = .inl q_31)) ∧ x_33 ≤ 100 ∧ t_32 < 256 ∧ p_30 ≤ len ∧ q_31 ≤ len ∧ att ≤ p_30 from ⟨Or.inr ⟨rfl, by rw [rdN_ok tA_0.1.1 (by omega), rdN_ok tA_1.1.1 (by omega), rdN_bad tA_2.1.1 (by omega)]⟩, by omega⟩) rfl rfl rfl dX6_readNumbers_56
                                  · refine V_aload_n X dX6_readNumbers_45 rfl ?_
                                    refine V_get X fl_X6_95 0 0 rfl rfl rfl dX6_readNumbers_46 ?_
                                    refine V_aload_n X dX6_readNumbers_49 rfl ?_
                                    refine V_iload_n X dX6_readNumbers_50 rfl ?_
                                    refine V_saldN X 1 rfl (by decide) (by decide) (nI 4) rfl dX6_readNumbers_51 ?_
                                    refine V_icmp_leN X 57 dX6_readNumbers_52 (by decide) (by omega) (by decide) (fun c_39 => ?_) (fun c_39 => ?_)
                                    · have tC_2 : kd_34 = 1 ∧ 1 ≤ va_35 ∧ va_35 ≤ 4 ∧ x_33 = va_35 := by omega
                                      clear tB_2
                                      refine V_aload_n X dX6_readNumbers_57 rfl ?_
                                      refine V_get X fl_X6_29 0 0 rfl rfl rfl dX6_readNumbers_58 ?_
                                      refine V_iload_n X dX6_readNumbers_61 rfl ?_
                                      refine V_aload_n X dX6_readNumbers_62 rfl ?_
                                      refine V_get X fl_X6_95 0 0 rfl rfl rfl dX6_readNumbers_63 ?_
                                      refine V_iastN X 0 2 rfl rfl (by decide) (by decide) dX6_readNumbers_66 ?_
                                      show V C 0 0 [gRead G a ro fi (nF L) (nF (va_up (va_up (va_up Nn 0 x_7) 1 x_20) 2 x_33)) (nI len) (nI sk) (nI p_30) (nI q_31) (nI t_32) (nI x_33)] 67 [some (.ref (a 0)), some (.ref (G.2.2 0)), some (.ref (G.2.2 1)), some (.int (nI 2))] []
                                      refine V_iincN X (c := 1) dX6_readNumbers_67 rfl (by decide) rfl ?_
                                      show V C 0 0 _ 70 [some (.ref (a 0)), some (.ref (G.2.2 0)), some (.ref (G.2.2 1)), some (.int (nI 3))] []
                                      refine V_goto X 2 dX6_readNumbers_70 (by decide) ?_
                                      refine V_iload_n X dX6_readNumbers_2 rfl ?_
                                      refine V_aload_n X dX6_readNumbers_3 rfl ?_
                                      refine V_slen X 0 rfl (nI 4) rfl dX6_readNumbers_4 ?_
                                      refine V_icmp_geN X 73 dX6_readNumbers_5 (by decide) (by decide) (by decide) (fun c_40 => ?_) (fun c_40 => ?_)
                                      · exfalso; omega
                                      · refine V_iload_n X dX6_readNumbers_8 rfl ?_
                                        refine V_aload_n X dX6_readNumbers_9 rfl ?_
                                        refine V_slen X 1 rfl (nI 4) rfl dX6_readNumbers_10 ?_
                                        refine V_icmp_geN X 73 dX6_readNumbers_11 (by decide) (by decide) (by decide) (fun c_41 => ?_) (fun c_41 => ?_)
                                        · exfalso; omega
                                        · refine V_iload_n X dX6_readNumbers_14 rfl ?_
                                          refine V_aload_n X dX6_readNumbers_15 rfl ?_
                                          refine V_get X fl_X6_29 0 0 rfl rfl rfl dX6_readNumbers_16 ?_
                                          refine V_alen X (t0 := 0) 0 2 (nI 4) rfl rfl rfl rfl dX6_readNumbers_19 ?_
                                          refine V_icmp_geN X 73 dX6_readNumbers_20 (by decide) (by decide) (by decide) (fun c_42 => ?_) (fun c_42 => ?_)
                                          · exfalso; omega
                                          · refine V_aload_n X dX6_readNumbers_23 rfl ?_
                                            refine V_callV (rest := []) X (c_X6_nextToken (Cl C) G a ro fi L (va_up (va_up (va_up Nn 0 x_7) 1 x_20) 2 x_33) len sk p_30 q_31 t_32 x_33 (by first | assumption | omega) (by first | assumption | omega) (by first | assumption | omega) (by first | assumption | omega)) mi_X6_nextToken kw_2_49 kw_2_51 kw_s_0 dX6_readNumbers_24 [0] rfl (by decide) 0 0 rfl rfl rfl rfl rfl rfl (by decide) (Nat.le_of_ble_eq_true rfl) ⟨rfl, rfl⟩ (fun u_ hu_49 => ?_)
                                            obtain ⟨p_43, q_44, t_45, x_46, kd_47, va_48⟩ := u_
                                            have hu_49 : (tokf L len p_30 = (q_44, p_43, kd_47, va_48) ∧ clsC kd_47 va_48 t_45 x_46) ∧ x_46 ≤ 100 ∧ t_45 < 256 ∧ p_43 ≤ len ∧ q_44 ≤ len ∧ p_30 ≤ p_43 ∧ (t_45 = 3 ∨ p_30 < p_43) := hu_49
                                            show V C 0 0 [gRead G a ro fi (nF L) (nF (va_up (va_up (va_up Nn 0 x_7) 1 x_20) 2 x_33)) (nI len) (nI sk) (nI p_43) (nI q_44) (nI t_45) (nI x_46)] 27 [some (.ref (a 0)), some (.ref (G.2.2 0)), some (.ref (G.2.2 1)), some (.int (nI 3))] []
                                            have tA_3 := hu_49
                                            have tB_3 := hu_49.1.2
                                            simp only [clsC] at tB_3
                                            refine V_aload_n X dX6_readNumbers_27 rfl ?_
                                            refine V_get X fl_X6_51 0 0 rfl rfl rfl dX6_readNumbers_28 ?_
                                            refine V_iconst X (nI 1) dX6_readNumbers_31 (by decide) ?_
                                            refine V_icmp_neN X 55 dX6_readNumbers_32 (by decide) (by omega) (by decide) (fun c_50 => ?_) (fun c_50 => ?_)
                                            · refine V_iconst X (nI 0) dX6_readNumbers_55 (by decide) ?_
                                              exact V_iret X Y ⟨0, (va_up (va_up (va_up Nn 0 x_7) 1 x_20) 2 x_33), p_43, q_44, t_45, x_46⟩ (show ((0 = 1 ∧ rdN L len rgP att = .inr ([(va_up (va_up (va_up Nn 0 x_7) 1 x_20) 2 x_33) 0, (va_up (va_up (va_up Nn 0 x_7) 1 x_20) 2 x_33) 1, (va_up (va_up (va_up Nn 0 x_7) 1 x_20) 2 x_33) 2, (va_up (va_up (va_up Nn 0 x_7) 1 x_20) 2 x_33) 3], p_43) ∧ (va_up (va_up (va_up Nn 0 x_7) 1 x_20) 2 x_33) 0 ≤ 5 ∧ (va_up (va_up (va_up Nn 0 x_7) 1 x_20) 2 x_33) 1 ≤ 5 ∧ (va_up (va_up (va_up Nn 0 x_7) 1 x_20) 2 x_33) 2 ≤ 4 ∧ (va_up (va_up (va_up Nn 0 x_7) 1 x_20) 2 x_33) 3 ≤ 9) ∨ (0 = 0 ∧ rdN L len rgP att = .inl q_44)) ∧ x_46 ≤ 100 ∧ t_45 < 256 ∧ p_43 ≤ len ∧ q_44 ≤ len ∧ att ≤ p_43 from ⟨Or.inr ⟨rfl, by rw [rdN_ok tA_0.1.1 (by omega), rdN_ok tA_1.1.1 (by omega), rdN_ok tA_2.1.1 (by omega), rdN_bad tA_3.1.1 (by omega)]⟩, by omega⟩) rfl rfl rfl dX6_readNumbers_56
                                            · refine V_aload_n X dX6_readNumbers_35 rfl ?_
                                              refine V_get X fl_X6_95 0 0 rfl rfl rfl dX6_readNumbers_36 ?_
                                              refine V_aload_n X dX6_readNumbers_39 rfl ?_
                                              refine V_iload_n X dX6_readNumbers_40 rfl ?_
                                              refine V_saldN X 0 rfl (by decide) (by decide) (nI 0) rfl dX6_readNumbers_41 ?_
                                              refine V_icmp_ltN X 55 dX6_readNumbers_42 (by decide) (by omega) (by decide) (fun c_51 => ?_) (fun c_51 => ?_)
                                              · refine V_iconst X (nI 0) dX6_readNumbers_55 (by decide) ?_
                                                exact V_iret X Y ⟨0, (va_up (va_up (va_up Nn 0 x_7) 1 x_20) 2 x_33), p_43, q_44, t_45, x_46⟩ (show ((0 = 1 ∧ rdN L len rgP att = .inr ([(va_up (va_up (va_up Nn 0 x_7) 1 x_20) 2 x_33) 0, (va_up (va_up (va_up Nn 0 x_7) 1 x_20) 2 x_33) 1, (va_up (va_up (va_up Nn 0 x_7) 1 x_20) 2 x_33) 2, (va_up (va_up (va_up Nn 0 x_7) 1 x_20) 2 x_33) 3], p_43) ∧ (va_up (va_up (va_up Nn 0 x_7) 1 x_20) 2 x_33) 0 ≤ 5 ∧ (va_up (va_up (va_up Nn 0 x_7) 1 x_20) 2 x_33) 1 ≤ 5 ∧ (va_up (va_up (va_up Nn 0 x_7) 1 x_20) 2 x_33) 2 ≤ 4 ∧ (va_up (va_up (va_up Nn 0 x_7) 1 x_20) 2 x_33) 3 ≤ 9) ∨ (0 = 0 ∧ rdN L len rgP att = .inl q_44)) ∧ x_46 ≤ 100 ∧ t_45 < 256 ∧ p_43 ≤ len ∧ q_44 ≤ len ∧ att ≤ p_43 from ⟨Or.inr ⟨rfl, by rw [rdN_ok tA_0.1.1 (by omega), rdN_ok tA_1.1.1 (by omega), rdN_ok tA_2.1.1 (by omega), rdN_bad tA_3.1.1 (by omega)]⟩, by omega⟩) rfl rfl rfl dX6_readNumbers_56
                                              · refine V_aload_n X dX6_readNumbers_45 rfl ?_
                                                refine V_get X fl_X6_95 0 0 rfl rfl rfl dX6_readNumbers_46 ?_
                                                refine V_aload_n X dX6_readNumbers_49 rfl ?_
                                                refine V_iload_n X dX6_readNumbers_50 rfl ?_
                                                refine V_saldN X 1 rfl (by decide) (by decide) (nI 9) rfl dX6_readNumbers_51 ?_
                                                refine V_icmp_leN X 57 dX6_readNumbers_52 (by decide) (by omega) (by decide) (fun c_52 => ?_) (fun c_52 => ?_)
                                                · have tC_3 : kd_47 = 1 ∧ 0 ≤ va_48 ∧ va_48 ≤ 9 ∧ x_46 = va_48 := by omega
                                                  clear tB_3
                                                  refine V_aload_n X dX6_readNumbers_57 rfl ?_
                                                  refine V_get X fl_X6_29 0 0 rfl rfl rfl dX6_readNumbers_58 ?_
                                                  refine V_iload_n X dX6_readNumbers_61 rfl ?_
                                                  refine V_aload_n X dX6_readNumbers_62 rfl ?_
                                                  refine V_get X fl_X6_95 0 0 rfl rfl rfl dX6_readNumbers_63 ?_
                                                  refine V_iastN X 0 2 rfl rfl (by decide) (by decide) dX6_readNumbers_66 ?_
                                                  show V C 0 0 [gRead G a ro fi (nF L) (nF (va_up (va_up (va_up (va_up Nn 0 x_7) 1 x_20) 2 x_33) 3 x_46)) (nI len) (nI sk) (nI p_43) (nI q_44) (nI t_45) (nI x_46)] 67 [some (.ref (a 0)), some (.ref (G.2.2 0)), some (.ref (G.2.2 1)), some (.int (nI 3))] []
                                                  refine V_iincN X (c := 1) dX6_readNumbers_67 rfl (by decide) rfl ?_
                                                  show V C 0 0 _ 70 [some (.ref (a 0)), some (.ref (G.2.2 0)), some (.ref (G.2.2 1)), some (.int (nI 4))] []
                                                  refine V_goto X 2 dX6_readNumbers_70 (by decide) ?_
                                                  refine V_iload_n X dX6_readNumbers_2 rfl ?_
                                                  refine V_aload_n X dX6_readNumbers_3 rfl ?_
                                                  refine V_slen X 0 rfl (nI 4) rfl dX6_readNumbers_4 ?_
                                                  refine V_icmp_geN X 73 dX6_readNumbers_5 (by decide) (by decide) (by decide) (fun c_53 => ?_) (fun c_53 => ?_)
                                                  · refine V_aload_n X dX6_readNumbers_73 rfl ?_
                                                    refine V_callV (rest := []) X (c_X6_nextToken (Cl C) G a ro fi L (va_up (va_up (va_up (va_up Nn 0 x_7) 1 x_20) 2 x_33) 3 x_46) len sk p_43 q_44 t_45 x_46 (by first | assumption | omega) (by first | assumption | omega) (by first | assumption | omega) (by first | assumption | omega)) mi_X6_nextToken kw_2_49 kw_2_51 kw_s_0 dX6_readNumbers_74 [0] rfl (by decide) 0 0 rfl rfl rfl rfl rfl rfl (by decide) (Nat.le_of_ble_eq_true rfl) ⟨rfl, rfl⟩ (fun u_ hu_60 => ?_)
                                                    obtain ⟨p_54, q_55, t_56, x_57, kd_58, va_59⟩ := u_
                                                    have hu_60 : (tokf L len p_43 = (q_55, p_54, kd_58, va_59) ∧ clsC kd_58 va_59 t_56 x_57) ∧ x_57 ≤ 100 ∧ t_56 < 256 ∧ p_54 ≤ len ∧ q_55 ≤ len ∧ p_43 ≤ p_54 ∧ (t_56 = 3 ∨ p_43 < p_54) := hu_60
                                                    show V C 0 0 [gRead G a ro fi (nF L) (nF (va_up (va_up (va_up (va_up Nn 0 x_7) 1 x_20) 2 x_33) 3 x_46)) (nI len) (nI sk) (nI p_54) (nI q_55) (nI t_56) (nI x_57)] 77 [some (.ref (a 0)), some (.ref (G.2.2 0)), some (.ref (G.2.2 1)), some (.int (nI 4))] []
                                                    have tE := hu_60
                                                    have tF := tE.1.2
                                                    simp only [clsC] at tF
                                                    refine V_aload_n X dX6_readNumbers_77 rfl ?_
                                                    refine V_get X fl_X6_51 0 0 rfl rfl rfl dX6_readNumbers_78 ?_
                                                    refine V_bipush X (nI 59) dX6_readNumbers_81 (by decide) ?_
                                                    refine V_icmp_neN X 90 dX6_readNumbers_83 (by decide) (by omega) (by decide) (fun c_61 => ?_) (fun c_61 => ?_)
                                                    · refine V_iconst X (nI 0) dX6_readNumbers_90 (by decide) ?_
                                                      exact V_iret X Y ⟨0, (va_up (va_up (va_up (va_up Nn 0 x_7) 1 x_20) 2 x_33) 3 x_46), p_54, q_55, t_56, x_57⟩ (show ((0 = 1 ∧ rdN L len rgP att = .inr ([(va_up (va_up (va_up (va_up Nn 0 x_7) 1 x_20) 2 x_33) 3 x_46) 0, (va_up (va_up (va_up (va_up Nn 0 x_7) 1 x_20) 2 x_33) 3 x_46) 1, (va_up (va_up (va_up (va_up Nn 0 x_7) 1 x_20) 2 x_33) 3 x_46) 2, (va_up (va_up (va_up (va_up Nn 0 x_7) 1 x_20) 2 x_33) 3 x_46) 3], p_54) ∧ (va_up (va_up (va_up (va_up Nn 0 x_7) 1 x_20) 2 x_33) 3 x_46) 0 ≤ 5 ∧ (va_up (va_up (va_up (va_up Nn 0 x_7) 1 x_20) 2 x_33) 3 x_46) 1 ≤ 5 ∧ (va_up (va_up (va_up (va_up Nn 0 x_7) 1 x_20) 2 x_33) 3 x_46) 2 ≤ 4 ∧ (va_up (va_up (va_up (va_up Nn 0 x_7) 1 x_20) 2 x_33) 3 x_46) 3 ≤ 9) ∨ (0 = 0 ∧ rdN L len rgP att = .inl q_55)) ∧ x_57 ≤ 100 ∧ t_56 < 256 ∧ p_54 ≤ len ∧ q_55 ≤ len ∧ att ≤ p_54 from ⟨Or.inr ⟨rfl, by rw [rdN_ok tA_0.1.1 (by omega), rdN_ok tA_1.1.1 (by omega), rdN_ok tA_2.1.1 (by omega), rdN_ok tA_3.1.1 (by omega), rdN_endB tE.1.1 (by omega)]⟩, by omega⟩) rfl rfl rfl dX6_readNumbers_91
                                                    · refine V_iconst X (nI 1) dX6_readNumbers_86 (by decide) ?_
                                                      refine V_goto X 91 dX6_readNumbers_87 (by decide) ?_
                                                      exact V_iret X Y ⟨1, (va_up (va_up (va_up (va_up Nn 0 x_7) 1 x_20) 2 x_33) 3 x_46), p_54, q_55, t_56, x_57⟩ (show ((1 = 1 ∧ rdN L len rgP att = .inr ([(va_up (va_up (va_up (va_up Nn 0 x_7) 1 x_20) 2 x_33) 3 x_46) 0, (va_up (va_up (va_up (va_up Nn 0 x_7) 1 x_20) 2 x_33) 3 x_46) 1, (va_up (va_up (va_up (va_up Nn 0 x_7) 1 x_20) 2 x_33) 3 x_46) 2, (va_up (va_up (va_up (va_up Nn 0 x_7) 1 x_20) 2 x_33) 3 x_46) 3], p_54) ∧ (va_up (va_up (va_up (va_up Nn 0 x_7) 1 x_20) 2 x_33) 3 x_46) 0 ≤ 5 ∧ (va_up (va_up (va_up (va_up Nn 0 x_7) 1 x_20) 2 x_33) 3 x_46) 1 ≤ 5 ∧ (va_up (va_up (va_up (va_up Nn 0 x_7) 1 x_20) 2 x_33) 3 x_46) 2 ≤ 4 ∧ (va_up (va_up (va_up (va_up Nn 0 x_7) 1 x_20) 2 x_33) 3 x_46) 3 ≤ 9) ∨ (1 = 0 ∧ rdN L len rgP att = .inl q_55)) ∧ x_57 ≤ 100 ∧ t_56 < 256 ∧ p_54 ≤ len ∧ q_55 ≤ len ∧ att ≤ p_54 from ⟨Or.inl ⟨rfl, by rw [rdN_ok tA_0.1.1 (by omega), rdN_ok tA_1.1.1 (by omega), rdN_ok tA_2.1.1 (by omega), rdN_ok tA_3.1.1 (by omega), rdN_end tE.1.1 (by omega)]; (first | rfl | (simp only [va_up]; simp; omega)), by (first | omega | (simp only [va_up]; simp; omega))⟩, by omega⟩) rfl rfl rfl dX6_readNumbers_91
                                                  · exfalso; omega
                                                · refine V_iconst X (nI 0) dX6_readNumbers_55 (by decide) ?_
                                                  exact V_iret X Y ⟨0, (va_up (va_up (va_up Nn 0 x_7) 1 x_20) 2 x_33), p_43, q_44, t_45, x_46⟩ (show ((0 = 1 ∧ rdN L len rgP att = .inr ([(va_up (va_up (va_up Nn 0 x_7) 1 x_20) 2 x_33) 0, (va_up (va_up (va_up Nn 0 x_7) 1 x_20) 2 x_33) 1, (va_up (va_up (va_up Nn 0 x_7) 1 x_20) 2 x_33) 2, (va_up (va_up (va_up Nn 0 x_7) 1 x_20) 2 x_33) 3], p_43) ∧ (va_up (va_up (va_up Nn 0 x_7) 1 x_20) 2 x_33) 0 ≤ 5 ∧ (va_up (va_up (va_up Nn 0 x_7) 1 x_20) 2 x_33) 1 ≤ 5 ∧ (va_up (va_up (va_up Nn 0 x_7) 1 x_20) 2 x_33) 2 ≤ 4 ∧ (va_up (va_up (va_up Nn 0 x_7) 1 x_20) 2 x_33) 3 ≤ 9) ∨ (0 = 0 ∧ rdN L len rgP att = .inl q_44)) ∧ x_46 ≤ 100 ∧ t_45 < 256 ∧ p_43 ≤ len ∧ q_44 ≤ len ∧ att ≤ p_43 from ⟨Or.inr ⟨rfl, by rw [rdN_ok tA_0.1.1 (by omega), rdN_ok tA_1.1.1 (by omega), rdN_ok tA_2.1.1 (by omega), rdN_bad tA_3.1.1 (by omega)]⟩, by omega⟩) rfl rfl rfl dX6_readNumbers_56
                                    · refine V_iconst X (nI 0) dX6_readNumbers_55 (by decide) ?_
                                      exact V_iret X Y ⟨0, (va_up (va_up Nn 0 x_7) 1 x_20), p_30, q_31, t_32, x_33⟩ (show ((0 = 1 ∧ rdN L len rgP att = .inr ([(va_up (va_up Nn 0 x_7) 1 x_20) 0, (va_up (va_up Nn 0 x_7) 1 x_20) 1, (va_up (va_up Nn 0 x_7) 1 x_20) 2, (va_up (va_up Nn 0 x_7) 1 x_20) 3], p_30) ∧ (va_up (va_up Nn 0 x_7) 1 x_20) 0 ≤ 5 ∧ (va_up (va_up Nn 0 x_7) 1 x_20) 1 ≤ 5 ∧ (va_up (va_up Nn 0 x_7) 1 x_20) 2 ≤ 4 ∧ (va_up (va_up Nn 0 x_7) 1 x_20) 3 ≤ 9) ∨ (0 = 0 ∧ rdN L len rgP att = .inl q_31)) ∧ x_33 ≤ 100 ∧ t_32 < 256 ∧ p_30 ≤ len ∧ q_31 ≤ len ∧ att ≤ p_30 from ⟨Or.inr ⟨rfl, by rw [rdN_ok tA_0.1.1 (by omega), rdN_ok tA_1.1.1 (by omega), rdN_bad tA_2.1.1 (by omega)]⟩, by omega⟩) rfl rfl rfl dX6_readNumbers_56
                        · refine V_iconst X (nI 0) dX6_readNumbers_55 (by decide) ?_
                          exact V_iret X Y ⟨0, (va_up Nn 0 x_7), p_17, q_18, t_19, x_20⟩ (show ((0 = 1 ∧ rdN L len rgP att = .inr ([(va_up Nn 0 x_7) 0, (va_up Nn 0 x_7) 1, (va_up Nn 0 x_7) 2, (va_up Nn 0 x_7) 3], p_17) ∧ (va_up Nn 0 x_7) 0 ≤ 5 ∧ (va_up Nn 0 x_7) 1 ≤ 5 ∧ (va_up Nn 0 x_7) 2 ≤ 4 ∧ (va_up Nn 0 x_7) 3 ≤ 9) ∨ (0 = 0 ∧ rdN L len rgP att = .inl q_18)) ∧ x_20 ≤ 100 ∧ t_19 < 256 ∧ p_17 ≤ len ∧ q_18 ≤ len ∧ att ≤ p_17 from ⟨Or.inr ⟨rfl, by rw [rdN_ok tA_0.1.1 (by omega), rdN_bad tA_1.1.1 (by omega)]⟩, by omega⟩) rfl rfl rfl dX6_readNumbers_56
            · refine V_iconst X (nI 0) dX6_readNumbers_55 (by decide) ?_
              exact V_iret X Y ⟨0, Nn, p_4, q_5, t_6, x_7⟩ (show ((0 = 1 ∧ rdN L len rgP att = .inr ([Nn 0, Nn 1, Nn 2, Nn 3], p_4) ∧ Nn 0 ≤ 5 ∧ Nn 1 ≤ 5 ∧ Nn 2 ≤ 4 ∧ Nn 3 ≤ 9) ∨ (0 = 0 ∧ rdN L len rgP att = .inl q_5)) ∧ x_7 ≤ 100 ∧ t_6 < 256 ∧ p_4 ≤ len ∧ q_5 ≤ len ∧ att ≤ p_4 from ⟨Or.inr ⟨rfl, by rw [rdN_bad tA_0.1.1 (by omega)]⟩, by omega⟩) rfl rfl rfl dX6_readNumbers_56
set_option maxHeartbeats 4000000 in
set_option maxRecDepth 100000 in
theorem c_X6_readNumbers_s (l : Launch) (G : mvG) (a : Nat → Nat) (ro : Nat) (fi : Nat) (L : Nat → Nat) (Nn : Nat → Nat) (len : Nat) (sk : Nat) (att : Nat) (ts : Nat) (tk : Nat) (nb : Nat) (hlen : len ≤ 100) (hL : ∀ j, L j < 256) (hat : att ≤ len) (hnb : nb ≤ 100) : KQ l yX6_readNumbers cX6_readNumbers 4 (some .boolean) (3, 63) G [.ref (a 0), .ref (G.2.2 2), .ref (G.2.2 3)] [gRead G a ro fi (nF L) (nF Nn) (nI len) (nI sk) (nI att) (nI ts) (nI tk) (nI nb)] (fun (zz : Nat × (Nat → Nat) × Nat × Nat × Nat × Nat) => some (.int (nI zz.1))) (fun (zz : Nat × (Nat → Nat) × Nat × Nat × Nat × Nat) => ((zz.1 = 1 ∧ rdN L len rgS att = .inr ([zz.2.1 0], zz.2.2.1) ∧ 1 ≤ zz.2.1 0 ∧ zz.2.1 0 ≤ 9) ∨ (zz.1 = 0 ∧ rdN L len rgS att = .inl zz.2.2.2.1)) ∧ zz.2.2.2.2.2 ≤ 100 ∧ zz.2.2.2.2.1 < 256 ∧ zz.2.2.1 ≤ len ∧ zz.2.2.2.1 ≤ len ∧ att ≤ zz.2.2.1) (fun (zz : Nat × (Nat → Nat) × Nat × Nat × Nat × Nat) => [gRead G a ro fi (nF L) (nF zz.2.1) (nI len) (nI sk) (nI zz.2.2.1) (nI zz.2.2.2.1) (nI zz.2.2.2.2.1) (nI zz.2.2.2.2.2)]) := by
  refine KQ.mk (by decide +kernel) (fun _ _ => rfl) [some (.ref (a 0)), some (.ref (G.2.2 2)), some (.ref (G.2.2 3)), none] (Nat.le_of_ble_eq_true rfl) rfl (fun C X Y hC => ?_)
  subst hC
  refine V_iconst X (nI 0) dX6_readNumbers_0 (by decide) ?_
  refine V_istore_n X dX6_readNumbers_1 (by decide) rfl ?_
  refine V_iload_n X dX6_readNumbers_2 rfl ?_
  refine V_aload_n X dX6_readNumbers_3 rfl ?_
  refine V_slen X 2 rfl (nI 1) rfl dX6_readNumbers_4 ?_
  refine V_icmp_geN X 73 dX6_readNumbers_5 (by decide) (by decide) (by decide) (fun c_1 => ?_) (fun c_1 => ?_)
  · exfalso; omega
  · refine V_iload_n X dX6_readNumbers_8 rfl ?_
    refine V_aload_n X dX6_readNumbers_9 rfl ?_
    refine V_slen X 3 rfl (nI 1) rfl dX6_readNumbers_10 ?_
    refine V_icmp_geN X 73 dX6_readNumbers_11 (by decide) (by decide) (by decide) (fun c_2 => ?_) (fun c_2 => ?_)
    · exfalso; omega
    · refine V_iload_n X dX6_readNumbers_14 rfl ?_
      refine V_aload_n X dX6_readNumbers_15 rfl ?_
      refine V_get X fl_X6_29 0 0 rfl rfl rfl dX6_readNumbers_16 ?_
      refine V_alen X (t0 := 0) 0 2 (nI 4) rfl rfl rfl rfl dX6_readNumbers_19 ?_
      refine V_icmp_geN X 73 dX6_readNumbers_20 (by decide) (by decide) (by decide) (fun c_3 => ?_) (fun c_3 => ?_)
      · exfalso; omega
      · refine V_aload_n X dX6_readNumbers_23 rfl ?_
        refine V_callV (rest := []) X (c_X6_nextToken (Cl C) G a ro fi L Nn len sk att ts tk nb (by first | assumption | omega) (by first | assumption | omega) (by first | assumption | omega) (by first | assumption | omega)) mi_X6_nextToken kw_2_49 kw_2_51 kw_s_0 dX6_readNumbers_24 [0] rfl (by decide) 0 0 rfl rfl rfl rfl rfl rfl (by decide) (Nat.le_of_ble_eq_true rfl) ⟨rfl, rfl⟩ (fun u_ hu_10 => ?_)
        obtain ⟨p_4, q_5, t_6, x_7, kd_8, va_9⟩ := u_
        have hu_10 : (tokf L len att = (q_5, p_4, kd_8, va_9) ∧ clsC kd_8 va_9 t_6 x_7) ∧ x_7 ≤ 100 ∧ t_6 < 256 ∧ p_4 ≤ len ∧ q_5 ≤ len ∧ att ≤ p_4 ∧ (t_6 = 3 ∨ att < p_4) := hu_10
        show V C 0 0 [gRead G a ro fi (nF L) (nF Nn) (nI len) (nI sk) (nI p_4) (nI q_5) (nI t_6) (nI x_7)] 27 [some (.ref (a 0)), some (.ref (G.2.2 2)), some (.ref (G.2.2 3)), some (.int (nI 0))] []
        have tA_0 := hu_10
        have tB_0 := hu_10.1.2
        simp only [clsC] at tB_0
        refine V_aload_n X dX6_readNumbers_27 rfl ?_
        refine V_get X fl_X6_51 0 0 rfl rfl rfl dX6_readNumbers_28 ?_
        refine V_iconst X (nI 1) dX6_readNumbers_31 (by decide) ?_
        refine V_icmp_neN X 55 dX6_readNumbers_32 (by decide) (by omega) (by decide) (fun c_11 => ?_) (fun c_11 => ?_)
        · refine V_iconst X (nI 0) dX6_readNumbers_55 (by decide) ?_
          exact V_iret X Y ⟨0, Nn, p_4, q_5, t_6, x_7⟩ (show ((0 = 1 ∧ rdN L len rgS att = .inr ([Nn 0], p_4) ∧ 1 ≤ Nn 0 ∧ Nn 0 ≤ 9) ∨ (0 = 0 ∧ rdN L len rgS att = .inl q_5)) ∧ x_7 ≤ 100 ∧ t_6 < 256 ∧ p_4 ≤ len ∧ q_5 ≤ len ∧ att ≤ p_4 from ⟨Or.inr ⟨rfl, by rw [rdN_bad tA_0.1.1 (by omega)]⟩, by omega⟩) rfl rfl rfl dX6_readNumbers_56
        · refine V_aload_n X dX6_readNumbers_35 rfl ?_
          refine V_get X fl_X6_95 0 0 rfl rfl rfl dX6_readNumbers_36 ?_
          refine V_aload_n X dX6_readNumbers_39 rfl ?_
          refine V_iload_n X dX6_readNumbers_40 rfl ?_
          refine V_saldN X 2 rfl (by decide) (by decide) (nI 1) rfl dX6_readNumbers_41 ?_
          refine V_icmp_ltN X 55 dX6_readNumbers_42 (by decide) (by omega) (by decide) (fun c_12 => ?_) (fun c_12 => ?_)
          · refine V_iconst X (nI 0) dX6_readNumbers_55 (by decide) ?_
            exact V_iret X Y ⟨0, Nn, p_4, q_5, t_6, x_7⟩ (show ((0 = 1 ∧ rdN L len rgS att = .inr ([Nn 0], p_4) ∧ 1 ≤ Nn 0 ∧ Nn 0 ≤ 9) ∨ (0 = 0 ∧ rdN L len rgS att = .inl q_5)) ∧ x_7 ≤ 100 ∧ t_6 < 256 ∧ p_4 ≤ len ∧ q_5 ≤ len ∧ att ≤ p_4 from ⟨Or.inr ⟨rfl, by rw [rdN_bad tA_0.1.1 (by omega)]⟩, by omega⟩) rfl rfl rfl dX6_readNumbers_56
          · refine V_aload_n X dX6_readNumbers_45 rfl ?_
            refine V_get X fl_X6_95 0 0 rfl rfl rfl dX6_readNumbers_46 ?_
            refine V_aload_n X dX6_readNumbers_49 rfl ?_
            refine V_iload_n X dX6_readNumbers_50 rfl ?_
            refine V_saldN X 3 rfl (by decide) (by decide) (nI 9) rfl dX6_readNumbers_51 ?_
            refine V_icmp_leN X 57 dX6_readNumbers_52 (by decide) (by omega) (by decide) (fun c_13 => ?_) (fun c_13 => ?_)
            · have tC_0 : kd_8 = 1 ∧ 1 ≤ va_9 ∧ va_9 ≤ 9 ∧ x_7 = va_9 := by omega
              clear tB_0
              refine V_aload_n X dX6_readNumbers_57 rfl ?_
              refine V_get X fl_X6_29 0 0 rfl rfl rfl dX6_readNumbers_58 ?_
              refine V_iload_n X dX6_readNumbers_61 rfl ?_
              refine V_aload_n X dX6_readNumbers_62 rfl ?_
              refine V_get X fl_X6_95 0 0 rfl rfl rfl dX6_readNumbers_63 ?_
              refine V_iastN X 0 2 rfl rfl (by decide) (by decide) dX6_readNumbers_66 ?_
              show V C 0 0 [gRead G a ro fi (nF L) (nF (va_up Nn 0 x_7)) (nI len) (nI sk) (nI p_4) (nI q_5) (nI t_6) (nI x_7)] 67 [some (.ref (a 0)), some (.ref (G.2.2 2)), some (.ref (G.2.2 3)), some (.int (nI 0))] []
              refine V_iincN X (c := 1) dX6_readNumbers_67 rfl (by decide) rfl ?_
              show V C 0 0 _ 70 [some (.ref (a 0)), some (.ref (G.2.2 2)), some (.ref (G.2.2 3)), some (.int (nI 1))] []
              refine V_goto X 2 dX6_readNumbers_70 (by decide) ?_
              refine V_iload_n X dX6_readNumbers_2 rfl ?_
              refine V_aload_n X dX6_readNumbers_3 rfl ?_
              refine V_slen X 2 rfl (nI 1) rfl dX6_readNumbers_4 ?_
              refine V_icmp_geN X 73 dX6_readNumbers_5 (by decide) (by decide) (by decide) (fun c_14 => ?_) (fun c_14 => ?_)
              · refine V_aload_n X dX6_readNumbers_73 rfl ?_
                refine V_callV (rest := []) X (c_X6_nextToken (Cl C) G a ro fi L (va_up Nn 0 x_7) len sk p_4 q_5 t_6 x_7 (by first | assumption | omega) (by first | assumption | omega) (by first | assumption | omega) (by first | assumption | omega)) mi_X6_nextToken kw_2_49 kw_2_51 kw_s_0 dX6_readNumbers_74 [0] rfl (by decide) 0 0 rfl rfl rfl rfl rfl rfl (by decide) (Nat.le_of_ble_eq_true rfl) ⟨rfl, rfl⟩ (fun u_ hu_21 => ?_)
                obtain ⟨p_15, q_16, t_17, x_18, kd_19, va_20⟩ := u_
                have hu_21 : (tokf L len p_4 = (q_16, p_15, kd_19, va_20) ∧ clsC kd_19 va_20 t_17 x_18) ∧ x_18 ≤ 100 ∧ t_17 < 256 ∧ p_15 ≤ len ∧ q_16 ≤ len ∧ p_4 ≤ p_15 ∧ (t_17 = 3 ∨ p_4 < p_15) := hu_21
                show V C 0 0 [gRead G a ro fi (nF L) (nF (va_up Nn 0 x_7)) (nI len) (nI sk) (nI p_15) (nI q_16) (nI t_17) (nI x_18)] 77 [some (.ref (a 0)), some (.ref (G.2.2 2)), some (.ref (G.2.2 3)), some (.int (nI 1))] []
                have tE := hu_21
                have tF := tE.1.2
                simp only [clsC] at tF
                refine V_aload_n X dX6_readNumbers_77 rfl ?_
                refine V_get X fl_X6_51 0 0 rfl rfl rfl dX6_readNumbers_78 ?_
                refine V_bipush X (nI 59) dX6_readNumbers_81 (by decide) ?_
                refine V_icmp_neN X 90 dX6_readNumbers_83 (by decide) (by omega) (by decide) (fun c_22 => ?_) (fun c_22 => ?_)
                · refine V_iconst X (nI 0) dX6_readNumbers_90 (by decide) ?_
                  exact V_iret X Y ⟨0, (va_up Nn 0 x_7), p_15, q_16, t_17, x_18⟩ (show ((0 = 1 ∧ rdN L len rgS att = .inr ([(va_up Nn 0 x_7) 0], p_15) ∧ 1 ≤ (va_up Nn 0 x_7) 0 ∧ (va_up Nn 0 x_7) 0 ≤ 9) ∨ (0 = 0 ∧ rdN L len rgS att = .inl q_16)) ∧ x_18 ≤ 100 ∧ t_17 < 256 ∧ p_15 ≤ len ∧ q_16 ≤ len ∧ att ≤ p_15 from ⟨Or.inr ⟨rfl, by rw [rdN_ok tA_0.1.1 (by omega), rdN_endB tE.1.1 (by omega)]⟩, by omega⟩) rfl rfl rfl dX6_readNumbers_91
                · refine V_iconst X (nI 1) dX6_readNumbers_86 (by decide) ?_
                  refine V_goto X 91 dX6_readNumbers_87 (by decide) ?_
                  exact V_iret X Y ⟨1, (va_up Nn 0 x_7), p_15, q_16, t_17, x_18⟩ (show ((1 = 1 ∧ rdN L len rgS att = .inr ([(va_up Nn 0 x_7) 0], p_15) ∧ 1 ≤ (va_up Nn 0 x_7) 0 ∧ (va_up Nn 0 x_7) 0 ≤ 9) ∨ (1 = 0 ∧ rdN L len rgS att = .inl q_16)) ∧ x_18 ≤ 100 ∧ t_17 < 256 ∧ p_15 ≤ len ∧ q_16 ≤ len ∧ att ≤ p_15 from ⟨Or.inl ⟨rfl, by rw [rdN_ok tA_0.1.1 (by omega), rdN_end tE.1.1 (by omega)]; (first | rfl | (simp only [va_up]; simp; omega)), by (first | omega | (simp only [va_up]; simp; omega))⟩, by omega⟩) rfl rfl rfl dX6_readNumbers_91
              · exfalso; omega
            · refine V_iconst X (nI 0) dX6_readNumbers_55 (by decide) ?_
              exact V_iret X Y ⟨0, Nn, p_4, q_5, t_6, x_7⟩ (show ((0 = 1 ∧ rdN L len rgS att = .inr ([Nn 0], p_4) ∧ 1 ≤ Nn 0 ∧ Nn 0 ≤ 9) ∨ (0 = 0 ∧ rdN L len rgS att = .inl q_5)) ∧ x_7 ≤ 100 ∧ t_6 < 256 ∧ p_4 ≤ len ∧ q_5 ≤ len ∧ att ≤ p_4 from ⟨Or.inr ⟨rfl, by rw [rdN_bad tA_0.1.1 (by omega)]⟩, by omega⟩) rfl rfl rfl dX6_readNumbers_56
set_option maxHeartbeats 4000000 in
set_option maxRecDepth 100000 in
theorem c_X6_readNumbers_f (l : Launch) (G : mvG) (a : Nat → Nat) (ro : Nat) (fi : Nat) (L : Nat → Nat) (Nn : Nat → Nat) (len : Nat) (sk : Nat) (att : Nat) (ts : Nat) (tk : Nat) (nb : Nat) (hlen : len ≤ 100) (hL : ∀ j, L j < 256) (hat : att ≤ len) (hnb : nb ≤ 100) : KQ l yX6_readNumbers cX6_readNumbers 4 (some .boolean) (3, 63) G [.ref (a 0), .ref (G.2.2 4), .ref (G.2.2 5)] [gRead G a ro fi (nF L) (nF Nn) (nI len) (nI sk) (nI att) (nI ts) (nI tk) (nI nb)] (fun (zz : Nat × (Nat → Nat) × Nat × Nat × Nat × Nat) => some (.int (nI zz.1))) (fun (zz : Nat × (Nat → Nat) × Nat × Nat × Nat × Nat) => ((zz.1 = 1 ∧ rdN L len rgF att = .inr ([zz.2.1 0, zz.2.1 1, zz.2.1 2], zz.2.2.1) ∧ zz.2.1 0 ≤ 5 ∧ zz.2.1 1 ≤ 5 ∧ zz.2.1 2 ≤ 9) ∨ (zz.1 = 0 ∧ rdN L len rgF att = .inl zz.2.2.2.1)) ∧ zz.2.2.2.2.2 ≤ 100 ∧ zz.2.2.2.2.1 < 256 ∧ zz.2.2.1 ≤ len ∧ zz.2.2.2.1 ≤ len ∧ att ≤ zz.2.2.1) (fun (zz : Nat × (Nat → Nat) × Nat × Nat × Nat × Nat) => [gRead G a ro fi (nF L) (nF zz.2.1) (nI len) (nI sk) (nI zz.2.2.1) (nI zz.2.2.2.1) (nI zz.2.2.2.2.1) (nI zz.2.2.2.2.2)]) := by
  refine KQ.mk (by decide +kernel) (fun _ _ => rfl) [some (.ref (a 0)), some (.ref (G.2.2 4)), some (.ref (G.2.2 5)), none] (Nat.le_of_ble_eq_true rfl) rfl (fun C X Y hC => ?_)
  subst hC
  refine V_iconst X (nI 0) dX6_readNumbers_0 (by decide) ?_
  refine V_istore_n X dX6_readNumbers_1 (by decide) rfl ?_
  refine V_iload_n X dX6_readNumbers_2 rfl ?_
  refine V_aload_n X dX6_readNumbers_3 rfl ?_
  refine V_slen X 4 rfl (nI 3) rfl dX6_readNumbers_4 ?_
  refine V_icmp_geN X 73 dX6_readNumbers_5 (by decide) (by decide) (by decide) (fun c_1 => ?_) (fun c_1 => ?_)
  · exfalso; omega
  · refine V_iload_n X dX6_readNumbers_8 rfl ?_
    refine V_aload_n X dX6_readNumbers_9 rfl ?_
    refine V_slen X 5 rfl (nI 3) rfl dX6_readNumbers_10 ?_
    refine V_icmp_geN X 73 dX6_readNumbers_11 (by decide) (by decide) (by decide) (fun c_2 => ?_) (fun c_2 => ?_)
    · exfalso; omega
    · refine V_iload_n X dX6_readNumbers_14 rfl ?_
      refine V_aload_n X dX6_readNumbers_15 rfl ?_
      refine V_get X fl_X6_29 0 0 rfl rfl rfl dX6_readNumbers_16 ?_
      refine V_alen X (t0 := 0) 0 2 (nI 4) rfl rfl rfl rfl dX6_readNumbers_19 ?_
      refine V_icmp_geN X 73 dX6_readNumbers_20 (by decide) (by decide) (by decide) (fun c_3 => ?_) (fun c_3 => ?_)
      · exfalso; omega
      · refine V_aload_n X dX6_readNumbers_23 rfl ?_
        refine V_callV (rest := []) X (c_X6_nextToken (Cl C) G a ro fi L Nn len sk att ts tk nb (by first | assumption | omega) (by first | assumption | omega) (by first | assumption | omega) (by first | assumption | omega)) mi_X6_nextToken kw_2_49 kw_2_51 kw_s_0 dX6_readNumbers_24 [0] rfl (by decide) 0 0 rfl rfl rfl rfl rfl rfl (by decide) (Nat.le_of_ble_eq_true rfl) ⟨rfl, rfl⟩ (fun u_ hu_10 => ?_)
        obtain ⟨p_4, q_5, t_6, x_7, kd_8, va_9⟩ := u_
        have hu_10 : (tokf L len att = (q_5, p_4, kd_8, va_9) ∧ clsC kd_8 va_9 t_6 x_7) ∧ x_7 ≤ 100 ∧ t_6 < 256 ∧ p_4 ≤ len ∧ q_5 ≤ len ∧ att ≤ p_4 ∧ (t_6 = 3 ∨ att < p_4) := hu_10
        show V C 0 0 [gRead G a ro fi (nF L) (nF Nn) (nI len) (nI sk) (nI p_4) (nI q_5) (nI t_6) (nI x_7)] 27 [some (.ref (a 0)), some (.ref (G.2.2 4)), some (.ref (G.2.2 5)), some (.int (nI 0))] []
        have tA_0 := hu_10
        have tB_0 := hu_10.1.2
        simp only [clsC] at tB_0
        refine V_aload_n X dX6_readNumbers_27 rfl ?_
        refine V_get X fl_X6_51 0 0 rfl rfl rfl dX6_readNumbers_28 ?_
        refine V_iconst X (nI 1) dX6_readNumbers_31 (by decide) ?_
        refine V_icmp_neN X 55 dX6_readNumbers_32 (by decide) (by omega) (by decide) (fun c_11 => ?_) (fun c_11 => ?_)
        · refine V_iconst X (nI 0) dX6_readNumbers_55 (by decide) ?_
          exact V_iret X Y ⟨0, Nn, p_4, q_5, t_6, x_7⟩ (show ((0 = 1 ∧ rdN L len rgF att = .inr ([Nn 0, Nn 1, Nn 2], p_4) ∧ Nn 0 ≤ 5 ∧ Nn 1 ≤ 5 ∧ Nn 2 ≤ 9) ∨ (0 = 0 ∧ rdN L len rgF att = .inl q_5)) ∧ x_7 ≤ 100 ∧ t_6 < 256 ∧ p_4 ≤ len ∧ q_5 ≤ len ∧ att ≤ p_4 from ⟨Or.inr ⟨rfl, by rw [rdN_bad tA_0.1.1 (by omega)]⟩, by omega⟩) rfl rfl rfl dX6_readNumbers_56
        · refine V_aload_n X dX6_readNumbers_35 rfl ?_
          refine V_get X fl_X6_95 0 0 rfl rfl rfl dX6_readNumbers_36 ?_
          refine V_aload_n X dX6_readNumbers_39 rfl ?_
          refine V_iload_n X dX6_readNumbers_40 rfl ?_
          refine V_saldN X 4 rfl (by decide) (by decide) (nI 0) rfl dX6_readNumbers_41 ?_
          refine V_icmp_ltN X 55 dX6_readNumbers_42 (by decide) (by omega) (by decide) (fun c_12 => ?_) (fun c_12 => ?_)
          · refine V_iconst X (nI 0) dX6_readNumbers_55 (by decide) ?_
            exact V_iret X Y ⟨0, Nn, p_4, q_5, t_6, x_7⟩ (show ((0 = 1 ∧ rdN L len rgF att = .inr ([Nn 0, Nn 1, Nn 2], p_4) ∧ Nn 0 ≤ 5 ∧ Nn 1 ≤ 5 ∧ Nn 2 ≤ 9) ∨ (0 = 0 ∧ rdN L len rgF att = .inl q_5)) ∧ x_7 ≤ 100 ∧ t_6 < 256 ∧ p_4 ≤ len ∧ q_5 ≤ len ∧ att ≤ p_4 from ⟨Or.inr ⟨rfl, by rw [rdN_bad tA_0.1.1 (by omega)]⟩, by omega⟩) rfl rfl rfl dX6_readNumbers_56
          · refine V_aload_n X dX6_readNumbers_45 rfl ?_
            refine V_get X fl_X6_95 0 0 rfl rfl rfl dX6_readNumbers_46 ?_
            refine V_aload_n X dX6_readNumbers_49 rfl ?_
            refine V_iload_n X dX6_readNumbers_50 rfl ?_
            refine V_saldN X 5 rfl (by decide) (by decide) (nI 5) rfl dX6_readNumbers_51 ?_
            refine V_icmp_leN X 57 dX6_readNumbers_52 (by decide) (by omega) (by decide) (fun c_13 => ?_) (fun c_13 => ?_)
            · have tC_0 : kd_8 = 1 ∧ 0 ≤ va_9 ∧ va_9 ≤ 5 ∧ x_7 = va_9 := by omega
              clear tB_0
              refine V_aload_n X dX6_readNumbers_57 rfl ?_
              refine V_get X fl_X6_29 0 0 rfl rfl rfl dX6_readNumbers_58 ?_
              refine V_iload_n X dX6_readNumbers_61 rfl ?_
              refine V_aload_n X dX6_readNumbers_62 rfl ?_
              refine V_get X fl_X6_95 0 0 rfl rfl rfl dX6_readNumbers_63 ?_
              refine V_iastN X 0 2 rfl rfl (by decide) (by decide) dX6_readNumbers_66 ?_
              show V C 0 0 [gRead G a ro fi (nF L) (nF (va_up Nn 0 x_7)) (nI len) (nI sk) (nI p_4) (nI q_5) (nI t_6) (nI x_7)] 67 [some (.ref (a 0)), some (.ref (G.2.2 4)), some (.ref (G.2.2 5)), some (.int (nI 0))] []
              refine V_iincN X (c := 1) dX6_readNumbers_67 rfl (by decide) rfl ?_
              show V C 0 0 _ 70 [some (.ref (a 0)), some (.ref (G.2.2 4)), some (.ref (G.2.2 5)), some (.int (nI 1))] []
              refine V_goto X 2 dX6_readNumbers_70 (by decide) ?_
              refine V_iload_n X dX6_readNumbers_2 rfl ?_
              refine V_aload_n X dX6_readNumbers_3 rfl ?_
              refine V_slen X 4 rfl (nI 3) rfl dX6_readNumbers_4 ?_
              refine V_icmp_geN X 73 dX6_readNumbers_5 (by decide) (by decide) (by decide) (fun c_14 => ?_) (fun c_14 => ?_)
              · exfalso; omega
              · refine V_iload_n X dX6_readNumbers_8 rfl ?_
                refine V_aload_n X dX6_readNumbers_9 rfl ?_
                refine V_slen X 5 rfl (nI 3) rfl dX6_readNumbers_10 ?_
                refine V_icmp_geN X 73 dX6_readNumbers_11 (by decide) (by decide) (by decide) (fun c_15 => ?_) (fun c_15 => ?_)
                · exfalso; omega
                · refine V_iload_n X dX6_readNumbers_14 rfl ?_
                  refine V_aload_n X dX6_readNumbers_15 rfl ?_
                  refine V_get X fl_X6_29 0 0 rfl rfl rfl dX6_readNumbers_16 ?_
                  refine V_alen X (t0 := 0) 0 2 (nI 4) rfl rfl rfl rfl dX6_readNumbers_19 ?_
                  refine V_icmp_geN X 73 dX6_readNumbers_20 (by decide) (by decide) (by decide) (fun c_16 => ?_) (fun c_16 => ?_)
                  · exfalso; omega
                  · refine V_aload_n X dX6_readNumbers_23 rfl ?_
                    refine V_callV (rest := []) X (c_X6_nextToken (Cl C) G a ro fi L (va_up Nn 0 x_7) len sk p_4 q_5 t_6 x_7 (by first | assumption | omega) (by first | assumption | omega) (by first | assumption | omega) (by first | assumption | omega)) mi_X6_nextToken kw_2_49 kw_2_51 kw_s_0 dX6_readNumbers_24 [0] rfl (by decide) 0 0 rfl rfl rfl rfl rfl rfl (by decide) (Nat.le_of_ble_eq_true rfl) ⟨rfl, rfl⟩ (fun u_ hu_23 => ?_)
                    obtain ⟨p_17, q_18, t_19, x_20, kd_21, va_22⟩ := u_
                    have hu_23 : (tokf L len p_4 = (q_18, p_17, kd_21, va_22) ∧ clsC kd_21 va_22 t_19 x_20) ∧ x_20 ≤ 100 ∧ t_19 < 256 ∧ p_17 ≤ len ∧ q_18 ≤ len ∧ p_4 ≤ p_17 ∧ (t_19 = 3 ∨ p_4 < p_17) := hu_23
                    show V C 0 0 [gRead G a ro fi (nF L) (nF (va_up Nn 0 x_7)) (nI len) (nI sk) (nI p_17) (nI q_18) (nI t_19) (nI x_20)] 27 [some (.ref (a 0)), some (.ref (G.2.2 4)), some (.ref (G.2.2 5)), some (.int (nI 1))] []
                    have tA_1 := hu_23
                    have tB_1 := hu_23.1.2
                    simp only [clsC] at tB_1
                    refine V_aload_n X dX6_readNumbers_27 rfl ?_
                    refine V_get X fl_X6_51 0 0 rfl rfl rfl dX6_readNumbers_28 ?_
                    refine V_iconst X (nI 1) dX6_readNumbers_31 (by decide) ?_
                    refine V_icmp_neN X 55 dX6_readNumbers_32 (by decide) (by omega) (by decide) (fun c_24 => ?_) (fun c_24 => ?_)
                    · refine V_iconst X (nI 0) dX6_readNumbers_55 (by decide) ?_
                      exact V_iret X Y ⟨0, (va_up Nn 0 x_7), p_17, q_18, t_19, x_20⟩ (show ((0 = 1 ∧ rdN L len rgF att = .inr ([(va_up Nn 0 x_7) 0, (va_up Nn 0 x_7) 1, (va_up Nn 0 x_7) 2], p_17) ∧ (va_up Nn 0 x_7) 0 ≤ 5 ∧ (va_up Nn 0 x_7) 1 ≤ 5 ∧ (va_up Nn 0 x_7) 2 ≤ 9) ∨ (0 = 0 ∧ rdN L len rgF att = .inl q_18)) ∧ x_20 ≤ 100 ∧ t_19 < 256 ∧ p_17 ≤ len ∧ q_18 ≤ len ∧ att ≤ p_17 from ⟨Or.inr ⟨rfl, by rw [rdN_ok tA_0.1.1 (by omega), rdN_bad tA_1.1.1 (by omega)]⟩, by omega⟩) rfl rfl rfl dX6_readNumbers_56
                    · refine V_aload_n X dX6_readNumbers_35 rfl ?_
                      refine V_get X fl_X6_95 0 0 rfl rfl rfl dX6_readNumbers_36 ?_
                      refine V_aload_n X dX6_readNumbers_39 rfl ?_
                      refine V_iload_n X dX6_readNumbers_40 rfl ?_
                      refine V_saldN X 4 rfl (by decide) (by decide) (nI 0) rfl dX6_readNumbers_41 ?_
                      refine V_icmp_ltN X 55 dX6_readNumbers_42 (by decide) (by omega) (by decide) (fun c_25 => ?_) (fun c_25 => ?_)
                      · refine V_iconst X (nI 0) dX6_readNumbers_55 (by decide) ?_
                        exact V_iret X Y ⟨0, (va_up Nn 0 x_7), p_17, q_18, t_19, x_20⟩ (show ((0 = 1 ∧ rdN L len rgF att = .inr ([(va_up Nn 0 x_7) 0, (va_up Nn 0 x_7) 1, (va_up Nn 0 x_7) 2], p_17) ∧ (va_up Nn 0 x_7) 0 ≤ 5 ∧ (va_up Nn 0 x_7) 1 ≤ 5 ∧ (va_up Nn 0 x_7) 2 ≤ 9) ∨ (0 = 0 ∧ rdN L len rgF att = .inl q_18)) ∧ x_20 ≤ 100 ∧ t_19 < 256 ∧ p_17 ≤ len ∧ q_18 ≤ len ∧ att ≤ p_17 from ⟨Or.inr ⟨rfl, by rw [rdN_ok tA_0.1.1 (by omega), rdN_bad tA_1.1.1 (by omega)]⟩, by omega⟩) rfl rfl rfl dX6_readNumbers_56
                      · refine V_aload_n X dX6_readNumbers_45 rfl ?_
                        refine V_get X fl_X6_95 0 0 rfl rfl rfl dX6_readNumbers_46 ?_
                        refine V_aload_n X dX6_readNumbers_49 rfl ?_
                        refine V_iload_n X dX6_readNumbers_50 rfl ?_
                        refine V_saldN X 5 rfl (by decide) (by decide) (nI 5) rfl dX6_readNumbers_51 ?_
                        refine V_icmp_leN X 57 dX6_readNumbers_52 (by decide) (by omega) (by decide) (fun c_26 => ?_) (fun c_26 => ?_)
                        · have tC_1 : kd_21 = 1 ∧ 0 ≤ va_22 ∧ va_22 ≤ 5 ∧ x_20 = va_22 := by omega
                          clear tB_1
                          refine V_aload_n X dX6_readNumbers_57 rfl ?_
                          refine V_get X fl_X6_29 0 0 rfl rfl rfl dX6_readNumbers_58 ?_
                          refine V_iload_n X dX6_readNumbers_61 rfl ?_
                          refine V_aload_n X dX6_readNumbers_62 rfl ?_
                          refine V_get X fl_X6_95 0 0 rfl rfl rfl dX6_readNumbers_63 ?_
                          refine V_iastN X 0 2 rfl rfl (by decide) (by decide) dX6_readNumbers_66 ?_
                          show V C 0 0 [gRead G a ro fi (nF L) (nF (va_up (va_up Nn 0 x_7) 1 x_20)) (nI len) (nI sk) (nI p_17) (nI q_18) (nI t_19) (nI x_20)] 67 [some (.ref (a 0)), some (.ref (G.2.2 4)), some (.ref (G.2.2 5)), some (.int (nI 1))] []
                          refine V_iincN X (c := 1) dX6_readNumbers_67 rfl (by decide) rfl ?_
                          show V C 0 0 _ 70 [some (.ref (a 0)), some (.ref (G.2.2 4)), some (.ref (G.2.2 5)), some (.int (nI 2))] []
                          refine V_goto X 2 dX6_readNumbers_70 (by decide) ?_
                          refine V_iload_n X dX6_readNumbers_2 rfl ?_
                          refine V_aload_n X dX6_readNumbers_3 rfl ?_
                          refine V_slen X 4 rfl (nI 3) rfl dX6_readNumbers_4 ?_
                          refine V_icmp_geN X 73 dX6_readNumbers_5 (by decide) (by decide) (by decide) (fun c_27 => ?_) (fun c_27 => ?_)
                          · exfalso; omega
                          · refine V_iload_n X dX6_readNumbers_8 rfl ?_
                            refine V_aload_n X dX6_readNumbers_9 rfl ?_
                            refine V_slen X 5 rfl (nI 3) rfl dX6_readNumbers_10 ?_
                            refine V_icmp_geN X 73 dX6_readNumbers_11 (by decide) (by decide) (by decide) (fun c_28 => ?_) (fun c_28 => ?_)
                            · exfalso; omega
                            · refine V_iload_n X dX6_readNumbers_14 rfl ?_
                              refine V_aload_n X dX6_readNumbers_15 rfl ?_
                              refine V_get X fl_X6_29 0 0 rfl rfl rfl dX6_readNumbers_16 ?_
                              refine V_alen X (t0 := 0) 0 2 (nI 4) rfl rfl rfl rfl dX6_readNumbers_19 ?_
                              refine V_icmp_geN X 73 dX6_readNumbers_20 (by decide) (by decide) (by decide) (fun c_29 => ?_) (fun c_29 => ?_)
                              · exfalso; omega
                              · refine V_aload_n X dX6_readNumbers_23 rfl ?_
                                refine V_callV (rest := []) X (c_X6_nextToken (Cl C) G a ro fi L (va_up (va_up Nn 0 x_7) 1 x_20) len sk p_17 q_18 t_19 x_20 (by first | assumption | omega) (by first | assumption | omega) (by first | assumption | omega) (by first | assumption | omega)) mi_X6_nextToken kw_2_49 kw_2_51 kw_s_0 dX6_readNumbers_24 [0] rfl (by decide) 0 0 rfl rfl rfl rfl rfl rfl (by decide) (Nat.le_of_ble_eq_true rfl) ⟨rfl, rfl⟩ (fun u_ hu_36 => ?_)
                                obtain ⟨p_30, q_31, t_32, x_33, kd_34, va_35⟩ := u_
                                have hu_36 : (tokf L len p_17 = (q_31, p_30, kd_34, va_35) ∧ clsC kd_34 va_35 t_32 x_33) ∧ x_33 ≤ 100 ∧ t_32 < 256 ∧ p_30 ≤ len ∧ q_31 ≤ len ∧ p_17 ≤ p_30 ∧ (t_32 = 3 ∨ p_17 < p_30) := hu_36
                                show V C 0 0 [gRead G a ro fi (nF L) (nF (va_up (va_up Nn 0 x_7) 1 x_20)) (nI len) (nI sk) (nI p_30) (nI q_31) (nI t_32) (nI x_33)] 27 [some (.ref (a 0)), some (.ref (G.2.2 4)), some (.ref (G.2.2 5)), some (.int (nI 2))] []
                                have tA_2 := hu_36
                                have tB_2 := hu_36.1.2
                                simp only [clsC] at tB_2
                                refine V_aload_n X dX6_readNumbers_27 rfl ?_
                                refine V_get X fl_X6_51 0 0 rfl rfl rfl dX6_readNumbers_28 ?_
                                refine V_iconst X (nI 1) dX6_readNumbers_31 (by decide) ?_
                                refine V_icmp_neN X 55 dX6_readNumbers_32 (by decide) (by omega) (by decide) (fun c_37 => ?_) (fun c_37 => ?_)
                                · refine V_iconst X (nI 0) dX6_readNumbers_55 (by decide) ?_
                                  exact V_iret X Y ⟨0, (va_up (va_up Nn 0 x_7) 1 x_20), p_30, q_31, t_32, x_33⟩ (show ((0 = 1 ∧ rdN L len rgF att = .inr ([(va_up (va_up Nn 0 x_7) 1 x_20) 0, (va_up (va_up Nn 0 x_7) 1 x_20) 1, (va_up (va_up Nn 0 x_7) 1 x_20) 2], p_30) ∧ (va_up (va_up Nn 0 x_7) 1 x_20) 0 ≤ 5 ∧ (va_up (va_up Nn 0 x_7) 1 x_20) 1 ≤ 5 ∧ (va_up (va_up Nn 0 x_7) 1 x_20) 2 ≤ 9) ∨ (0 = 0 ∧ rdN L len rgF att = .inl q_31)) ∧ x_33 ≤ 100 ∧ t_32 < 256 ∧ p_30 ≤ len ∧ q_31 ≤ len ∧ att ≤ p_30 from ⟨Or.inr ⟨rfl, by rw [rdN_ok tA_0.1.1 (by omega), rdN_ok tA_1.1.1 (by omega), rdN_bad tA_2.1.1 (by omega)]⟩, by omega⟩) rfl rfl rfl dX6_readNumbers_56
                                · refine V_aload_n X dX6_readNumbers_35 rfl ?_
                                  refine V_get X fl_X6_95 0 0 rfl rfl rfl dX6_readNumbers_36 ?_
                                  refine V_aload_n X dX6_readNumbers_39 rfl ?_
                                  refine V_iload_n X dX6_readNumbers_40 rfl ?_
                                  refine V_saldN X 4 rfl (by decide) (by decide) (nI 0) rfl dX6_readNumbers_41 ?_
                                  refine V_icmp_ltN X 55 dX6_readNumbers_42 (by decide) (by omega) (by decide) (fun c_38 => ?_) (fun c_38 => ?_)
                                  · refine V_iconst X (nI 0) dX6_readNumbers_55 (by decide) ?_
                                    exact V_iret X Y ⟨0, (va_up (va_up Nn 0 x_7) 1 x_20), p_30, q_31, t_32, x_33⟩ (show ((0 = 1 ∧ rdN L len rgF att = .inr ([(va_up (va_up Nn 0 x_7) 1 x_20) 0, (va_up (va_up Nn 0 x_7) 1 x_20) 1, (va_up (va_up Nn 0 x_7) 1 x_20) 2], p_30) ∧ (va_up (va_up Nn 0 x_7) 1 x_20) 0 ≤ 5 ∧ (va_up (va_up Nn 0 x_7) 1 x_20) 1 ≤ 5 ∧ (va_up (va_up Nn 0 x_7) 1 x_20) 2 ≤ 9) ∨ (0 = 0 ∧ rdN L len rgF att = .inl q_31)) ∧ x_33 ≤ 100 ∧ t_32 < 256 ∧ p_30 ≤ len ∧ q_31 ≤ len ∧ att ≤ p_30 from ⟨Or.inr ⟨rfl, by rw [rdN_ok tA_0.1.1 (by omega), rdN_ok tA_1.1.1 (by omega), rdN_bad tA_2.1.1 (by omega)]⟩, by omega⟩) rfl rfl rfl dX6_readNumbers_56
                                  · refine V_aload_n X dX6_readNumbers_45 rfl ?_
                                    refine V_get X fl_X6_95 0 0 rfl rfl rfl dX6_readNumbers_46 ?_
                                    refine V_aload_n X dX6_readNumbers_49 rfl ?_
                                    refine V_iload_n X dX6_readNumbers_50 rfl ?_
                                    refine V_saldN X 5 rfl (by decide) (by decide) (nI 9) rfl dX6_readNumbers_51 ?_
                                    refine V_icmp_leN X 57 dX6_readNumbers_52 (by decide) (by omega) (by decide) (fun c_39 => ?_) (fun c_39 => ?_)
                                    · have tC_2 : kd_34 = 1 ∧ 0 ≤ va_35 ∧ va_35 ≤ 9 ∧ x_33 = va_35 := by omega
                                      clear tB_2
                                      refine V_aload_n X dX6_readNumbers_57 rfl ?_
                                      refine V_get X fl_X6_29 0 0 rfl rfl rfl dX6_readNumbers_58 ?_
                                      refine V_iload_n X dX6_readNumbers_61 rfl ?_
                                      refine V_aload_n X dX6_readNumbers_62 rfl ?_
                                      refine V_get X fl_X6_95 0 0 rfl rfl rfl dX6_readNumbers_63 ?_
                                      refine V_iastN X 0 2 rfl rfl (by decide) (by decide) dX6_readNumbers_66 ?_
                                      show V C 0 0 [gRead G a ro fi (nF L) (nF (va_up (va_up (va_up Nn 0 x_7) 1 x_20) 2 x_33)) (nI len) (nI sk) (nI p_30) (nI q_31) (nI t_32) (nI x_33)] 67 [some (.ref (a 0)), some (.ref (G.2.2 4)), some (.ref (G.2.2 5)), some (.int (nI 2))] []
                                      refine V_iincN X (c := 1) dX6_readNumbers_67 rfl (by decide) rfl ?_
                                      show V C 0 0 _ 70 [some (.ref (a 0)), some (.ref (G.2.2 4)), some (.ref (G.2.2 5)), some (.int (nI 3))] []
                                      refine V_goto X 2 dX6_readNumbers_70 (by decide) ?_
                                      refine V_iload_n X dX6_readNumbers_2 rfl ?_
                                      refine V_aload_n X dX6_readNumbers_3 rfl ?_
                                      refine V_slen X 4 rfl (nI 3) rfl dX6_readNumbers_4 ?_
                                      refine V_icmp_geN X 73 dX6_readNumbers_5 (by decide) (by decide) (by decide) (fun c_40 => ?_) (fun c_40 => ?_)
                                      · refine V_aload_n X dX6_readNumbers_73 rfl ?_
                                        refine V_callV (rest := []) X (c_X6_nextToken (Cl C) G a ro fi L (va_up (va_up (va_up Nn 0 x_7) 1 x_20) 2 x_33) len sk p_30 q_31 t_32 x_33 (by first | assumption | omega) (by first | assumption | omega) (by first | assumption | omega) (by first | assumption | omega)) mi_X6_nextToken kw_2_49 kw_2_51 kw_s_0 dX6_readNumbers_74 [0] rfl (by decide) 0 0 rfl rfl rfl rfl rfl rfl (by decide) (Nat.le_of_ble_eq_true rfl) ⟨rfl, rfl⟩ (fun u_ hu_47 => ?_)
                                        obtain ⟨p_41, q_42, t_43, x_44, kd_45, va_46⟩ := u_
                                        have hu_47 : (tokf L len p_30 = (q_42, p_41, kd_45, va_46) ∧ clsC kd_45 va_46 t_43 x_44) ∧ x_44 ≤ 100 ∧ t_43 < 256 ∧ p_41 ≤ len ∧ q_42 ≤ len ∧ p_30 ≤ p_41 ∧ (t_43 = 3 ∨ p_30 < p_41) := hu_47
                                        show V C 0 0 [gRead G a ro fi (nF L) (nF (va_up (va_up (va_up Nn 0 x_7) 1 x_20) 2 x_33)) (nI len) (nI sk) (nI p_41) (nI q_42) (nI t_43) (nI x_44)] 77 [some (.ref (a 0)), some (.ref (G.2.2 4)), some (.ref (G.2.2 5)), some (.int (nI 3))] []
                                        have tE := hu_47
                                        have tF := tE.1.2
                                        simp only [clsC] at tF
                                        refine V_aload_n X dX6_readNumbers_77 rfl ?_
                                        refine V_get X fl_X6_51 0 0 rfl rfl rfl dX6_readNumbers_78 ?_
                                        refine V_bipush X (nI 59) dX6_readNumbers_81 (by decide) ?_
                                        refine V_icmp_neN X 90 dX6_readNumbers_83 (by decide) (by omega) (by decide) (fun c_48 => ?_) (fun c_48 => ?_)
                                        · refine V_iconst X (nI 0) dX6_readNumbers_90 (by decide) ?_
                                          exact V_iret X Y ⟨0, (va_up (va_up (va_up Nn 0 x_7) 1 x_20) 2 x_33), p_41, q_42, t_43, x_44⟩ (show ((0 = 1 ∧ rdN L len rgF att = .inr ([(va_up (va_up (va_up Nn 0 x_7) 1 x_20) 2 x_33) 0, (va_up (va_up (va_up Nn 0 x_7) 1 x_20) 2 x_33) 1, (va_up (va_up (va_up Nn 0 x_7) 1 x_20) 2 x_33) 2], p_41) ∧ (va_up (va_up (va_up Nn 0 x_7) 1 x_20) 2 x_33) 0 ≤ 5 ∧ (va_up (va_up (va_up Nn 0 x_7) 1 x_20) 2 x_33) 1 ≤ 5 ∧ (va_up (va_up (va_up Nn 0 x_7) 1 x_20) 2 x_33) 2 ≤ 9) ∨ (0 = 0 ∧ rdN L len rgF att = .inl q_42)) ∧ x_44 ≤ 100 ∧ t_43 < 256 ∧ p_41 ≤ len ∧ q_42 ≤ len ∧ att ≤ p_41 from ⟨Or.inr ⟨rfl, by rw [rdN_ok tA_0.1.1 (by omega), rdN_ok tA_1.1.1 (by omega), rdN_ok tA_2.1.1 (by omega), rdN_endB tE.1.1 (by omega)]⟩, by omega⟩) rfl rfl rfl dX6_readNumbers_91
                                        · refine V_iconst X (nI 1) dX6_readNumbers_86 (by decide) ?_
                                          refine V_goto X 91 dX6_readNumbers_87 (by decide) ?_
                                          exact V_iret X Y ⟨1, (va_up (va_up (va_up Nn 0 x_7) 1 x_20) 2 x_33), p_41, q_42, t_43, x_44⟩ (show ((1 = 1 ∧ rdN L len rgF att = .inr ([(va_up (va_up (va_up Nn 0 x_7) 1 x_20) 2 x_33) 0, (va_up (va_up (va_up Nn 0 x_7) 1 x_20) 2 x_33) 1, (va_up (va_up (va_up Nn 0 x_7) 1 x_20) 2 x_33) 2], p_41) ∧ (va_up (va_up (va_up Nn 0 x_7) 1 x_20) 2 x_33) 0 ≤ 5 ∧ (va_up (va_up (va_up Nn 0 x_7) 1 x_20) 2 x_33) 1 ≤ 5 ∧ (va_up (va_up (va_up Nn 0 x_7) 1 x_20) 2 x_33) 2 ≤ 9) ∨ (1 = 0 ∧ rdN L len rgF att = .inl q_42)) ∧ x_44 ≤ 100 ∧ t_43 < 256 ∧ p_41 ≤ len ∧ q_42 ≤ len ∧ att ≤ p_41 from ⟨Or.inl ⟨rfl, by rw [rdN_ok tA_0.1.1 (by omega), rdN_ok tA_1.1.1 (by omega), rdN_ok tA_2.1.1 (by omega), rdN_end tE.1.1 (by omega)]; (first | rfl | (simp only [va_up]; simp; omega)), by (first | omega | (simp only [va_up]; simp; omega))⟩, by omega⟩) rfl rfl rfl dX6_readNumbers_91
                                      · exfalso; omega
                                    · refine V_iconst X (nI 0) dX6_readNumbers_55 (by decide) ?_
                                      exact V_iret X Y ⟨0, (va_up (va_up Nn 0 x_7) 1 x_20), p_30, q_31, t_32, x_33⟩ (show ((0 = 1 ∧ rdN L len rgF att = .inr ([(va_up (va_up Nn 0 x_7) 1 x_20) 0, (va_up (va_up Nn 0 x_7) 1 x_20) 1, (va_up (va_up Nn 0 x_7) 1 x_20) 2], p_30) ∧ (va_up (va_up Nn 0 x_7) 1 x_20) 0 ≤ 5 ∧ (va_up (va_up Nn 0 x_7) 1 x_20) 1 ≤ 5 ∧ (va_up (va_up Nn 0 x_7) 1 x_20) 2 ≤ 9) ∨ (0 = 0 ∧ rdN L len rgF att = .inl q_31)) ∧ x_33 ≤ 100 ∧ t_32 < 256 ∧ p_30 ≤ len ∧ q_31 ≤ len ∧ att ≤ p_30 from ⟨Or.inr ⟨rfl, by rw [rdN_ok tA_0.1.1 (by omega), rdN_ok tA_1.1.1 (by omega), rdN_bad tA_2.1.1 (by omega)]⟩, by omega⟩) rfl rfl rfl dX6_readNumbers_56
                        · refine V_iconst X (nI 0) dX6_readNumbers_55 (by decide) ?_
                          exact V_iret X Y ⟨0, (va_up Nn 0 x_7), p_17, q_18, t_19, x_20⟩ (show ((0 = 1 ∧ rdN L len rgF att = .inr ([(va_up Nn 0 x_7) 0, (va_up Nn 0 x_7) 1, (va_up Nn 0 x_7) 2], p_17) ∧ (va_up Nn 0 x_7) 0 ≤ 5 ∧ (va_up Nn 0 x_7) 1 ≤ 5 ∧ (va_up Nn 0 x_7) 2 ≤ 9) ∨ (0 = 0 ∧ rdN L len rgF att = .inl q_18)) ∧ x_20 ≤ 100 ∧ t_19 < 256 ∧ p_17 ≤ len ∧ q_18 ≤ len ∧ att ≤ p_17 from ⟨Or.inr ⟨rfl, by rw [rdN_ok tA_0.1.1 (by omega), rdN_bad tA_1.1.1 (by omega)]⟩, by omega⟩) rfl rfl rfl dX6_readNumbers_56
            · refine V_iconst X (nI 0) dX6_readNumbers_55 (by decide) ?_
              exact V_iret X Y ⟨0, Nn, p_4, q_5, t_6, x_7⟩ (show ((0 = 1 ∧ rdN L len rgF att = .inr ([Nn 0, Nn 1, Nn 2], p_4) ∧ Nn 0 ≤ 5 ∧ Nn 1 ≤ 5 ∧ Nn 2 ≤ 9) ∨ (0 = 0 ∧ rdN L len rgF att = .inl q_5)) ∧ x_7 ≤ 100 ∧ t_6 < 256 ∧ p_4 ≤ len ∧ q_5 ≤ len ∧ att ≤ p_4 from ⟨Or.inr ⟨rfl, by rw [rdN_bad tA_0.1.1 (by omega)]⟩, by omega⟩) rfl rfl rfl dX6_readNumbers_56
set_option maxHeartbeats 4000000 in
set_option maxRecDepth 100000 in
theorem c_X6_tellPerson (l : Launch) (G : mvG) (a : Nat → Nat) (L : Nat → Nat) (Nn : Nat → Nat) (len : Nat) (sk : Nat) (att : Nat) (ts : Nat) (tk : Nat) (nb : Nat) (b : Nat → Nat) (w : Nat → Nat) (v : Nat → Nat) (n : Nat) (k : Nat) (c : Nat → Nat) (wh : Nat → Nat) (de : Nat → Nat) (t : Nat → Int32) (sv : Nat) (vt : Nat) (ps : Nat) (hn : n < 5) (hx : Nn 0 ≤ 5) (hy : Nn 1 ≤ 5) : KQ l yX6_tellPerson cX6_tellPerson 1 (some .boolean) (2, 41) G [.ref (a 0)] [gRead G a (b 0) (c 0) (nF L) (nF Nn) (nI len) (nI sk) (nI att) (nI ts) (nI tk) (nI nb), gRoll G b (nF w) (nF v) (nI n) (nI k), gMo G c (nF wh) (nF de) t (nI sv) (nI vt) (nI ps)] (fun (_ : Unit) => some (.int (nI 1))) (fun (_ : Unit) => True) (fun (_ : Unit) => [gRead G a (b 0) (c 0) (nF L) (nF Nn) (nI len) (nI sk) (nI att) (nI ts) (nI tk) (nI nb), gRoll G b (nF (va_up w n (Nn 2))) (nF (va_up v n (Nn 3))) (nI (n + 1)) (nI k), gMo G c (nF (va_up wh n (6 * Nn 0 + Nn 1))) (nF de) t (nI sv) (nI vt) (nI ps)]) := by
  refine KQ.mk (by decide +kernel) (fun _ _ => rfl) [some (.ref (a 0))] (Nat.le_of_ble_eq_true rfl) rfl (fun C X Y hC => ?_)
  subst hC
  refine V_aload_n X dX6_tellPerson_0 rfl ?_
  refine V_get X fl_X6_25 0 0 rfl rfl rfl dX6_tellPerson_1 ?_
  refine V_aload_n X dX6_tellPerson_4 rfl ?_
  refine V_get X fl_X6_18 0 0 rfl rfl rfl dX6_tellPerson_5 ?_
  refine V_get X fl_X6_61 1 0 rfl rfl rfl dX6_tellPerson_8 ?_
  refine V_aload_n X dX6_tellPerson_11 rfl ?_
  refine V_get X fl_X6_29 0 0 rfl rfl rfl dX6_tellPerson_12 ?_
  refine V_iconst X (nI 0) dX6_tellPerson_15 (by decide) ?_
  refine V_ialdN X 0 2 rfl rfl (by decide) (by decide) dX6_tellPerson_16 ?_
  refine V_aload_n X dX6_tellPerson_17 rfl ?_
  refine V_get X fl_X6_29 0 0 rfl rfl rfl dX6_tellPerson_18 ?_
  refine V_iconst X (nI 1) dX6_tellPerson_21 (by decide) ?_
  refine V_ialdN X 0 2 rfl rfl (by decide) (by decide) dX6_tellPerson_22 ?_
  refine V_callSN (rest := [.int (nI n), .ref (c 0)]) X (c_X11_placeAt (Cl C) G ((Nn 0 : Nat) : Int) ((Nn 1 : Nat) : Int) (by first | assumption | omega) (by first | assumption | omega)) mi_X11_placeAt kw_2_83 kw_2_84 dX6_tellPerson_23 [] rfl (by decide) rfl rfl (by decide) (Nat.le_of_ble_eq_true rfl) ⟨rfl, rfl⟩ (fun u_ hu_2 => ?_)
  obtain ⟨z_1, rfl⟩ : ∃ z, z = u_ := ⟨_, rfl⟩
  have hu_2 : (0 ≤ ((Nn 0 : Nat) : Int) ∧ ((Nn 0 : Nat) : Int) < 6 ∧ 0 ≤ ((Nn 1 : Nat) : Int) ∧ ((Nn 1 : Nat) : Int) < 6 ∧ z_1 = 6 * ((Nn 0 : Nat) : Int) + ((Nn 1 : Nat) : Int)) ∨ ((((Nn 0 : Nat) : Int) < 0 ∨ 6 ≤ ((Nn 0 : Nat) : Int) ∨ ((Nn 1 : Nat) : Int) < 0 ∨ 6 ≤ ((Nn 1 : Nat) : Int)) ∧ z_1 = -9) := hu_2
  show V C 0 0 [gRead G a (b 0) (c 0) (nF L) (nF Nn) (nI len) (nI sk) (nI att) (nI ts) (nI tk) (nI nb), gRoll G b (nF w) (nF v) (nI n) (nI k), gMo G c (nF wh) (nF de) t (nI sv) (nI vt) (nI ps)] 26 [some (.ref (a 0))] [.int (iI z_1), .int (nI n), .ref (c 0)]
  refine V_topi (show (iI z_1) = (nI (6 * Nn 0 + Nn 1)) from (mv_zn (by omega))) ?_
  refine V_callV (rest := []) X (c_X3_put (Cl C) G c wh de t sv vt ps n (6 * Nn 0 + Nn 1) (by first | assumption | omega)) mi_X3_put kw_2_89 kw_2_90 kw_2_91 dX6_tellPerson_26 [2] rfl (by decide) 2 0 rfl rfl rfl rfl rfl rfl (by decide) (Nat.le_of_ble_eq_true rfl) ⟨rfl, rfl⟩ (fun _ _ => ?_)
  show V C 0 0 [gRead G a (b 0) (c 0) (nF L) (nF Nn) (nI len) (nI sk) (nI att) (nI ts) (nI tk) (nI nb), gRoll G b (nF w) (nF v) (nI n) (nI k), gMo G c (nF (va_up wh n (6 * Nn 0 + Nn 1))) (nF de) t (nI sv) (nI vt) (nI ps)] 29 [some (.ref (a 0))] []
  refine V_aload_n X dX6_tellPerson_29 rfl ?_
  refine V_get X fl_X6_18 0 0 rfl rfl rfl dX6_tellPerson_30 ?_
  refine V_aload_n X dX6_tellPerson_33 rfl ?_
  refine V_get X fl_X6_29 0 0 rfl rfl rfl dX6_tellPerson_34 ?_
  refine V_iconst X (nI 2) dX6_tellPerson_37 (by decide) ?_
  refine V_ialdN X 0 2 rfl rfl (by decide) (by decide) dX6_tellPerson_38 ?_
  refine V_aload_n X dX6_tellPerson_39 rfl ?_
  refine V_get X fl_X6_29 0 0 rfl rfl rfl dX6_tellPerson_40 ?_
  refine V_iconst X (nI 3) dX6_tellPerson_43 (by decide) ?_
  refine V_ialdN X 0 2 rfl rfl (by decide) (by decide) dX6_tellPerson_44 ?_
  refine V_callV (rest := []) X (c_X7_add (Cl C) G b w v n k (Nn 2) (Nn 3) (by first | assumption | omega)) mi_X7_add kw_2_93 kw_2_94 kw_2_95 dX6_tellPerson_45 [1] rfl (by decide) 1 0 rfl rfl rfl rfl rfl rfl (by decide) (Nat.le_of_ble_eq_true rfl) ⟨rfl, rfl⟩ (fun _ _ => ?_)
  show V C 0 0 [gRead G a (b 0) (c 0) (nF L) (nF Nn) (nI len) (nI sk) (nI att) (nI ts) (nI tk) (nI nb), gRoll G b (nF (va_up w n (Nn 2))) (nF (va_up v n (Nn 3))) (nI (n + 1)) (nI k), gMo G c (nF (va_up wh n (6 * Nn 0 + Nn 1))) (nF de) t (nI sv) (nI vt) (nI ps)] 48 [some (.ref (a 0))] []
  refine V_iconst X (nI 1) dX6_tellPerson_48 (by decide) ?_
  exact V_iret X Y () trivial rfl rfl rfl dX6_tellPerson_49
set_option maxHeartbeats 4000000 in
set_option maxRecDepth 100000 in
theorem c_X6_tellSoaked (l : Launch) (G : mvG) (a : Nat → Nat) (L : Nat → Nat) (Nn : Nat → Nat) (len : Nat) (sk : Nat) (att : Nat) (ts : Nat) (tk : Nat) (nb : Nat) (b : Nat → Nat) (w : Nat → Nat) (v : Nat → Nat) (n : Nat) (k : Nat) (c : Nat → Nat) (wh : Nat → Nat) (de : Nat → Nat) (t : Nat → Int32) (sv : Nat) (vt : Nat) (ps : Nat) : KQ l yX6_tellSoaked cX6_tellSoaked 1 (some .boolean) (0, 0) G [.ref (a 0)] [gRead G a (b 0) (c 0) (nF L) (nF Nn) (nI len) (nI sk) (nI att) (nI ts) (nI tk) (nI nb), gRoll G b (nF w) (nF v) (nI n) (nI k), gMo G c (nF wh) (nF de) t (nI sv) (nI vt) (nI ps)] (fun (_ : Unit) => some (.int (nI 1))) (fun (_ : Unit) => True) (fun (_ : Unit) => [gRead G a (b 0) (c 0) (nF L) (nF Nn) (nI len) (nI 1) (nI att) (nI ts) (nI tk) (nI nb), gRoll G b (nF w) (nF v) (nI n) (nI (Nn 0)), gMo G c (nF wh) (nF de) t (nI sv) (nI vt) (nI ps)]) := by
  refine KQ.mk (by decide +kernel) (fun _ _ => rfl) [some (.ref (a 0))] (Nat.le_of_ble_eq_true rfl) rfl (fun C X Y hC => ?_)
  subst hC
  refine V_aload_n X dX6_tellSoaked_0 rfl ?_
  refine V_iconst X (nI 1) dX6_tellSoaked_1 (by decide) ?_
  refine V_put X fl_X6_41 0 0 rfl rfl rfl rfl (Nat.le_of_ble_eq_true rfl) dX6_tellSoaked_2 ?_
  show V C 0 0 [gRead G a (b 0) (c 0) (nF L) (nF Nn) (nI len) (nI 1) (nI att) (nI ts) (nI tk) (nI nb), gRoll G b (nF w) (nF v) (nI n) (nI k), gMo G c (nF wh) (nF de) t (nI sv) (nI vt) (nI ps)] 5 [some (.ref (a 0))] []
  refine V_aload_n X dX6_tellSoaked_5 rfl ?_
  refine V_get X fl_X6_18 0 0 rfl rfl rfl dX6_tellSoaked_6 ?_
  refine V_aload_n X dX6_tellSoaked_9 rfl ?_
  refine V_get X fl_X6_29 0 0 rfl rfl rfl dX6_tellSoaked_10 ?_
  refine V_iconst X (nI 0) dX6_tellSoaked_13 (by decide) ?_
  refine V_ialdN X 0 2 rfl rfl (by decide) (by decide) dX6_tellSoaked_14 ?_
  refine V_put X fl_X6_109 1 0 rfl rfl rfl rfl (Nat.le_of_ble_eq_true rfl) dX6_tellSoaked_15 ?_
  show V C 0 0 [gRead G a (b 0) (c 0) (nF L) (nF Nn) (nI len) (nI 1) (nI att) (nI ts) (nI tk) (nI nb), gRoll G b (nF w) (nF v) (nI n) (nI (Nn 0)), gMo G c (nF wh) (nF de) t (nI sv) (nI vt) (nI ps)] 18 [some (.ref (a 0))] []
  refine V_iconst X (nI 1) dX6_tellSoaked_18 (by decide) ?_
  exact V_iret X Y () trivial rfl rfl rfl dX6_tellSoaked_19
set_option maxHeartbeats 4000000 in
set_option maxRecDepth 100000 in
theorem c_X6_tellDeep (l : Launch) (G : mvG) (a : Nat → Nat) (L : Nat → Nat) (Nn : Nat → Nat) (len : Nat) (sk : Nat) (att : Nat) (ts : Nat) (tk : Nat) (nb : Nat) (b : Nat → Nat) (w : Nat → Nat) (v : Nat → Nat) (n : Nat) (k : Nat) (c : Nat → Nat) (wh : Nat → Nat) (de : Nat → Nat) (t : Nat → Int32) (sv : Nat) (vt : Nat) (ps : Nat) (hx : Nn 0 ≤ 5) (hy : Nn 1 ≤ 5) : KQ l yX6_tellDeep cX6_tellDeep 1 (some .boolean) (2, 41) G [.ref (a 0)] [gRead G a (b 0) (c 0) (nF L) (nF Nn) (nI len) (nI sk) (nI att) (nI ts) (nI tk) (nI nb), gRoll G b (nF w) (nF v) (nI n) (nI k), gMo G c (nF wh) (nF de) t (nI sv) (nI vt) (nI ps)] (fun (_ : Unit) => some (.int (nI 1))) (fun (_ : Unit) => True) (fun (_ : Unit) => [gRead G a (b 0) (c 0) (nF L) (nF Nn) (nI len) (nI sk) (nI att) (nI ts) (nI tk) (nI nb), gRoll G b (nF w) (nF v) (nI n) (nI k), gMo G c (nF wh) (nF (va_up de (6 * Nn 0 + Nn 1) (Nn 2))) t (nI sv) (nI vt) (nI ps)]) := by
  refine KQ.mk (by decide +kernel) (fun _ _ => rfl) [some (.ref (a 0))] (Nat.le_of_ble_eq_true rfl) rfl (fun C X Y hC => ?_)
  subst hC
  refine V_aload_n X dX6_tellDeep_0 rfl ?_
  refine V_get X fl_X6_25 0 0 rfl rfl rfl dX6_tellDeep_1 ?_
  refine V_aload_n X dX6_tellDeep_4 rfl ?_
  refine V_get X fl_X6_29 0 0 rfl rfl rfl dX6_tellDeep_5 ?_
  refine V_iconst X (nI 0) dX6_tellDeep_8 (by decide) ?_
  refine V_ialdN X 0 2 rfl rfl (by decide) (by decide) dX6_tellDeep_9 ?_
  refine V_aload_n X dX6_tellDeep_10 rfl ?_
  refine V_get X fl_X6_29 0 0 rfl rfl rfl dX6_tellDeep_11 ?_
  refine V_iconst X (nI 1) dX6_tellDeep_14 (by decide) ?_
  refine V_ialdN X 0 2 rfl rfl (by decide) (by decide) dX6_tellDeep_15 ?_
  refine V_callSN (rest := [.ref (c 0)]) X (c_X11_placeAt (Cl C) G ((Nn 0 : Nat) : Int) ((Nn 1 : Nat) : Int) (by first | assumption | omega) (by first | assumption | omega)) mi_X11_placeAt kw_2_83 kw_2_84 dX6_tellDeep_16 [] rfl (by decide) rfl rfl (by decide) (Nat.le_of_ble_eq_true rfl) ⟨rfl, rfl⟩ (fun u_ hu_2 => ?_)
  obtain ⟨z_1, rfl⟩ : ∃ z, z = u_ := ⟨_, rfl⟩
  have hu_2 : (0 ≤ ((Nn 0 : Nat) : Int) ∧ ((Nn 0 : Nat) : Int) < 6 ∧ 0 ≤ ((Nn 1 : Nat) : Int) ∧ ((Nn 1 : Nat) : Int) < 6 ∧ z_1 = 6 * ((Nn 0 : Nat) : Int) + ((Nn 1 : Nat) : Int)) ∨ ((((Nn 0 : Nat) : Int) < 0 ∨ 6 ≤ ((Nn 0 : Nat) : Int) ∨ ((Nn 1 : Nat) : Int) < 0 ∨ 6 ≤ ((Nn 1 : Nat) : Int)) ∧ z_1 = -9) := hu_2
  show V C 0 0 [gRead G a (b 0) (c 0) (nF L) (nF Nn) (nI len) (nI sk) (nI att) (nI ts) (nI tk) (nI nb), gRoll G b (nF w) (nF v) (nI n) (nI k), gMo G c (nF wh) (nF de) t (nI sv) (nI vt) (nI ps)] 19 [some (.ref (a 0))] [.int (iI z_1), .ref (c 0)]
  refine V_topi (show (iI z_1) = (nI (6 * Nn 0 + Nn 1)) from (mv_zn (by omega))) ?_
  refine V_aload_n X dX6_tellDeep_19 rfl ?_
  refine V_get X fl_X6_29 0 0 rfl rfl rfl dX6_tellDeep_20 ?_
  refine V_iconst X (nI 2) dX6_tellDeep_23 (by decide) ?_
  refine V_ialdN X 0 2 rfl rfl (by decide) (by decide) dX6_tellDeep_24 ?_
  refine V_callV (rest := []) X (c_X3_setDeep (Cl C) G c wh de t sv vt ps (6 * Nn 0 + Nn 1) (Nn 2) (by first | assumption | omega)) mi_X3_setDeep kw_2_113 kw_2_114 kw_2_115 dX6_tellDeep_25 [2] rfl (by decide) 2 0 rfl rfl rfl rfl rfl rfl (by decide) (Nat.le_of_ble_eq_true rfl) ⟨rfl, rfl⟩ (fun _ _ => ?_)
  show V C 0 0 [gRead G a (b 0) (c 0) (nF L) (nF Nn) (nI len) (nI sk) (nI att) (nI ts) (nI tk) (nI nb), gRoll G b (nF w) (nF v) (nI n) (nI k), gMo G c (nF wh) (nF (va_up de (6 * Nn 0 + Nn 1) (Nn 2))) t (nI sv) (nI vt) (nI ps)] 28 [some (.ref (a 0))] []
  refine V_iconst X (nI 1) dX6_tellDeep_28 (by decide) ?_
  exact V_iret X Y () trivial rfl rfl rfl dX6_tellDeep_29
set_option maxHeartbeats 4000000 in
set_option maxRecDepth 100000 in
theorem c_X6_readItem (l : Launch) (G : mvG) (a : Nat → Nat) (L : Nat → Nat) (Nn : Nat → Nat) (len : Nat) (sk : Nat) (att : Nat) (ts : Nat) (tk : Nat) (nb : Nat) (b : Nat → Nat) (w : Nat → Nat) (v : Nat → Nat) (n : Nat) (k : Nat) (c : Nat → Nat) (wh : Nat → Nat) (de : Nat → Nat) (t : Nat → Int32) (sv : Nat) (vt : Nat) (ps : Nat) (kd : Nat) (hlen : len ≤ 100) (hL : ∀ j, L j < 256) (hat : att ≤ len) (hnb : nb ≤ 100) (hn : n ≤ 5) (hsk : sk ≤ 1) (htk : tk < 256 ∧ ts ≤ len) (hkd : (tk = 112 ↔ kd = 112) ∧ (tk = 115 ↔ kd = 115) ∧ (tk = 102 ↔ kd = 102)) (hwb : ∀ j, w j ≤ 4 ∧ v j ≤ 9) : KQ l yX6_readItem cX6_readItem 1 (some .boolean) (4, 86) G [.ref (a 0)] [gRead G a (b 0) (c 0) (nF L) (nF Nn) (nI len) (nI sk) (nI att) (nI ts) (nI tk) (nI nb), gRoll G b (nF w) (nF v) (nI n) (nI k), gMo G c (nF wh) (nF de) t (nI sv) (nI vt) (nI ps)] (fun (zz : Nat × (Nat → Nat) × Nat × Nat × Nat × Nat × (Nat → Nat) × (Nat → Nat) × Nat × Nat × Nat × (Nat → Nat) × (Nat → Nat)) => some (.int (nI zz.1))) (fun (zz : Nat × (Nat → Nat) × Nat × Nat × Nat × Nat × (Nat → Nat) × (Nat → Nat) × Nat × Nat × Nat × (Nat → Nat) × (Nat → Nat)) => ((zz.1 = 1 ∧ itemf L len kd (w, v, n, k, sk, wh, de) att ts = .inr ((zz.2.2.2.2.2.2.1, zz.2.2.2.2.2.2.2.1, zz.2.2.2.2.2.2.2.2.1, zz.2.2.2.2.2.2.2.2.2.1, zz.2.2.2.2.2.2.2.2.2.2.1, zz.2.2.2.2.2.2.2.2.2.2.2.1, zz.2.2.2.2.2.2.2.2.2.2.2.2), zz.2.2.1)) ∨ (zz.1 = 0 ∧ itemf L len kd (w, v, n, k, sk, wh, de) att ts = .inl zz.2.2.2.1)) ∧ zz.2.2.2.2.2.1 ≤ 100 ∧ zz.2.2.2.2.1 < 256 ∧ zz.2.2.1 ≤ len ∧ zz.2.2.2.1 ≤ len ∧ att ≤ zz.2.2.1 ∧ (zz.1 = 1 → zz.2.2.2.2.2.2.2.2.1 ≤ 5 ∧ zz.2.2.2.2.2.2.2.2.2.2.1 ≤ 1) ∧ (∀ j, zz.2.2.2.2.2.2.1 j ≤ 4 ∧ zz.2.2.2.2.2.2.2.1 j ≤ 9)) (fun (zz : Nat × (Nat → Nat) × Nat × Nat × Nat × Nat × (Nat → Nat) × (Nat → Nat) × Nat × Nat × Nat × (Nat → Nat) × (Nat → Nat)) => [gRead G a (b 0) (c 0) (nF L) (nF zz.2.1) (nI len) (nI zz.2.2.2.2.2.2.2.2.2.2.1) (nI zz.2.2.1) (nI zz.2.2.2.1) (nI zz.2.2.2.2.1) (nI zz.2.2.2.2.2.1), gRoll G b (nF zz.2.2.2.2.2.2.1) (nF zz.2.2.2.2.2.2.2.1) (nI zz.2.2.2.2.2.2.2.2.1) (nI zz.2.2.2.2.2.2.2.2.2.1), gMo G c (nF zz.2.2.2.2.2.2.2.2.2.2.2.1) (nF zz.2.2.2.2.2.2.2.2.2.2.2.2) t (nI sv) (nI vt) (nI ps)]) := by
  refine KQ.mk (by decide +kernel) (fun _ _ => rfl) [some (.ref (a 0))] (Nat.le_of_ble_eq_true rfl) rfl (fun C X Y hC => ?_)
  subst hC
  refine V_aload_n X dX6_readItem_0 rfl ?_
  refine V_get X fl_X6_51 0 0 rfl rfl rfl dX6_readItem_1 ?_
  by_cases c_1 : ((tk : Nat) : Int) = 102
  · refine V_lookup (off := 106) X 110 dX6_readItem_4 (by decide) (by rw [show (nI tk).toInt = ((tk : Nat) : Int) from (nI_toInt (by omega)), c_1] <;> decide) (by decide) ?_
    refine V_aload_n X dX6_readItem_110 rfl ?_
    refine V_gets X 4 rfl kw_2_105 dX6_readItem_111 ?_
    refine V_gets X 5 rfl kw_2_107 dX6_readItem_114 ?_
    refine V_callV (rest := []) X (c_X6_readNumbers_f (Cl C) G a (b 0) (c 0) L Nn len sk att ts tk nb (by first | assumption | omega) (by first | assumption | omega) (by first | assumption | omega) (by first | assumption | omega)) mi_X6_readNumbers kw_2_75 kw_2_77 kw_s_4 dX6_readItem_117 [0] rfl (by decide) 0 0 rfl rfl rfl rfl rfl rfl (by decide) (Nat.le_of_ble_eq_true rfl) ⟨rfl, rfl⟩ (fun u_ hu_10 => ?_)
    obtain ⟨b_4, n_5, p_6, q_7, t_8, x_9⟩ := u_
    have hu_10 : ((b_4 = 1 ∧ rdN L len rgF att = .inr ([n_5 0, n_5 1, n_5 2], p_6) ∧ n_5 0 ≤ 5 ∧ n_5 1 ≤ 5 ∧ n_5 2 ≤ 9) ∨ (b_4 = 0 ∧ rdN L len rgF att = .inl q_7)) ∧ x_9 ≤ 100 ∧ t_8 < 256 ∧ p_6 ≤ len ∧ q_7 ≤ len ∧ att ≤ p_6 := hu_10
    show V C 0 0 [gRead G a (b 0) (c 0) (nF L) (nF n_5) (nI len) (nI sk) (nI p_6) (nI q_7) (nI t_8) (nI x_9), gRoll G b (nF w) (nF v) (nI n) (nI k), gMo G c (nF wh) (nF de) t (nI sv) (nI vt) (nI ps)] 120 [some (.ref (a 0))] [.int (nI b_4)]
    have hr := hu_10
    refine V_if_eqN X 134 dX6_readItem_120 (by decide) (by omega) (fun c_11 => ?_) (fun c_11 => ?_)
    · refine V_iconst X (nI 0) dX6_readItem_134 (by decide) ?_
      exact V_iret X Y ⟨0, n_5, p_6, q_7, t_8, x_9, w, v, n, k, sk, wh, de⟩ (show ((0 = 1 ∧ itemf L len kd (w, v, n, k, sk, wh, de) att ts = .inr ((w, v, n, k, sk, wh, de), p_6)) ∨ (0 = 0 ∧ itemf L len kd (w, v, n, k, sk, wh, de) att ts = .inl q_7)) ∧ x_9 ≤ 100 ∧ t_8 < 256 ∧ p_6 ≤ len ∧ q_7 ≤ len ∧ att ≤ p_6 ∧ (0 = 1 → n ≤ 5 ∧ sk ≤ 1) ∧ (∀ j, w j ≤ 4 ∧ v j ≤ 9) from ⟨Or.inr ⟨rfl, by simp only [itemf]; rw [if_neg (show ¬ kd = 112 by omega), if_neg (show ¬ kd = 115 by omega), if_pos (show kd = 102 by omega)]; first | (rcases hr.1 with h | h; exact absurd h.1 (by omega); rw [h.2])⟩, by omega, by omega, by omega, by omega, by omega, by omega, (fun j => by have hwj := hwb j; first | exact hwj | (simp only [va_up]; split <;> (rcases hr.1 with h | h <;> omega)))⟩) rfl rfl rfl dX6_readItem_135
    · refine V_aload_n X dX6_readItem_123 rfl ?_
      refine V_callV (rest := []) X (c_X6_tellDeep (Cl C) G a L n_5 len sk p_6 q_7 t_8 x_9 b w v n k c wh de t sv vt ps (by first | assumption | (rcases hr.1 with h | h <;> omega)) (by first | assumption | (rcases hr.1 with h | h <;> omega))) mi_X6_tellDeep kw_2_109 kw_2_111 kw_s_7 dX6_readItem_124 [0, 1, 2] rfl (by decide) 0 0 rfl rfl rfl rfl rfl rfl (by decide) (Nat.le_of_ble_eq_true rfl) ⟨rfl, rfl⟩ (fun _ _ => ?_)
      show V C 0 0 [gRead G a (b 0) (c 0) (nF L) (nF n_5) (nI len) (nI sk) (nI p_6) (nI q_7) (nI t_8) (nI x_9), gRoll G b (nF w) (nF v) (nI n) (nI k), gMo G c (nF wh) (nF (va_up de (6 * n_5 0 + n_5 1) (n_5 2))) t (nI sv) (nI vt) (nI ps)] 127 [some (.ref (a 0))] [.int (nI 1)]
      refine V_if_eqN X 134 dX6_readItem_127 (by decide) (by omega) (fun c_12 => ?_) (fun c_12 => ?_)
      · exfalso; omega
      · refine V_iconst X (nI 1) dX6_readItem_130 (by decide) ?_
        refine V_goto X 135 dX6_readItem_131 (by decide) ?_
        exact V_iret X Y ⟨1, n_5, p_6, q_7, t_8, x_9, w, v, n, k, sk, wh, va_up de (6 * n_5 0 + n_5 1) (n_5 2)⟩ (show ((1 = 1 ∧ itemf L len kd (w, v, n, k, sk, wh, de) att ts = .inr ((w, v, n, k, sk, wh, (va_up de (6 * n_5 0 + n_5 1) (n_5 2))), p_6)) ∨ (1 = 0 ∧ itemf L len kd (w, v, n, k, sk, wh, de) att ts = .inl q_7)) ∧ x_9 ≤ 100 ∧ t_8 < 256 ∧ p_6 ≤ len ∧ q_7 ≤ len ∧ att ≤ p_6 ∧ (1 = 1 → n ≤ 5 ∧ sk ≤ 1) ∧ (∀ j, w j ≤ 4 ∧ v j ≤ 9) from ⟨Or.inl ⟨rfl, by simp only [itemf]; rw [if_neg (show ¬ kd = 112 by omega), if_neg (show ¬ kd = 115 by omega), if_pos (show kd = 102 by omega)]; rcases hr.1 with h | h; (rw [h.2.1]; rfl); exact absurd h.1 (by assumption)⟩, by omega, by omega, by omega, by omega, by omega, by omega, (fun j => by have hwj := hwb j; first | exact hwj | (simp only [va_up]; split <;> (rcases hr.1 with h | h <;> omega)))⟩) rfl rfl rfl dX6_readItem_135
  · by_cases c_2 : ((tk : Nat) : Int) = 112
    · refine V_lookup (off := 36) X 40 dX6_readItem_4 (by decide) (by rw [show (nI tk).toInt = ((tk : Nat) : Int) from (nI_toInt (by omega)), c_2] <;> decide) (by decide) ?_
      refine V_aload_n X dX6_readItem_40 rfl ?_
      refine V_get X fl_X6_18 0 0 rfl rfl rfl dX6_readItem_41 ?_
      refine V_get X fl_X6_61 1 0 rfl rfl rfl dX6_readItem_44 ?_
      refine V_iconst X (nI 5) dX6_readItem_47 (by decide) ?_
      refine V_icmp_geN X 75 dX6_readItem_48 (by decide) (by omega) (by decide) (fun c_13 => ?_) (fun c_13 => ?_)
      · refine V_iconst X (nI 0) dX6_readItem_75 (by decide) ?_
        exact V_iret X Y ⟨0, Nn, att, ts, tk, nb, w, v, n, k, sk, wh, de⟩ (show ((0 = 1 ∧ itemf L len kd (w, v, n, k, sk, wh, de) att ts = .inr ((w, v, n, k, sk, wh, de), att)) ∨ (0 = 0 ∧ itemf L len kd (w, v, n, k, sk, wh, de) att ts = .inl ts)) ∧ nb ≤ 100 ∧ tk < 256 ∧ att ≤ len ∧ ts ≤ len ∧ att ≤ att ∧ (0 = 1 → n ≤ 5 ∧ sk ≤ 1) ∧ (∀ j, w j ≤ 4 ∧ v j ≤ 9) from ⟨Or.inr ⟨rfl, by simp only [itemf]; rw [if_pos (show kd = 112 by omega)]; first | (rw [if_pos (show n < 5 by omega)]; rcases hr.1 with h | h; exact absurd h.1 (by omega); rw [h.2]) | (rw [if_neg (show ¬ n < 5 by omega)])⟩, by omega, by omega, by omega, by omega, by omega, by omega, (fun j => by have hwj := hwb j; first | exact hwj | (simp only [va_up]; split <;> (rcases hr.1 with h | h <;> omega)))⟩) rfl rfl rfl dX6_readItem_76
      · refine V_aload_n X dX6_readItem_51 rfl ?_
        refine V_gets X 0 rfl kw_2_71 dX6_readItem_52 ?_
        refine V_gets X 1 rfl kw_2_73 dX6_readItem_55 ?_
        refine V_callV (rest := []) X (c_X6_readNumbers_p (Cl C) G a (b 0) (c 0) L Nn len sk att ts tk nb (by first | assumption | omega) (by first | assumption | omega) (by first | assumption | omega) (by first | assumption | omega)) mi_X6_readNumbers kw_2_75 kw_2_77 kw_s_4 dX6_readItem_58 [0] rfl (by decide) 0 0 rfl rfl rfl rfl rfl rfl (by decide) (Nat.le_of_ble_eq_true rfl) ⟨rfl, rfl⟩ (fun u_ hu_20 => ?_)
        obtain ⟨b_14, n_15, p_16, q_17, t_18, x_19⟩ := u_
        have hu_20 : ((b_14 = 1 ∧ rdN L len rgP att = .inr ([n_15 0, n_15 1, n_15 2, n_15 3], p_16) ∧ n_15 0 ≤ 5 ∧ n_15 1 ≤ 5 ∧ n_15 2 ≤ 4 ∧ n_15 3 ≤ 9) ∨ (b_14 = 0 ∧ rdN L len rgP att = .inl q_17)) ∧ x_19 ≤ 100 ∧ t_18 < 256 ∧ p_16 ≤ len ∧ q_17 ≤ len ∧ att ≤ p_16 := hu_20
        show V C 0 0 [gRead G a (b 0) (c 0) (nF L) (nF n_15) (nI len) (nI sk) (nI p_16) (nI q_17) (nI t_18) (nI x_19), gRoll G b (nF w) (nF v) (nI n) (nI k), gMo G c (nF wh) (nF de) t (nI sv) (nI vt) (nI ps)] 61 [some (.ref (a 0))] [.int (nI b_14)]
        have hr := hu_20
        refine V_if_eqN X 75 dX6_readItem_61 (by decide) (by omega) (fun c_21 => ?_) (fun c_21 => ?_)
        · refine V_iconst X (nI 0) dX6_readItem_75 (by decide) ?_
          exact V_iret X Y ⟨0, n_15, p_16, q_17, t_18, x_19, w, v, n, k, sk, wh, de⟩ (show ((0 = 1 ∧ itemf L len kd (w, v, n, k, sk, wh, de) att ts = .inr ((w, v, n, k, sk, wh, de), p_16)) ∨ (0 = 0 ∧ itemf L len kd (w, v, n, k, sk, wh, de) att ts = .inl q_17)) ∧ x_19 ≤ 100 ∧ t_18 < 256 ∧ p_16 ≤ len ∧ q_17 ≤ len ∧ att ≤ p_16 ∧ (0 = 1 → n ≤ 5 ∧ sk ≤ 1) ∧ (∀ j, w j ≤ 4 ∧ v j ≤ 9) from ⟨Or.inr ⟨rfl, by simp only [itemf]; rw [if_pos (show kd = 112 by omega)]; first | (rw [if_pos (show n < 5 by omega)]; rcases hr.1 with h | h; exact absurd h.1 (by omega); rw [h.2]) | (rw [if_neg (show ¬ n < 5 by omega)])⟩, by omega, by omega, by omega, by omega, by omega, by omega, (fun j => by have hwj := hwb j; first | exact hwj | (simp only [va_up]; split <;> (rcases hr.1 with h | h <;> omega)))⟩) rfl rfl rfl dX6_readItem_76
        · refine V_aload_n X dX6_readItem_64 rfl ?_
          refine V_callV (rest := []) X (c_X6_tellPerson (Cl C) G a L n_15 len sk p_16 q_17 t_18 x_19 b w v n k c wh de t sv vt ps (by first | assumption | (rcases hr.1 with h | h <;> omega)) (by first | assumption | (rcases hr.1 with h | h <;> omega)) (by first | assumption | (rcases hr.1 with h | h <;> omega))) mi_X6_tellPerson kw_2_79 kw_2_81 kw_s_5 dX6_readItem_65 [0, 1, 2] rfl (by decide) 0 0 rfl rfl rfl rfl rfl rfl (by decide) (Nat.le_of_ble_eq_true rfl) ⟨rfl, rfl⟩ (fun _ _ => ?_)
          show V C 0 0 [gRead G a (b 0) (c 0) (nF L) (nF n_15) (nI len) (nI sk) (nI p_16) (nI q_17) (nI t_18) (nI x_19), gRoll G b (nF (va_up w n (n_15 2))) (nF (va_up v n (n_15 3))) (nI (n + 1)) (nI k), gMo G c (nF (va_up wh n (6 * n_15 0 + n_15 1))) (nF de) t (nI sv) (nI vt) (nI ps)] 68 [some (.ref (a 0))] [.int (nI 1)]
          refine V_if_eqN X 75 dX6_readItem_68 (by decide) (by omega) (fun c_22 => ?_) (fun c_22 => ?_)
          · exfalso; omega
          · refine V_iconst X (nI 1) dX6_readItem_71 (by decide) ?_
            refine V_goto X 76 dX6_readItem_72 (by decide) ?_
            exact V_iret X Y ⟨1, n_15, p_16, q_17, t_18, x_19, va_up w n (n_15 2), va_up v n (n_15 3), n + 1, k, sk, va_up wh n (6 * n_15 0 + n_15 1), de⟩ (show ((1 = 1 ∧ itemf L len kd (w, v, n, k, sk, wh, de) att ts = .inr (((va_up w n (n_15 2)), (va_up v n (n_15 3)), (n + 1), k, sk, (va_up wh n (6 * n_15 0 + n_15 1)), de), p_16)) ∨ (1 = 0 ∧ itemf L len kd (w, v, n, k, sk, wh, de) att ts = .inl q_17)) ∧ x_19 ≤ 100 ∧ t_18 < 256 ∧ p_16 ≤ len ∧ q_17 ≤ len ∧ att ≤ p_16 ∧ (1 = 1 → (n + 1) ≤ 5 ∧ sk ≤ 1) ∧ (∀ j, (va_up w n (n_15 2)) j ≤ 4 ∧ (va_up v n (n_15 3)) j ≤ 9) from ⟨Or.inl ⟨rfl, by simp only [itemf]; rw [if_pos (show kd = 112 by omega)]; rw [if_pos (show n < 5 by omega)]; rcases hr.1 with h | h; (rw [h.2.1]; rfl); exact absurd h.1 (by assumption)⟩, by omega, by omega, by omega, by omega, by omega, by omega, (fun j => by have hwj := hwb j; first | exact hwj | (simp only [va_up]; split <;> (rcases hr.1 with h | h <;> omega)))⟩) rfl rfl rfl dX6_readItem_76
    · by_cases c_3 : ((tk : Nat) : Int) = 115
      · refine V_lookup (off := 73) X 77 dX6_readItem_4 (by decide) (by rw [show (nI tk).toInt = ((tk : Nat) : Int) from (nI_toInt (by omega)), c_3] <;> decide) (by decide) ?_
        refine V_aload_n X dX6_readItem_77 rfl ?_
        refine V_get X fl_X6_41 0 0 rfl rfl rfl dX6_readItem_78 ?_
        refine V_if_neN X 108 dX6_readItem_81 (by decide) (by omega) (fun c_23 => ?_) (fun c_23 => ?_)
        · refine V_iconst X (nI 0) dX6_readItem_108 (by decide) ?_
          exact V_iret X Y ⟨0, Nn, att, ts, tk, nb, w, v, n, k, sk, wh, de⟩ (show ((0 = 1 ∧ itemf L len kd (w, v, n, k, sk, wh, de) att ts = .inr ((w, v, n, k, sk, wh, de), att)) ∨ (0 = 0 ∧ itemf L len kd (w, v, n, k, sk, wh, de) att ts = .inl ts)) ∧ nb ≤ 100 ∧ tk < 256 ∧ att ≤ len ∧ ts ≤ len ∧ att ≤ att ∧ (0 = 1 → n ≤ 5 ∧ sk ≤ 1) ∧ (∀ j, w j ≤ 4 ∧ v j ≤ 9) from ⟨Or.inr ⟨rfl, by simp only [itemf]; rw [if_neg (show ¬ kd = 112 by omega), if_pos (show kd = 115 by omega)]; first | (rw [if_pos (show sk = 0 by omega)]; rcases hr.1 with h | h; exact absurd h.1 (by omega); rw [h.2]) | (rw [if_neg (show ¬ sk = 0 by omega)])⟩, by omega, by omega, by omega, by omega, by omega, by omega, (fun j => by have hwj := hwb j; first | exact hwj | (simp only [va_up]; split <;> (rcases hr.1 with h | h <;> omega)))⟩) rfl rfl rfl dX6_readItem_109
        · refine V_aload_n X dX6_readItem_84 rfl ?_
          refine V_gets X 2 rfl kw_2_97 dX6_readItem_85 ?_
          refine V_gets X 3 rfl kw_2_99 dX6_readItem_88 ?_
          refine V_callV (rest := []) X (c_X6_readNumbers_s (Cl C) G a (b 0) (c 0) L Nn len sk att ts tk nb (by first | assumption | omega) (by first | assumption | omega) (by first | assumption | omega) (by first | assumption | omega)) mi_X6_readNumbers kw_2_75 kw_2_77 kw_s_4 dX6_readItem_91 [0] rfl (by decide) 0 0 rfl rfl rfl rfl rfl rfl (by decide) (Nat.le_of_ble_eq_true rfl) ⟨rfl, rfl⟩ (fun u_ hu_30 => ?_)
          obtain ⟨b_24, n_25, p_26, q_27, t_28, x_29⟩ := u_
          have hu_30 : ((b_24 = 1 ∧ rdN L len rgS att = .inr ([n_25 0], p_26) ∧ 1 ≤ n_25 0 ∧ n_25 0 ≤ 9) ∨ (b_24 = 0 ∧ rdN L len rgS att = .inl q_27)) ∧ x_29 ≤ 100 ∧ t_28 < 256 ∧ p_26 ≤ len ∧ q_27 ≤ len ∧ att ≤ p_26 := hu_30
          show V C 0 0 [gRead G a (b 0) (c 0) (nF L) (nF n_25) (nI len) (nI sk) (nI p_26) (nI q_27) (nI t_28) (nI x_29), gRoll G b (nF w) (nF v) (nI n) (nI k), gMo G c (nF wh) (nF de) t (nI sv) (nI vt) (nI ps)] 94 [some (.ref (a 0))] [.int (nI b_24)]
          have hr := hu_30
          refine V_if_eqN X 108 dX6_readItem_94 (by decide) (by omega) (fun c_31 => ?_) (fun c_31 => ?_)
          · refine V_iconst X (nI 0) dX6_readItem_108 (by decide) ?_
            exact V_iret X Y ⟨0, n_25, p_26, q_27, t_28, x_29, w, v, n, k, sk, wh, de⟩ (show ((0 = 1 ∧ itemf L len kd (w, v, n, k, sk, wh, de) att ts = .inr ((w, v, n, k, sk, wh, de), p_26)) ∨ (0 = 0 ∧ itemf L len kd (w, v, n, k, sk, wh, de) att ts = .inl q_27)) ∧ x_29 ≤ 100 ∧ t_28 < 256 ∧ p_26 ≤ len ∧ q_27 ≤ len ∧ att ≤ p_26 ∧ (0 = 1 → n ≤ 5 ∧ sk ≤ 1) ∧ (∀ j, w j ≤ 4 ∧ v j ≤ 9) from ⟨Or.inr ⟨rfl, by simp only [itemf]; rw [if_neg (show ¬ kd = 112 by omega), if_pos (show kd = 115 by omega)]; first | (rw [if_pos (show sk = 0 by omega)]; rcases hr.1 with h | h; exact absurd h.1 (by omega); rw [h.2]) | (rw [if_neg (show ¬ sk = 0 by omega)])⟩, by omega, by omega, by omega, by omega, by omega, by omega, (fun j => by have hwj := hwb j; first | exact hwj | (simp only [va_up]; split <;> (rcases hr.1 with h | h <;> omega)))⟩) rfl rfl rfl dX6_readItem_109
          · refine V_aload_n X dX6_readItem_97 rfl ?_
            refine V_callV (rest := []) X (c_X6_tellSoaked (Cl C) G a L n_25 len sk p_26 q_27 t_28 x_29 b w v n k c wh de t sv vt ps) mi_X6_tellSoaked kw_2_101 kw_2_103 kw_s_6 dX6_readItem_98 [0, 1, 2] rfl (by decide) 0 0 rfl rfl rfl rfl rfl rfl (by decide) (Nat.le_of_ble_eq_true rfl) ⟨rfl, rfl⟩ (fun _ _ => ?_)
            show V C 0 0 [gRead G a (b 0) (c 0) (nF L) (nF n_25) (nI len) (nI 1) (nI p_26) (nI q_27) (nI t_28) (nI x_29), gRoll G b (nF w) (nF v) (nI n) (nI (n_25 0)), gMo G c (nF wh) (nF de) t (nI sv) (nI vt) (nI ps)] 101 [some (.ref (a 0))] [.int (nI 1)]
            refine V_if_eqN X 108 dX6_readItem_101 (by decide) (by omega) (fun c_32 => ?_) (fun c_32 => ?_)
            · exfalso; omega
            · refine V_iconst X (nI 1) dX6_readItem_104 (by decide) ?_
              refine V_goto X 109 dX6_readItem_105 (by decide) ?_
              exact V_iret X Y ⟨1, n_25, p_26, q_27, t_28, x_29, w, v, n, n_25 0, 1, wh, de⟩ (show ((1 = 1 ∧ itemf L len kd (w, v, n, k, sk, wh, de) att ts = .inr ((w, v, n, (n_25 0), 1, wh, de), p_26)) ∨ (1 = 0 ∧ itemf L len kd (w, v, n, k, sk, wh, de) att ts = .inl q_27)) ∧ x_29 ≤ 100 ∧ t_28 < 256 ∧ p_26 ≤ len ∧ q_27 ≤ len ∧ att ≤ p_26 ∧ (1 = 1 → n ≤ 5 ∧ 1 ≤ 1) ∧ (∀ j, w j ≤ 4 ∧ v j ≤ 9) from ⟨Or.inl ⟨rfl, by simp only [itemf]; rw [if_neg (show ¬ kd = 112 by omega), if_pos (show kd = 115 by omega)]; rw [if_pos (show sk = 0 by omega)]; rcases hr.1 with h | h; (rw [h.2.1]; rfl); exact absurd h.1 (by assumption)⟩, by omega, by omega, by omega, by omega, by omega, by omega, (fun j => by have hwj := hwb j; first | exact hwj | (simp only [va_up]; split <;> (rcases hr.1 with h | h <;> omega)))⟩) rfl rfl rfl dX6_readItem_109
      · refine V_lookup (off := 132) X 136 dX6_readItem_4 (by decide) (by rw [show (nI tk).toInt = ((tk : Nat) : Int) from (nI_toInt (by omega))]; exact mv_look3 (by omega) (by omega) (by omega)) (by decide) ?_
        refine V_iconst X (nI 0) dX6_readItem_136 (by decide) ?_
        exact V_iret X Y ⟨0, Nn, att, ts, tk, nb, w, v, n, k, sk, wh, de⟩ (show ((0 = 1 ∧ itemf L len kd (w, v, n, k, sk, wh, de) att ts = .inr ((w, v, n, k, sk, wh, de), att)) ∨ (0 = 0 ∧ itemf L len kd (w, v, n, k, sk, wh, de) att ts = .inl ts)) ∧ nb ≤ 100 ∧ tk < 256 ∧ att ≤ len ∧ ts ≤ len ∧ att ≤ att ∧ (0 = 1 → n ≤ 5 ∧ sk ≤ 1) ∧ (∀ j, w j ≤ 4 ∧ v j ≤ 9) from ⟨Or.inr ⟨rfl, by simp only [itemf]; rw [if_neg (show ¬ kd = 112 by omega), if_neg (show ¬ kd = 115 by omega), if_neg (show ¬ kd = 102 by omega)]⟩, by omega, by omega, by omega, by omega, by omega, by omega, (fun j => by have hwj := hwb j; first | exact hwj | (simp only [va_up]; split <;> (rcases hr.1 with h | h <;> omega)))⟩) rfl rfl rfl dX6_readItem_137
set_option maxHeartbeats 4000000 in
set_option maxRecDepth 100000 in
theorem c_X6_readAll (l : Launch) (G : mvG) (a : Nat → Nat) (L : Nat → Nat) (Nn : Nat → Nat) (len : Nat) (sk : Nat) (att : Nat) (ts : Nat) (tk : Nat) (nb : Nat) (b : Nat → Nat) (w : Nat → Nat) (v : Nat → Nat) (n : Nat) (k : Nat) (c : Nat → Nat) (wh : Nat → Nat) (de : Nat → Nat) (t : Nat → Int32) (sv : Nat) (vt : Nat) (ps : Nat) (hlen : len ≤ 100) (hL : ∀ j, L j < 256) (hnb : nb ≤ 100) (hwb : ∀ j, w j ≤ 4 ∧ v j ≤ 9) : KQ l yX6_readAll cX6_readAll 2 (some .int) (5, 106) G [.ref (a 0)] [gRead G a (b 0) (c 0) (nF L) (nF Nn) (nI len) (nI sk) (nI att) (nI ts) (nI tk) (nI nb), gRoll G b (nF w) (nF v) (nI n) (nI k), gMo G c (nF wh) (nF de) t (nI sv) (nI vt) (nI ps)] (fun (zz : Int × (Nat → Nat) × Nat × Nat × Nat × Nat × (Nat → Nat) × (Nat → Nat) × Nat × Nat × Nat × (Nat → Nat) × (Nat → Nat)) => some (.int (iI zz.1))) (fun (zz : Int × (Nat → Nat) × Nat × Nat × Nat × Nat × (Nat → Nat) × (Nat → Nat) × Nat × Nat × Nat × (Nat → Nat) × (Nat → Nat)) => ((∃ itx : Nat, prs L len 101 0 (w, v, 0, 1, 0, fun _ => 0, fun _ => 0) 0 = .inr (itx, (zz.2.2.2.2.2.2.1, zz.2.2.2.2.2.2.2.1, zz.2.2.2.2.2.2.2.2.1, zz.2.2.2.2.2.2.2.2.2.1, zz.2.2.2.2.2.2.2.2.2.2.1, zz.2.2.2.2.2.2.2.2.2.2.2.1, zz.2.2.2.2.2.2.2.2.2.2.2.2)) ∧ zz.1 = (itx : Int) ∧ itx ≤ 100) ∨ (∃ qx : Nat, prs L len 101 0 (w, v, 0, 1, 0, fun _ => 0, fun _ => 0) 0 = .inl qx ∧ zz.1 = -10 - (qx : Int) ∧ qx ≤ 100)) ∧ zz.2.2.2.2.2.1 ≤ 100 ∧ (∀ j, zz.2.2.2.2.2.2.1 j ≤ 4 ∧ zz.2.2.2.2.2.2.2.1 j ≤ 9)) (fun (zz : Int × (Nat → Nat) × Nat × Nat × Nat × Nat × (Nat → Nat) × (Nat → Nat) × Nat × Nat × Nat × (Nat → Nat) × (Nat → Nat)) => [gRead G a (b 0) (c 0) (nF L) (nF zz.2.1) (nI len) (nI zz.2.2.2.2.2.2.2.2.2.2.1) (nI zz.2.2.1) (nI zz.2.2.2.1) (nI zz.2.2.2.2.1) (nI zz.2.2.2.2.2.1), gRoll G b (nF zz.2.2.2.2.2.2.1) (nF zz.2.2.2.2.2.2.2.1) (nI zz.2.2.2.2.2.2.2.2.1) (nI zz.2.2.2.2.2.2.2.2.2.1), gMo G c (nF zz.2.2.2.2.2.2.2.2.2.2.2.1) (nF zz.2.2.2.2.2.2.2.2.2.2.2.2) (fun _ => (-9)) (nI 0) (nI 0) (nI 0)]) := by
  refine KQ.mk (by decide +kernel) (fun _ _ => rfl) [some (.ref (a 0)), none] (Nat.le_of_ble_eq_true rfl) rfl (fun C X Y hC => ?_)
  subst hC
  refine V_aload_n X dX6_readAll_0 rfl ?_
  refine V_get X fl_X6_18 0 0 rfl rfl rfl dX6_readAll_1 ?_
  refine V_callV (rest := []) X (c_X7_reset (Cl C) G b w v n k) mi_X7_reset kw_2_44 kw_2_45 kw_2_46 dX6_readAll_4 [1] rfl (by decide) 1 0 rfl rfl rfl rfl rfl rfl (by decide) (Nat.le_of_ble_eq_true rfl) ⟨rfl, rfl⟩ (fun _ _ => ?_)
  show V C 0 0 [gRead G a (b 0) (c 0) (nF L) (nF Nn) (nI len) (nI sk) (nI att) (nI ts) (nI tk) (nI nb), gRoll G b (nF w) (nF v) (nI 0) (nI 1), gMo G c (nF wh) (nF de) t (nI sv) (nI vt) (nI ps)] 7 [some (.ref (a 0)), none] []
  refine V_aload_n X dX6_readAll_7 rfl ?_
  refine V_get X fl_X6_25 0 0 rfl rfl rfl dX6_readAll_8 ?_
  refine V_callV (rest := []) X (c_X3_reset (Cl C) G c wh de t sv vt ps) mi_X3_reset kw_2_48 kw_1_63 kw_1_64 dX6_readAll_11 [2] rfl (by decide) 2 0 rfl rfl rfl rfl rfl rfl (by decide) (Nat.le_of_ble_eq_true rfl) ⟨rfl, rfl⟩ (fun _ _ => ?_)
  show V C 0 0 [gRead G a (b 0) (c 0) (nF L) (nF Nn) (nI len) (nI sk) (nI att) (nI ts) (nI tk) (nI nb), gRoll G b (nF w) (nF v) (nI 0) (nI 1), gMo G c (nF (fun _ => 0)) (nF (fun _ => 0)) (fun _ => (-9)) (nI 0) (nI 0) (nI 0)] 14 [some (.ref (a 0)), none] []
  refine V_aload_n X dX6_readAll_14 rfl ?_
  refine V_iconst X (nI 0) dX6_readAll_15 (by decide) ?_
  refine V_put X fl_X6_41 0 0 rfl rfl rfl rfl (Nat.le_of_ble_eq_true rfl) dX6_readAll_16 ?_
  show V C 0 0 [gRead G a (b 0) (c 0) (nF L) (nF Nn) (nI len) (nI 0) (nI att) (nI ts) (nI tk) (nI nb), gRoll G b (nF w) (nF v) (nI 0) (nI 1), gMo G c (nF (fun _ => 0)) (nF (fun _ => 0)) (fun _ => (-9)) (nI 0) (nI 0) (nI 0)] 19 [some (.ref (a 0)), none] []
  refine V_aload_n X dX6_readAll_19 rfl ?_
  refine V_iconst X (nI 0) dX6_readAll_20 (by decide) ?_
  refine V_put X fl_X6_45 0 0 rfl rfl rfl rfl (Nat.le_of_ble_eq_true rfl) dX6_readAll_21 ?_
  show V C 0 0 [gRead G a (b 0) (c 0) (nF L) (nF Nn) (nI len) (nI 0) (nI 0) (nI ts) (nI tk) (nI nb), gRoll G b (nF w) (nF v) (nI 0) (nI 1), gMo G c (nF (fun _ => 0)) (nF (fun _ => 0)) (fun _ => (-9)) (nI 0) (nI 0) (nI 0)] 24 [some (.ref (a 0)), none] []
  refine V_iconst X (nI 0) dX6_readAll_24 (by decide) ?_
  refine V_istore_n X dX6_readAll_25 (by decide) rfl ?_
  have L_26 : ∀ (fz_26 : Nat) (it : Nat) (N1 : Nat → Nat) (p1 : Nat) (q1 : Nat) (t1 : Nat) (x1 : Nat) (w1 : Nat → Nat) (v1 : Nat → Nat) (n1 : Nat) (k1 : Nat) (s1 : Nat) (h1 : Nat → Nat) (d1 : Nat → Nat) (hit : it ≤ p1 ∧ p1 ≤ len ∧ x1 ≤ 100 ∧ n1 ≤ 5 ∧ s1 ≤ 1) (he : prs L len (101 - it) it (w1, v1, n1, k1, s1, h1, d1) p1 = prs L len 101 0 (w, v, 0, 1, 0, fun _ => 0, fun _ => 0) 0) (hwl : ∀ j, w1 j ≤ 4 ∧ v1 j ≤ 9), (101 - it) < fz_26 → V C 0 0 [gRead G a (b 0) (c 0) (nF L) (nF N1) (nI len) (nI s1) (nI p1) (nI q1) (nI t1) (nI x1), gRoll G b (nF w1) (nF v1) (nI n1) (nI k1), gMo G c (nF h1) (nF d1) (fun _ => (-9)) (nI 0) (nI 0) (nI 0)] 26 [some (.ref (a 0)), some (.int (nI it))] [] := by
    intro fz_26
    induction fz_26 with
    | zero => intro it N1 p1 q1 t1 x1 w1 v1 n1 k1 s1 h1 d1 hit he hwl hf_26; exact absurd hf_26 (Nat.not_lt_zero _)
    | succ fz_26 ih_26 =>
      intro it N1 p1 q1 t1 x1 w1 v1 n1 k1 s1 h1 d1 hit he hwl hf_26
      refine V_iload_n X dX6_readAll_26 rfl ?_
      refine V_bipush X (nI 100) dX6_readAll_27 (by decide) ?_
      refine V_icmp_gtN X 62 dX6_readAll_29 (by decide) (by omega) (by decide) (fun c_1 => ?_) (fun c_1 => ?_)
      · exfalso; omega
      · refine V_aload_n X dX6_readAll_32 rfl ?_
        refine V_callV (rest := []) X (c_X6_nextToken (Cl C) G a (b 0) (c 0) L N1 len s1 p1 q1 t1 x1 (by first | assumption | omega) (by first | assumption | omega) (by first | assumption | omega) (by first | assumption | omega)) mi_X6_nextToken kw_2_49 kw_2_51 kw_s_0 dX6_readAll_33 [0] rfl (by decide) 0 0 rfl rfl rfl rfl rfl rfl (by decide) (Nat.le_of_ble_eq_true rfl) ⟨rfl, rfl⟩ (fun u_ hu_8 => ?_)
        obtain ⟨p_2, q_3, t_4, x_5, kd_6, va_7⟩ := u_
        have hu_8 : (tokf L len p1 = (q_3, p_2, kd_6, va_7) ∧ clsC kd_6 va_7 t_4 x_5) ∧ x_5 ≤ 100 ∧ t_4 < 256 ∧ p_2 ≤ len ∧ q_3 ≤ len ∧ p1 ≤ p_2 ∧ (t_4 = 3 ∨ p1 < p_2) := hu_8
        show V C 0 0 [gRead G a (b 0) (c 0) (nF L) (nF N1) (nI len) (nI s1) (nI p_2) (nI q_3) (nI t_4) (nI x_5), gRoll G b (nF w1) (nF v1) (nI n1) (nI k1), gMo G c (nF h1) (nF d1) (fun _ => (-9)) (nI 0) (nI 0) (nI 0)] 36 [some (.ref (a 0)), some (.int (nI it))] []
        have ht := hu_8
        have hc := ht.1.2
        simp only [clsC] at hc
        refine V_aload_n X dX6_readAll_36 rfl ?_
        refine V_get X fl_X6_51 0 0 rfl rfl rfl dX6_readAll_37 ?_
        refine V_iconst X (nI 3) dX6_readAll_40 (by decide) ?_
        refine V_icmp_neN X 46 dX6_readAll_41 (by decide) (by omega) (by decide) (fun c_9 => ?_) (fun c_9 => ?_)
        · refine V_aload_n X dX6_readAll_46 rfl ?_
          refine V_callV (rest := []) X (c_X6_readItem (Cl C) G a L N1 len s1 p_2 q_3 t_4 x_5 b w1 v1 n1 k1 c h1 d1 (fun _ => (-9)) 0 0 0 kd_6 (by first | assumption | omega) (by first | assumption | omega) (by first | assumption | omega) (by first | assumption | omega) (by first | assumption | omega) (by first | assumption | omega) (by first | assumption | omega) (by first | assumption | omega) (by first | assumption | omega)) mi_X6_readItem kw_2_67 kw_2_69 kw_s_3 dX6_readAll_47 [0, 1, 2] rfl (by decide) 0 0 rfl rfl rfl rfl rfl rfl (by decide) (Nat.le_of_ble_eq_true rfl) ⟨rfl, rfl⟩ (fun u_ hu_23 => ?_)
          obtain ⟨b_10, N_11, p_12, q_13, t_14, x_15, w_16, v_17, n_18, k_19, s_20, h_21, d_22⟩ := u_
          have hu_23 : ((b_10 = 1 ∧ itemf L len kd_6 (w1, v1, n1, k1, s1, h1, d1) p_2 q_3 = .inr ((w_16, v_17, n_18, k_19, s_20, h_21, d_22), p_12)) ∨ (b_10 = 0 ∧ itemf L len kd_6 (w1, v1, n1, k1, s1, h1, d1) p_2 q_3 = .inl q_13)) ∧ x_15 ≤ 100 ∧ t_14 < 256 ∧ p_12 ≤ len ∧ q_13 ≤ len ∧ p_2 ≤ p_12 ∧ (b_10 = 1 → n_18 ≤ 5 ∧ s_20 ≤ 1) ∧ (∀ j, w_16 j ≤ 4 ∧ v_17 j ≤ 9) := hu_23
          show V C 0 0 [gRead G a (b 0) (c 0) (nF L) (nF N_11) (nI len) (nI s_20) (nI p_12) (nI q_13) (nI t_14) (nI x_15), gRoll G b (nF w_16) (nF v_17) (nI n_18) (nI k_19), gMo G c (nF h_21) (nF d_22) (fun _ => (-9)) (nI 0) (nI 0) (nI 0)] 50 [some (.ref (a 0)), some (.int (nI it))] [.int (nI b_10)]
          have hi := hu_23
          refine V_if_neN X 56 dX6_readAll_50 (by decide) (by omega) (fun c_24 => ?_) (fun c_24 => ?_)
          · refine V_iincN X (c := 1) dX6_readAll_56 rfl (by decide) rfl ?_
            refine V_goto X 26 dX6_readAll_59 (by decide) ?_
            refine V_weak (lv' := [some (.ref (a 0)), some (.int (nI (it + 1)))]) (And.intro rfl (And.intro rfl trivial)) ?_
            exact ih_26 (it + 1) N_11 p_12 q_13 t_14 x_15 w_16 v_17 n_18 k_19 s_20 h_21 d_22 (by omega) (by rw [← he, show 101 - it = (101 - (it + 1)) + 1 by omega]; rcases hi.1 with h | h; exact (prs_ok ht.1.1 (by omega) h.2).symm; exact absurd h.1 (by assumption)) hi.2.2.2.2.2.2.2 (by omega)
          · refine V_goto X 62 dX6_readAll_53 (by decide) ?_
            refine V_bipush X (-10) dX6_readAll_62 (by decide) ?_
            refine V_aload_n X dX6_readAll_64 rfl ?_
            refine V_get X fl_X6_58 0 0 rfl rfl rfl dX6_readAll_65 ?_
            refine V_two (show (-10) = iI (-10 : Int) from rfl) (show (nI q_13) = iI ((q_13 : Nat) : Int) from rfl) ?_
            refine V_isubS X dX6_readAll_68 ?_
            exact V_iret X Y ⟨(-10 : Int) - ((q_13 : Nat) : Int), N_11, p_12, q_13, t_14, x_15, w_16, v_17, n_18, k_19, s_20, h_21, d_22⟩ (show ((∃ itx : Nat, prs L len 101 0 (w, v, 0, 1, 0, fun _ => 0, fun _ => 0) 0 = .inr (itx, (w_16, v_17, n_18, k_19, s_20, h_21, d_22)) ∧ ((-10 : Int) - ((q_13 : Nat) : Int)) = (itx : Int) ∧ itx ≤ 100) ∨ (∃ qx : Nat, prs L len 101 0 (w, v, 0, 1, 0, fun _ => 0, fun _ => 0) 0 = .inl qx ∧ ((-10 : Int) - ((q_13 : Nat) : Int)) = -10 - (qx : Int) ∧ qx ≤ 100)) ∧ x_15 ≤ 100 ∧ (∀ j, w_16 j ≤ 4 ∧ v_17 j ≤ 9) from ⟨Or.inr ⟨q_13, by rw [← he, show 101 - it = (100 - it) + 1 by omega]; rcases hi.1 with h | h; exact absurd h.1 (by omega); exact prs_bad ht.1.1 (by omega) h.2, by omega, by omega⟩, by omega, hi.2.2.2.2.2.2.2⟩) (mv_si (by rfl)) rfl rfl dX6_readAll_69
        · refine V_iload_n X dX6_readAll_44 rfl ?_
          exact V_iret X Y ⟨((it : Nat) : Int), N1, p_2, q_3, t_4, x_5, w1, v1, n1, k1, s1, h1, d1⟩ (show ((∃ itx : Nat, prs L len 101 0 (w, v, 0, 1, 0, fun _ => 0, fun _ => 0) 0 = .inr (itx, (w1, v1, n1, k1, s1, h1, d1)) ∧ ((it : Nat) : Int) = (itx : Int) ∧ itx ≤ 100) ∨ (∃ qx : Nat, prs L len 101 0 (w, v, 0, 1, 0, fun _ => 0, fun _ => 0) 0 = .inl qx ∧ ((it : Nat) : Int) = -10 - (qx : Int) ∧ qx ≤ 100)) ∧ x_5 ≤ 100 ∧ (∀ j, w1 j ≤ 4 ∧ v1 j ≤ 9) from ⟨Or.inl ⟨it, by rw [← he, show 101 - it = (100 - it) + 1 by omega]; exact prs_end ht.1.1 (by omega), rfl, by omega⟩, by omega, hwl⟩) (mv_ri (by rfl)) rfl rfl dX6_readAll_45
  refine V_weak (lv' := [some (.ref (a 0)), some (.int (nI 0))]) (And.intro rfl (And.intro rfl trivial)) ?_
  exact L_26 _ 0 Nn 0 ts tk nb w v 0 1 0 (fun _ => 0) (fun _ => 0) (by omega) rfl hwb (Nat.lt_succ_self _)
