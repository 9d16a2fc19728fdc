def rnV (to s : Nat → Nat) (c : Nat) : Nat := if to 1 < s (5 + c) % 16 then s (5 + c) - to 1 else 0
def rnS (to s S : Nat → Nat) (c : Nat) : Prop := (∀ i, i < c → S (5 + i) = rnV to s i) ∧ (∀ j, j < 5 ∨ 5 + c ≤ j → S j = s j)
theorem rnS_0 (to s : Nat → Nat) : rnS to s s 0 := ⟨fun i h => absurd h (Nat.not_lt_zero i), fun _ _ => rfl⟩
theorem rnS_up {to s S : Nat → Nat} {c v : Nat} (h : rnS to s S c) (hv : v = rnV to s c) : rnS to s (va_up S (5 + c) v) (c + 1) := by
  refine ⟨fun i hi => ?_, fun j hj => ?_⟩
  · simp only [va_up]
    by_cases e : i = c
    · rw [if_pos (by omega), hv, e]
    · rw [if_neg (by omega)]
      exact h.1 i (by omega)
  · simp only [va_up]
    rw [if_neg (by omega)]
    exact h.2 j (by omega)
def lfS (s : Nat → Nat) (c m : Nat) : Nat → Nat := va_up (va_up (va_up (va_up (va_up s (5 + c) 0) (5 + c + 1) 0) (5 + c + 6) 0) (5 + c + 6 + 1) 0) 41 (min 999 (s 41 + m))
theorem trT_le36 {s : Nat → Nat} (h : ∀ c, c < 36 → s (5 + c) < 80 ∧ s (5 + c) % 16 ≤ 9) {t : Nat} (ht : t < 25) : trT (fun c => s (5 + c) % 16) t ≤ 36 := by
  have h1 := h (6 * (t / 5) + t % 5) (by omega)
  have h2 := h (6 * (t / 5) + t % 5 + 1) (by omega)
  have h3 := h (6 * (t / 5) + t % 5 + 6) (by omega)
  have h4 := h (6 * (t / 5) + t % 5 + 7) (by omega)
  simp only [trT, tray]
  omega
set_option maxHeartbeats 4000000 in
set_option maxRecDepth 100000 in
theorem c_X12_rains (l : Launch) (G : mvG) (a : Nat → Nat) (tx : Nat → Nat) (to : Nat → Nat) (dr : Nat → Nat) (be : Nat → Nat) (s : Nat → Nat) (pa : Nat → Nat) (im : Nat → Nat) (ke : Nat → Nat) (no : Nat → Nat) (fa : Nat → Nat) (tr : Nat) (ty : Nat) (kn : Nat) (nd : Nat) (att : Nat) (so : Nat) (ss : Nat) (va : Int) (hde : ∀ c, c < 36 → s (5 + c) < 80 ∧ s (5 + c) % 16 ≤ 9) (hk : 1 ≤ to 1 ∧ to 1 ≤ 9) (hkn : kn ≤ 10) : KQ l yX12_rains cX12_rains 5 (some .int) (1, 21) G [.ref (a 0)] [gMod G a (nF tx) (nF to) (nF dr) (nF be) (nF s) (nF pa) (nF im) (nF ke) (nF no) (nF fa) (lN tr) (nI ty) (nI kn) (nI nd) (nI att) (nI so) (nI ss) (iI va)] (fun (zz : Nat × (Nat → Nat) × (Nat → Nat) × Nat) => some (.int (nI zz.1))) (fun (zz : Nat × (Nat → Nat) × (Nat → Nat) × Nat) => KP s pa kn zz.2.2.1 zz.2.2.2 ∧ zz.1 = cntS (fun c => s (5 + c) % 16) (to 1) 36 ∧ rnS to s zz.2.1 36) (fun (zz : Nat × (Nat → Nat) × (Nat → Nat) × Nat) => [gMod G a (nF tx) (nF to) (nF dr) (nF be) (nF zz.2.1) (nF zz.2.2.1) (nF im) (nF ke) (nF no) (nF fa) (lN tr) (nI ty) (nI zz.2.2.2) (nI nd) (nI att) (nI so) (nI ss) (iI va)]) := by
  refine KQ.mk (by decide +kernel) (fun _ _ => rfl) [some (.ref (a 0)), none, none, none, none] (Nat.le_of_ble_eq_true rfl) rfl (fun C X Y hC => ?_)
  subst hC
  refine V_aload_n X dX12_rains_0 rfl ?_
  refine V_callV (rest := []) X (c_X12_keeps (Cl C) G a tx to dr be s pa im ke no fa tr ty kn nd att so ss va (by first | assumption | omega)) mi_X12_keeps kw_4_141 kw_4_143 kw_s_42 dX12_rains_1 [0] rfl (by decide) 0 0 rfl rfl rfl rfl rfl rfl (by decide) (Nat.le_of_ble_eq_true rfl) ⟨rfl, rfl⟩ (fun u_ hu_3 => ?_)
  obtain ⟨P_1, k_2⟩ := u_
  have hu_3 : KP s pa kn P_1 k_2 := hu_3
  show V C 0 0 [gMod G a (nF tx) (nF to) (nF dr) (nF be) (nF s) (nF P_1) (nF im) (nF ke) (nF no) (nF fa) (lN tr) (nI ty) (nI k_2) (nI nd) (nI att) (nI so) (nI ss) (iI va)] 4 [some (.ref (a 0)), none, none, none, none] []
  have hkp := hu_3
  have hkl := KP_le hkp
  refine V_iconst X (nI 0) dX12_rains_4 (by decide) ?_
  refine V_istore_n X dX12_rains_5 (by decide) rfl ?_
  refine V_iconst X (nI 0) dX12_rains_6 (by decide) ?_
  refine V_istore_n X dX12_rains_7 (by decide) rfl ?_
  have L_8 : ∀ (fz_8 : Nat) (y : Nat) (c : Nat) (S1 : Nat → Nat) (hc : c ≤ 36 ∧ y ≤ c) (hy : y = cntS (fun c => s (5 + c) % 16) (to 1) c) (hS : rnS to s S1 c) (hdS : ∀ i, i < 36 → S1 (5 + i) < 80 ∧ S1 (5 + i) % 16 ≤ 9), (36 - c) < fz_8 → V C 0 0 [gMod G a (nF tx) (nF to) (nF dr) (nF be) (nF S1) (nF P_1) (nF im) (nF ke) (nF no) (nF fa) (lN tr) (nI ty) (nI k_2) (nI nd) (nI att) (nI so) (nI ss) (iI va)] 8 [some (.ref (a 0)), some (.int (nI y)), some (.int (nI c)), none, none] [] := by
    intro fz_8
    induction fz_8 with
    | zero => intro y c S1 hc hy hS hdS hf_8; exact absurd hf_8 (Nat.not_lt_zero _)
    | succ fz_8 ih_8 =>
      intro y c S1 hc hy hS hdS hf_8
      refine V_iload_n X dX12_rains_8 rfl ?_
      refine V_bipush X (nI 36) dX12_rains_9 (by decide) ?_
      refine V_icmp_geN X 104 dX12_rains_11 (by decide) (by omega) (by decide) (fun c_4 => ?_) (fun c_4 => ?_)
      · refine V_iload_n X dX12_rains_104 rfl ?_
        exact V_iret X Y ⟨y, S1, P_1, k_2⟩ (show KP s pa kn P_1 k_2 ∧ y = cntS (fun c => s (5 + c) % 16) (to 1) 36 ∧ rnS to s S1 36 from ⟨hkp, by rw [hy, show c = 36 by omega], by rw [show c = 36 by omega] at hS; exact hS⟩) rfl rfl rfl dX12_rains_105
      · have hSc : S1 (5 + c) = s (5 + c) := hS.2 _ (by omega)
        have hdc := hde c (by omega)
        refine V_aload_n X dX12_rains_14 rfl ?_
        refine V_iload_n X dX12_rains_15 rfl ?_
        refine V_callV (rest := []) X (c_X12_deep (Cl C) G a tx to dr be S1 P_1 im ke no fa tr ty k_2 nd att so ss va c (by first | assumption | omega) (by first | assumption | omega)) mi_X12_deep kw_4_84 kw_4_86 kw_s_33 dX12_rains_16 [0] rfl (by decide) 0 0 rfl rfl rfl rfl rfl rfl (by decide) (Nat.le_of_ble_eq_true rfl) ⟨rfl, rfl⟩ (fun _ _ => ?_)
        show V C 0 0 [gMod G a (nF tx) (nF to) (nF dr) (nF be) (nF S1) (nF P_1) (nF im) (nF ke) (nF no) (nF fa) (lN tr) (nI ty) (nI k_2) (nI nd) (nI att) (nI so) (nI ss) (iI va)] 19 [some (.ref (a 0)), some (.int (nI y)), some (.int (nI c)), none, none] [.int (nI (S1 (5 + c) % 16))]
        have J_27_5 : ∀ (w : Nat) (hw : (w = 1 ∧ 0 < s (5 + c) % 16) ∨ (w = 0 ∧ s (5 + c) % 16 = 0)), V C 0 0 [gMod G a (nF tx) (nF to) (nF dr) (nF be) (nF S1) (nF P_1) (nF im) (nF ke) (nF no) (nF fa) (lN tr) (nI ty) (nI k_2) (nI nd) (nI att) (nI so) (nI ss) (iI va)] 27 [some (.ref (a 0)), some (.int (nI y)), some (.int (nI c)), none, none] [.int (nI w)] := by
          intro w hw
          refine V_istore_n X dX12_rains_27 (by decide) rfl ?_
          refine V_aload_n X dX12_rains_28 rfl ?_
          refine V_iload_n X dX12_rains_29 rfl ?_
          refine V_callV (rest := []) X (c_X12_deep (Cl C) G a tx to dr be S1 P_1 im ke no fa tr ty k_2 nd att so ss va c (by first | assumption | omega) (by first | assumption | omega)) mi_X12_deep kw_4_84 kw_4_86 kw_s_33 dX12_rains_30 [0] rfl (by decide) 0 0 rfl rfl rfl rfl rfl rfl (by decide) (Nat.le_of_ble_eq_true rfl) ⟨rfl, rfl⟩ (fun _ _ => ?_)
          show V C 0 0 [gMod G a (nF tx) (nF to) (nF dr) (nF be) (nF S1) (nF P_1) (nF im) (nF ke) (nF no) (nF fa) (lN tr) (nI ty) (nI k_2) (nI nd) (nI att) (nI so) (nI ss) (iI va)] 33 [some (.ref (a 0)), some (.int (nI y)), some (.int (nI c)), some (.int (nI w)), none] [.int (nI (S1 (5 + c) % 16))]
          refine V_aload_n X dX12_rains_33 rfl ?_
          refine V_get X fl_X12_13 0 0 rfl rfl rfl dX12_rains_34 ?_
          refine V_iconst X (nI 1) dX12_rains_37 (by decide) ?_
          refine V_ialdN X 0 2 rfl rfl (by decide) (by decide) dX12_rains_38 ?_
          have J_47_6 : ∀ (b : Nat) (hb : (b = 1 ∧ to 1 < s (5 + c) % 16) ∨ (b = 0 ∧ s (5 + c) % 16 ≤ to 1)), V C 0 0 [gMod G a (nF tx) (nF to) (nF dr) (nF be) (nF S1) (nF P_1) (nF im) (nF ke) (nF no) (nF fa) (lN tr) (nI ty) (nI k_2) (nI nd) (nI att) (nI so) (nI ss) (iI va)] 47 [some (.ref (a 0)), some (.int (nI y)), some (.int (nI c)), some (.int (nI w)), none] [.int (nI b)] := by
            intro b hb
            refine V_istore X dX12_rains_47 (by decide) rfl ?_
            refine V_aload_n X dX12_rains_49 rfl ?_
            refine V_get X fl_X12_22 0 0 rfl rfl rfl dX12_rains_50 ?_
            refine V_iconst X (nI 5) dX12_rains_53 (by decide) ?_
            refine V_iload_n X dX12_rains_54 rfl ?_
            refine V_iaddN X dX12_rains_55 ?_
            refine V_iload X dX12_rains_56 rfl ?_
            have J_80_7 : ∀ (v : Nat) (hv : v = rnV to s c), V C 0 0 [gMod G a (nF tx) (nF to) (nF dr) (nF be) (nF S1) (nF P_1) (nF im) (nF ke) (nF no) (nF fa) (lN tr) (nI ty) (nI k_2) (nI nd) (nI att) (nI so) (nI ss) (iI va)] 80 [some (.ref (a 0)), some (.int (nI y)), some (.int (nI c)), some (.int (nI w)), some (.int (nI b))] [.int (nI v), .int (nI (5 + c)), .ref (a 5)] := by
              intro v hv
              refine V_iastN X 0 5 rfl rfl (by omega) (by decide) dX12_rains_80 ?_
              show V C 0 0 [gMod G a (nF tx) (nF to) (nF dr) (nF be) (nF (va_up S1 (5 + c) v)) (nF P_1) (nF im) (nF ke) (nF no) (nF fa) (lN tr) (nI ty) (nI k_2) (nI nd) (nI att) (nI so) (nI ss) (iI va)] 81 [some (.ref (a 0)), some (.int (nI y)), some (.int (nI c)), some (.int (nI w)), some (.int (nI b))] []
              refine V_iload_n X dX12_rains_81 rfl ?_
              refine V_iload_n X dX12_rains_82 rfl ?_
              have J_96_8 : ∀ (e : Nat) (he : e = if 0 < s (5 + c) % 16 ∧ s (5 + c) % 16 ≤ to 1 then 1 else 0) (he1 : e ≤ 1), V C 0 0 [gMod G a (nF tx) (nF to) (nF dr) (nF be) (nF (va_up S1 (5 + c) v)) (nF P_1) (nF im) (nF ke) (nF no) (nF fa) (lN tr) (nI ty) (nI k_2) (nI nd) (nI att) (nI so) (nI ss) (iI va)] 96 [some (.ref (a 0)), some (.int (nI y)), some (.int (nI c)), some (.int (nI w)), some (.int (nI b))] [.int (nI e), .int (nI y)] := by
                intro e he he1
                refine V_iaddN X dX12_rains_96 ?_
                refine V_istore_n X dX12_rains_97 (by decide) rfl ?_
                refine V_iincN X (c := 1) dX12_rains_98 rfl (by decide) rfl ?_
                refine V_goto X 8 dX12_rains_101 (by decide) ?_
                refine V_weak (lv' := [some (.ref (a 0)), some (.int (nI (y + e))), some (.int (nI (c + 1))), none, none]) (And.intro rfl (And.intro rfl (And.intro rfl trivial))) ?_
                exact ih_8 (y + e) (c + 1) (va_up S1 (5 + c) v) (by omega) (by rw [hy, he]; rfl) (rnS_up hS hv) (hd_up hdS (by rw [hv]; simp only [rnV]; split <;> omega)) (by omega)
              refine V_if_eqN X 95 dX12_rains_83 (by decide) (by omega) (fun c_8 => ?_) (fun c_8 => ?_)
              · refine V_iconst X (nI 0) dX12_rains_95 (by decide) ?_
                refine V_weak (lv' := [some (.ref (a 0)), some (.int (nI y)), some (.int (nI c)), some (.int (nI w)), some (.int (nI b))]) (And.intro rfl (And.intro rfl (And.intro rfl (And.intro rfl (And.intro rfl trivial))))) ?_
                exact J_96_8 0 (by first | rw [if_pos (by omega)] | rw [if_neg (by omega)]) (by omega)
              · refine V_iload X dX12_rains_86 rfl ?_
                refine V_if_neN X 95 dX12_rains_88 (by decide) (by omega) (fun c_9 => ?_) (fun c_9 => ?_)
                · refine V_iconst X (nI 0) dX12_rains_95 (by decide) ?_
                  refine V_weak (lv' := [some (.ref (a 0)), some (.int (nI y)), some (.int (nI c)), some (.int (nI w)), some (.int (nI b))]) (And.intro rfl (And.intro rfl (And.intro rfl (And.intro rfl (And.intro rfl trivial))))) ?_
                  exact J_96_8 0 (by first | rw [if_pos (by omega)] | rw [if_neg (by omega)]) (by omega)
                · refine V_iconst X (nI 1) dX12_rains_91 (by decide) ?_
                  refine V_goto X 96 dX12_rains_92 (by decide) ?_
                  refine V_weak (lv' := [some (.ref (a 0)), some (.int (nI y)), some (.int (nI c)), some (.int (nI w)), some (.int (nI b))]) (And.intro rfl (And.intro rfl (And.intro rfl (And.intro rfl (And.intro rfl trivial))))) ?_
                  exact J_96_8 1 (by first | rw [if_pos (by omega)] | rw [if_neg (by omega)]) (by omega)
            refine V_if_eqN X 79 dX12_rains_58 (by decide) (by omega) (fun c_7 => ?_) (fun c_7 => ?_)
            · refine V_iconst X (nI 0) dX12_rains_79 (by decide) ?_
              refine V_weak (lv' := [some (.ref (a 0)), some (.int (nI y)), some (.int (nI c)), some (.int (nI w)), some (.int (nI b))]) (And.intro rfl (And.intro rfl (And.intro rfl (And.intro rfl (And.intro rfl trivial))))) ?_
              exact J_80_7 0 (by simp only [rnV]; first | (rw [if_pos (by omega)]; omega) | rw [if_neg (by omega)])
            · refine V_aload_n X dX12_rains_61 rfl ?_
              refine V_get X fl_X12_22 0 0 rfl rfl rfl dX12_rains_62 ?_
              refine V_iconst X (nI 5) dX12_rains_65 (by decide) ?_
              refine V_iload_n X dX12_rains_66 rfl ?_
              refine V_iaddN X dX12_rains_67 ?_
              refine V_ialdN X 0 5 rfl rfl (by omega) (by decide) dX12_rains_68 ?_
              refine V_aload_n X dX12_rains_69 rfl ?_
              refine V_get X fl_X12_13 0 0 rfl rfl rfl dX12_rains_70 ?_
              refine V_iconst X (nI 1) dX12_rains_73 (by decide) ?_
              refine V_ialdN X 0 2 rfl rfl (by decide) (by decide) dX12_rains_74 ?_
              refine V_isubN X dX12_rains_75 (by omega) ?_
              refine V_goto X 80 dX12_rains_76 (by decide) ?_
              refine V_weak (lv' := [some (.ref (a 0)), some (.int (nI y)), some (.int (nI c)), some (.int (nI w)), some (.int (nI b))]) (And.intro rfl (And.intro rfl (And.intro rfl (And.intro rfl (And.intro rfl trivial))))) ?_
              exact J_80_7 ((S1 (5 + c)) - (to 1)) (by simp only [rnV]; first | (rw [if_pos (by omega)]; omega) | rw [if_neg (by omega)])
          refine V_icmp_leN X 46 dX12_rains_39 (by decide) (by omega) (by omega) (fun c_6 => ?_) (fun c_6 => ?_)
          · refine V_iconst X (nI 0) dX12_rains_46 (by decide) ?_
            refine V_weak (lv' := [some (.ref (a 0)), some (.int (nI y)), some (.int (nI c)), some (.int (nI w)), none]) (And.intro rfl (And.intro rfl (And.intro rfl (And.intro rfl trivial)))) ?_
            exact J_47_6 0 (by omega)
          · refine V_iconst X (nI 1) dX12_rains_42 (by decide) ?_
            refine V_goto X 47 dX12_rains_43 (by decide) ?_
            refine V_weak (lv' := [some (.ref (a 0)), some (.int (nI y)), some (.int (nI c)), some (.int (nI w)), none]) (And.intro rfl (And.intro rfl (And.intro rfl (And.intro rfl trivial)))) ?_
            exact J_47_6 1 (by omega)
        refine V_if_leN X 26 dX12_rains_19 (by decide) (by omega) (fun c_5 => ?_) (fun c_5 => ?_)
        · refine V_iconst X (nI 0) dX12_rains_26 (by decide) ?_
          refine V_weak (lv' := [some (.ref (a 0)), some (.int (nI y)), some (.int (nI c)), none, none]) (And.intro rfl (And.intro rfl (And.intro rfl trivial))) ?_
          exact J_27_5 0 (by omega)
        · refine V_iconst X (nI 1) dX12_rains_22 (by decide) ?_
          refine V_goto X 27 dX12_rains_23 (by decide) ?_
          refine V_weak (lv' := [some (.ref (a 0)), some (.int (nI y)), some (.int (nI c)), none, none]) (And.intro rfl (And.intro rfl (And.intro rfl trivial))) ?_
          exact J_27_5 1 (by omega)
  refine V_weak (lv' := [some (.ref (a 0)), some (.int (nI 0)), some (.int (nI 0)), none, none]) (And.intro rfl (And.intro rfl (And.intro rfl trivial))) ?_
  exact L_8 _ 0 0 s (by omega) rfl (rnS_0 to s) hde (Nat.lt_succ_self _)
set_option maxHeartbeats 4000000 in
set_option maxRecDepth 100000 in
theorem c_X12_corner (l : Launch) (G : mvG) (t : Nat) (ht : t < 25) : KQ l yX12_corner cX12_corner 1 (some .int) (0, 0) G [.int (nI t)] [] (fun (_ : Unit) => some (.int (nI (6 * (t / 5) + t % 5)))) (fun (_ : Unit) => True) (fun (_ : Unit) => []) := by
  refine KQ.mk (by decide +kernel) (fun _ _ => rfl) [some (.int (nI t))] (Nat.le_of_ble_eq_true rfl) rfl (fun C X Y hC => ?_)
  subst hC
  refine V_bipush X (nI 6) dX12_corner_0 (by decide) ?_
  refine V_iload_n X dX12_corner_2 rfl ?_
  refine V_iconst X (nI 5) dX12_corner_3 (by decide) ?_
  refine V_idivN X dX12_corner_4 (by omega) (by omega) (by omega) ?_
  refine V_imulN X dX12_corner_5 ?_
  refine V_iload_n X dX12_corner_6 rfl ?_
  refine V_iconst X (nI 5) dX12_corner_7 (by decide) ?_
  refine V_iremN X dX12_corner_8 (by omega) (by omega) (by omega) ?_
  refine V_iaddN X dX12_corner_9 ?_
  exact V_iret X Y () trivial (mv_rn (by rfl)) rfl rfl dX12_corner_10
set_option maxHeartbeats 4000000 in
set_option maxRecDepth 100000 in
theorem c_X12_inTray (l : Launch) (G : mvG) (a : Nat → Nat) (tx : Nat → Nat) (to : Nat → Nat) (dr : Nat → Nat) (be : Nat → Nat) (s : Nat → Nat) (pa : Nat → Nat) (im : Nat → Nat) (ke : Nat → Nat) (no : Nat → Nat) (fa : Nat → Nat) (tr : Nat) (ty : Nat) (kn : Nat) (nd : Nat) (att : Nat) (so : Nat) (ss : Nat) (va : Int) (t : Nat) (hde : ∀ c, c < 36 → s (5 + c) < 80 ∧ s (5 + c) % 16 ≤ 9) (ht : t < 25) : KQ l yX12_inTray cX12_inTray 3 (some .int) (1, 21) G [.ref (a 0), .int (nI t)] [gMod G a (nF tx) (nF to) (nF dr) (nF be) (nF s) (nF pa) (nF im) (nF ke) (nF no) (nF fa) (lN tr) (nI ty) (nI kn) (nI nd) (nI att) (nI so) (nI ss) (iI va)] (fun (_ : Unit) => some (.int (nI (trT (fun c => s (5 + c) % 16) t)))) (fun (_ : Unit) => True) (fun (_ : Unit) => [gMod G a (nF tx) (nF to) (nF dr) (nF be) (nF s) (nF pa) (nF im) (nF ke) (nF no) (nF fa) (lN tr) (nI ty) (nI kn) (nI nd) (nI att) (nI so) (nI ss) (iI va)]) := by
  refine KQ.mk (by decide +kernel) (fun _ _ => rfl) [some (.ref (a 0)), some (.int (nI t)), none] (Nat.le_of_ble_eq_true rfl) rfl (fun C X Y hC => ?_)
  subst hC
  refine V_iload_n X dX12_inTray_0 rfl ?_
  refine V_callS (rest := []) X (c_X12_corner (Cl C) G t (by first | assumption | omega)) mi_X12_corner kw_4_165 kw_4_166 dX12_inTray_1 [] rfl (by decide) rfl rfl (by decide) (Nat.le_of_ble_eq_true rfl) ⟨rfl, rfl⟩ (fun _ _ => ?_)
  show V C 0 0 [gMod G a (nF tx) (nF to) (nF dr) (nF be) (nF s) (nF pa) (nF im) (nF ke) (nF no) (nF fa) (lN tr) (nI ty) (nI kn) (nI nd) (nI att) (nI so) (nI ss) (iI va)] 4 [some (.ref (a 0)), some (.int (nI t)), none] [.int (nI (6 * (t / 5) + t % 5))]
  refine V_istore_n X dX12_inTray_4 (by decide) rfl ?_
  refine V_aload_n X dX12_inTray_5 rfl ?_
  refine V_iload_n X dX12_inTray_6 rfl ?_
  refine V_callV (rest := []) X (c_X12_deep (Cl C) G a tx to dr be s pa im ke no fa tr ty kn nd att so ss va (6 * (t / 5) + t % 5) (by first | assumption | omega) (by first | assumption | omega)) mi_X12_deep kw_4_84 kw_4_86 kw_s_33 dX12_inTray_7 [0] rfl (by decide) 0 0 rfl rfl rfl rfl rfl rfl (by decide) (Nat.le_of_ble_eq_true rfl) ⟨rfl, rfl⟩ (fun _ _ => ?_)
  show V C 0 0 [gMod G a (nF tx) (nF to) (nF dr) (nF be) (nF s) (nF pa) (nF im) (nF ke) (nF no) (nF fa) (lN tr) (nI ty) (nI kn) (nI nd) (nI att) (nI so) (nI ss) (iI va)] 10 [some (.ref (a 0)), some (.int (nI t)), some (.int (nI (6 * (t / 5) + t % 5)))] [.int (nI (s (5 + (6 * (t / 5) + t % 5)) % 16))]
  refine V_aload_n X dX12_inTray_10 rfl ?_
  refine V_iload_n X dX12_inTray_11 rfl ?_
  refine V_iconst X (nI 1) dX12_inTray_12 (by decide) ?_
  refine V_iaddN X dX12_inTray_13 ?_
  refine V_callV (rest := [.int (nI (s (5 + (6 * (t / 5) + t % 5)) % 16))]) X (c_X12_deep (Cl C) G a tx to dr be s pa im ke no fa tr ty kn nd att so ss va ((6 * (t / 5) + t % 5) + 1) (by first | assumption | omega) (by first | assumption | omega)) mi_X12_deep kw_4_84 kw_4_86 kw_s_33 dX12_inTray_14 [0] rfl (by decide) 0 0 rfl rfl rfl rfl rfl rfl (by decide) (Nat.le_of_ble_eq_true rfl) ⟨rfl, rfl⟩ (fun _ _ => ?_)
  show V C 0 0 [gMod G a (nF tx) (nF to) (nF dr) (nF be) (nF s) (nF pa) (nF im) (nF ke) (nF no) (nF fa) (lN tr) (nI ty) (nI kn) (nI nd) (nI att) (nI so) (nI ss) (iI va)] 17 [some (.ref (a 0)), some (.int (nI t)), some (.int (nI (6 * (t / 5) + t % 5)))] [.int (nI (s (5 + ((6 * (t / 5) + t % 5) + 1)) % 16)), .int (nI (s (5 + (6 * (t / 5) + t % 5)) % 16))]
  refine V_iaddN X dX12_inTray_17 ?_
  refine V_aload_n X dX12_inTray_18 rfl ?_
  refine V_iload_n X dX12_inTray_19 rfl ?_
  refine V_bipush X (nI 6) dX12_inTray_20 (by decide) ?_
  refine V_iaddN X dX12_inTray_22 ?_
  refine V_callV (rest := [.int (nI ((s (5 + (6 * (t / 5) + t % 5)) % 16) + (s (5 + ((6 * (t / 5) + t % 5) + 1)) % 16)))]) X (c_X12_deep (Cl C) G a tx to dr be s pa im ke no fa tr ty kn nd att so ss va ((6 * (t / 5) + t % 5) + 6) (by first | assumption | omega) (by first | assumption | omega)) mi_X12_deep kw_4_84 kw_4_86 kw_s_33 dX12_inTray_23 [0] rfl (by decide) 0 0 rfl rfl rfl rfl rfl rfl (by decide) (Nat.le_of_ble_eq_true rfl) ⟨rfl, rfl⟩ (fun _ _ => ?_)
  show V C 0 0 [gMod G a (nF tx) (nF to) (nF dr) (nF be) (nF s) (nF pa) (nF im) (nF ke) (nF no) (nF fa) (lN tr) (nI ty) (nI kn) (nI nd) (nI att) (nI so) (nI ss) (iI va)] 26 [some (.ref (a 0)), some (.int (nI t)), some (.int (nI (6 * (t / 5) + t % 5)))] [.int (nI (s (5 + ((6 * (t / 5) + t % 5) + 6)) % 16)), .int (nI ((s (5 + (6 * (t / 5) + t % 5)) % 16) + (s (5 + ((6 * (t / 5) + t % 5) + 1)) % 16)))]
  refine V_iaddN X dX12_inTray_26 ?_
  refine V_aload_n X dX12_inTray_27 rfl ?_
  refine V_iload_n X dX12_inTray_28 rfl ?_
  refine V_bipush X (nI 6) dX12_inTray_29 (by decide) ?_
  refine V_iaddN X dX12_inTray_31 ?_
  refine V_iconst X (nI 1) dX12_inTray_32 (by decide) ?_
  refine V_iaddN X dX12_inTray_33 ?_
  refine V_callV (rest := [.int (nI (((s (5 + (6 * (t / 5) + t % 5)) % 16) + (s (5 + ((6 * (t / 5) + t % 5) + 1)) % 16)) + (s (5 + ((6 * (t / 5) + t % 5) + 6)) % 16)))]) X (c_X12_deep (Cl C) G a tx to dr be s pa im ke no fa tr ty kn nd att so ss va (((6 * (t / 5) + t % 5) + 6) + 1) (by first | assumption | omega) (by first | assumption | omega)) mi_X12_deep kw_4_84 kw_4_86 kw_s_33 dX12_inTray_34 [0] rfl (by decide) 0 0 rfl rfl rfl rfl rfl rfl (by decide) (Nat.le_of_ble_eq_true rfl) ⟨rfl, rfl⟩ (fun _ _ => ?_)
  show V C 0 0 [gMod G a (nF tx) (nF to) (nF dr) (nF be) (nF s) (nF pa) (nF im) (nF ke) (nF no) (nF fa) (lN tr) (nI ty) (nI kn) (nI nd) (nI att) (nI so) (nI ss) (iI va)] 37 [some (.ref (a 0)), some (.int (nI t)), some (.int (nI (6 * (t / 5) + t % 5)))] [.int (nI (s (5 + (((6 * (t / 5) + t % 5) + 6) + 1)) % 16)), .int (nI (((s (5 + (6 * (t / 5) + t % 5)) % 16) + (s (5 + ((6 * (t / 5) + t % 5) + 1)) % 16)) + (s (5 + ((6 * (t / 5) + t % 5) + 6)) % 16)))]
  refine V_iaddN X dX12_inTray_37 ?_
  exact V_iret X Y () trivial (mv_rn (by rfl)) rfl rfl dX12_inTray_38
set_option maxHeartbeats 4000000 in
set_option maxRecDepth 100000 in
theorem c_X12_lifts (l : Launch) (G : mvG) (a : Nat → Nat) (tx : Nat → Nat) (to : Nat → Nat) (dr : Nat → Nat) (be : Nat → Nat) (s : Nat → Nat) (pa : Nat → Nat) (im : Nat → Nat) (ke : Nat → Nat) (no : Nat → Nat) (fa : Nat → Nat) (tr : Nat) (ty : Nat) (kn : Nat) (nd : Nat) (att : Nat) (so : Nat) (ss : Nat) (va : Int) (x : Int) (y : Int) (hde : ∀ c, c < 36 → s (5 + c) < 80 ∧ s (5 + c) % 16 ≤ 9) (hkn : kn ≤ 10) (hsv : s 41 ≤ 999) (hx : -2147483648 ≤ x ∧ x < 2147483648) (hy : -2147483648 ≤ y ∧ y < 2147483648) : KQ l yX12_lifts cX12_lifts 5 (some .int) (2, 43) G [.ref (a 0), .int (iI x), .int (iI y)] [gMod G a (nF tx) (nF to) (nF dr) (nF be) (nF s) (nF pa) (nF im) (nF ke) (nF no) (nF fa) (lN tr) (nI ty) (nI kn) (nI nd) (nI att) (nI so) (nI ss) (iI va)] (fun (zz : Int × (Nat → Nat) × (Nat → Nat) × Nat) => some (.int (iI zz.1))) (fun (zz : Int × (Nat → Nat) × (Nat → Nat) × Nat) => ((x < 0 ∨ 4 < x ∨ y < 0 ∨ 4 < y) ∧ (zz.1 : Int) = -1 ∧ zz.2.1 = s ∧ zz.2.2.1 = pa ∧ zz.2.2.2 = kn) ∨ ((0 ≤ x ∧ x < 5 ∧ 0 ≤ y ∧ y < 5) ∧ tray (fun c => s (5 + c) % 16) (6 * x.toNat + y.toNat) = 0 ∧ (zz.1 : Int) = -2 ∧ zz.2.1 = s ∧ zz.2.2.1 = pa ∧ zz.2.2.2 = kn) ∨ ((0 ≤ x ∧ x < 5 ∧ 0 ≤ y ∧ y < 5) ∧ ¬ tray (fun c => s (5 + c) % 16) (6 * x.toNat + y.toNat) = 0 ∧ KP s pa kn zz.2.2.1 zz.2.2.2 ∧ (zz.1 : Int) = (tray (fun c => s (5 + c) % 16) (6 * x.toNat + y.toNat) : Nat) ∧ zz.2.1 = lfS s (6 * x.toNat + y.toNat) (tray (fun c => s (5 + c) % 16) (6 * x.toNat + y.toNat)))) (fun (zz : Int × (Nat → Nat) × (Nat → Nat) × Nat) => [gMod G a (nF tx) (nF to) (nF dr) (nF be) (nF zz.2.1) (nF zz.2.2.1) (nF im) (nF ke) (nF no) (nF fa) (lN tr) (nI ty) (nI zz.2.2.2) (nI nd) (nI att) (nI so) (nI ss) (iI va)]) := by
  refine KQ.mk (by decide +kernel) (fun _ _ => rfl) [some (.ref (a 0)), some (.int (iI x)), some (.int (iI y)), none, none] (Nat.le_of_ble_eq_true rfl) rfl (fun C X Y hC => ?_)
  subst hC
  refine V_iload_n X dX12_lifts_0 rfl ?_
  refine V_iconst X (nI 0) dX12_lifts_1 (by decide) ?_
  refine V_iconst X (nI 4) dX12_lifts_2 (by decide) ?_
  refine V_callS (rest := []) X (c_X12_in (Cl C) G x ((0 : Nat) : Int) ((4 : Nat) : Int) (by first | assumption | omega) (by first | assumption | omega) (by first | assumption | omega)) mi_X12_in kw_3_235 kw_3_236 dX12_lifts_3 [] rfl (by decide) rfl rfl (by decide) (Nat.le_of_ble_eq_true rfl) ⟨rfl, rfl⟩ (fun u_ hu_2 => ?_)
  obtain ⟨b_1, rfl⟩ : ∃ z, z = u_ := ⟨_, rfl⟩
  have hu_2 : (b_1 = 1 ∧ ((0 : Nat) : Int) ≤ x ∧ x ≤ ((4 : Nat) : Int)) ∨ (b_1 = 0 ∧ (x < ((0 : Nat) : Int) ∨ ((4 : Nat) : Int) < x)) := hu_2
  show V C 0 0 [gMod G a (nF tx) (nF to) (nF dr) (nF be) (nF s) (nF pa) (nF im) (nF ke) (nF no) (nF fa) (lN tr) (nI ty) (nI kn) (nI nd) (nI att) (nI so) (nI ss) (iI va)] 6 [some (.ref (a 0)), some (.int (iI x)), some (.int (iI y)), none, none] [.int (nI b_1)]
  refine V_if_eqN X 18 dX12_lifts_6 (by decide) (by omega) (fun c_3 => ?_) (fun c_3 => ?_)
  · refine V_iconst X (-1) dX12_lifts_18 (by decide) ?_
    exact V_iret X Y ⟨-1, s, pa, kn⟩ (show ((x < 0 ∨ 4 < x ∨ y < 0 ∨ 4 < y) ∧ ((-1) : Int) = -1 ∧ s = s ∧ pa = pa ∧ kn = kn) ∨ ((0 ≤ x ∧ x < 5 ∧ 0 ≤ y ∧ y < 5) ∧ tray (fun c => s (5 + c) % 16) (6 * x.toNat + y.toNat) = 0 ∧ ((-1) : Int) = -2 ∧ s = s ∧ pa = pa ∧ kn = kn) ∨ ((0 ≤ x ∧ x < 5 ∧ 0 ≤ y ∧ y < 5) ∧ ¬ tray (fun c => s (5 + c) % 16) (6 * x.toNat + y.toNat) = 0 ∧ KP s pa kn pa kn ∧ ((-1) : Int) = (tray (fun c => s (5 + c) % 16) (6 * x.toNat + y.toNat) : Nat) ∧ s = lfS s (6 * x.toNat + y.toNat) (tray (fun c => s (5 + c) % 16) (6 * x.toNat + y.toNat))) from Or.inl ⟨by omega, rfl, rfl, rfl, rfl⟩) (mv_ri (by rfl)) rfl rfl dX12_lifts_19
  · refine V_iload_n X dX12_lifts_9 rfl ?_
    refine V_iconst X (nI 0) dX12_lifts_10 (by decide) ?_
    refine V_iconst X (nI 4) dX12_lifts_11 (by decide) ?_
    refine V_callS (rest := []) X (c_X12_in (Cl C) G y ((0 : Nat) : Int) ((4 : Nat) : Int) (by first | assumption | omega) (by first | assumption | omega) (by first | assumption | omega)) mi_X12_in kw_3_235 kw_3_236 dX12_lifts_12 [] rfl (by decide) rfl rfl (by decide) (Nat.le_of_ble_eq_true rfl) ⟨rfl, rfl⟩ (fun u_ hu_5 => ?_)
    obtain ⟨b_4, rfl⟩ : ∃ z, z = u_ := ⟨_, rfl⟩
    have hu_5 : (b_4 = 1 ∧ ((0 : Nat) : Int) ≤ y ∧ y ≤ ((4 : Nat) : Int)) ∨ (b_4 = 0 ∧ (y < ((0 : Nat) : Int) ∨ ((4 : Nat) : Int) < y)) := hu_5
    show V C 0 0 [gMod G a (nF tx) (nF to) (nF dr) (nF be) (nF s) (nF pa) (nF im) (nF ke) (nF no) (nF fa) (lN tr) (nI ty) (nI kn) (nI nd) (nI att) (nI so) (nI ss) (iI va)] 15 [some (.ref (a 0)), some (.int (iI x)), some (.int (iI y)), none, none] [.int (nI b_4)]
    refine V_if_neN X 20 dX12_lifts_15 (by decide) (by omega) (fun c_6 => ?_) (fun c_6 => ?_)
    · refine V_loc (y := (nI x.toNat)) 1 rfl (mv_sn (by omega)) ?_
      refine V_loc (y := (nI y.toNat)) 2 rfl (mv_sn (by omega)) ?_
      have htt : trT (fun c => s (5 + c) % 16) (5 * x.toNat + y.toNat) = tray (fun c => s (5 + c) % 16) (6 * x.toNat + y.toNat) := by simp only [trT]; rw [show 6 * ((5 * x.toNat + y.toNat) / 5) + (5 * x.toNat + y.toNat) % 5 = 6 * x.toNat + y.toNat by omega]
      have htr := trT_le36 (s := s) hde (t := 5 * x.toNat + y.toNat) (by omega)
      refine V_aload_n X dX12_lifts_20 rfl ?_
      refine V_iconst X (nI 5) dX12_lifts_21 (by decide) ?_
      refine V_iload_n X dX12_lifts_22 rfl ?_
      refine V_imulN X dX12_lifts_23 ?_
      refine V_iload_n X dX12_lifts_24 rfl ?_
      refine V_iaddN X dX12_lifts_25 ?_
      refine V_callV (rest := []) X (c_X12_inTray (Cl C) G a tx to dr be s pa im ke no fa tr ty kn nd att so ss va ((5 * x.toNat) + y.toNat) (by first | assumption | omega) (by first | assumption | omega)) mi_X12_inTray kw_4_161 kw_4_163 kw_s_44 dX12_lifts_26 [0] rfl (by decide) 0 0 rfl rfl rfl rfl rfl rfl (by decide) (Nat.le_of_ble_eq_true rfl) ⟨rfl, rfl⟩ (fun _ _ => ?_)
      show V C 0 0 [gMod G a (nF tx) (nF to) (nF dr) (nF be) (nF s) (nF pa) (nF im) (nF ke) (nF no) (nF fa) (lN tr) (nI ty) (nI kn) (nI nd) (nI att) (nI so) (nI ss) (iI va)] 29 [some (.ref (a 0)), some (.int (nI x.toNat)), some (.int (nI y.toNat)), none, none] [.int (nI (trT (fun c => s (5 + c) % 16) ((5 * x.toNat) + y.toNat)))]
      refine V_istore_n X dX12_lifts_29 (by decide) rfl ?_
      refine V_iload_n X dX12_lifts_30 rfl ?_
      refine V_if_neN X 37 dX12_lifts_31 (by decide) (by omega) (fun c_7 => ?_) (fun c_7 => ?_)
      · refine V_aload_n X dX12_lifts_37 rfl ?_
        refine V_callV (rest := []) X (c_X12_keeps (Cl C) G a tx to dr be s pa im ke no fa tr ty kn nd att so ss va (by first | assumption | omega)) mi_X12_keeps kw_4_141 kw_4_143 kw_s_42 dX12_lifts_38 [0] rfl (by decide) 0 0 rfl rfl rfl rfl rfl rfl (by decide) (Nat.le_of_ble_eq_true rfl) ⟨rfl, rfl⟩ (fun u_ hu_10 => ?_)
        obtain ⟨P_8, k_9⟩ := u_
        have hu_10 : KP s pa kn P_8 k_9 := hu_10
        show V C 0 0 [gMod G a (nF tx) (nF to) (nF dr) (nF be) (nF s) (nF P_8) (nF im) (nF ke) (nF no) (nF fa) (lN tr) (nI ty) (nI k_9) (nI nd) (nI att) (nI so) (nI ss) (iI va)] 41 [some (.ref (a 0)), some (.int (nI x.toNat)), some (.int (nI y.toNat)), some (.int (nI (trT (fun c => s (5 + c) % 16) ((5 * x.toNat) + y.toNat)))), none] []
        have hkp := hu_10
        have hkl := KP_le hkp
        refine V_bipush X (nI 6) dX12_lifts_41 (by decide) ?_
        refine V_iload_n X dX12_lifts_43 rfl ?_
        refine V_imulN X dX12_lifts_44 ?_
        refine V_iload_n X dX12_lifts_45 rfl ?_
        refine V_iaddN X dX12_lifts_46 ?_
        refine V_istore X dX12_lifts_47 (by decide) rfl ?_
        refine V_aload_n X dX12_lifts_49 rfl ?_
        refine V_get X fl_X12_22 0 0 rfl rfl rfl dX12_lifts_50 ?_
        refine V_iconst X (nI 5) dX12_lifts_53 (by decide) ?_
        refine V_iload X dX12_lifts_54 rfl ?_
        refine V_iaddN X dX12_lifts_56 ?_
        refine V_iconst X (nI 0) dX12_lifts_57 (by decide) ?_
        refine V_iastN X 0 5 rfl rfl (by omega) (by decide) dX12_lifts_58 ?_
        show V C 0 0 [gMod G a (nF tx) (nF to) (nF dr) (nF be) (nF (va_up s (5 + ((6 * x.toNat) + y.toNat)) 0)) (nF P_8) (nF im) (nF ke) (nF no) (nF fa) (lN tr) (nI ty) (nI k_9) (nI nd) (nI att) (nI so) (nI ss) (iI va)] 59 [some (.ref (a 0)), some (.int (nI x.toNat)), some (.int (nI y.toNat)), some (.int (nI (trT (fun c => s (5 + c) % 16) ((5 * x.toNat) + y.toNat)))), some (.int (nI ((6 * x.toNat) + y.toNat)))] []
        refine V_aload_n X dX12_lifts_59 rfl ?_
        refine V_get X fl_X12_22 0 0 rfl rfl rfl dX12_lifts_60 ?_
        refine V_iconst X (nI 5) dX12_lifts_63 (by decide) ?_
        refine V_iload X dX12_lifts_64 rfl ?_
        refine V_iaddN X dX12_lifts_66 ?_
        refine V_iconst X (nI 1) dX12_lifts_67 (by decide) ?_
        refine V_iaddN X dX12_lifts_68 ?_
        refine V_iconst X (nI 0) dX12_lifts_69 (by decide) ?_
        refine V_iastN X 0 5 rfl rfl (by omega) (by decide) dX12_lifts_70 ?_
        show V C 0 0 [gMod G a (nF tx) (nF to) (nF dr) (nF be) (nF (va_up (va_up s (5 + ((6 * x.toNat) + y.toNat)) 0) ((5 + ((6 * x.toNat) + y.toNat)) + 1) 0)) (nF P_8) (nF im) (nF ke) (nF no) (nF fa) (lN tr) (nI ty) (nI k_9) (nI nd) (nI att) (nI so) (nI ss) (iI va)] 71 [some (.ref (a 0)), some (.int (nI x.toNat)), some (.int (nI y.toNat)), some (.int (nI (trT (fun c => s (5 + c) % 16) ((5 * x.toNat) + y.toNat)))), some (.int (nI ((6 * x.toNat) + y.toNat)))] []
        refine V_aload_n X dX12_lifts_71 rfl ?_
        refine V_get X fl_X12_22 0 0 rfl rfl rfl dX12_lifts_72 ?_
        refine V_iconst X (nI 5) dX12_lifts_75 (by decide) ?_
        refine V_iload X dX12_lifts_76 rfl ?_
        refine V_iaddN X dX12_lifts_78 ?_
        refine V_bipush X (nI 6) dX12_lifts_79 (by decide) ?_
        refine V_iaddN X dX12_lifts_81 ?_
        refine V_iconst X (nI 0) dX12_lifts_82 (by decide) ?_
        refine V_iastN X 0 5 rfl rfl (by omega) (by decide) dX12_lifts_83 ?_
        show V C 0 0 [gMod G a (nF tx) (nF to) (nF dr) (nF be) (nF (va_up (va_up (va_up s (5 + ((6 * x.toNat) + y.toNat)) 0) ((5 + ((6 * x.toNat) + y.toNat)) + 1) 0) ((5 + ((6 * x.toNat) + y.toNat)) + 6) 0)) (nF P_8) (nF im) (nF ke) (nF no) (nF fa) (lN tr) (nI ty) (nI k_9) (nI nd) (nI att) (nI so) (nI ss) (iI va)] 84 [some (.ref (a 0)), some (.int (nI x.toNat)), some (.int (nI y.toNat)), some (.int (nI (trT (fun c => s (5 + c) % 16) ((5 * x.toNat) + y.toNat)))), some (.int (nI ((6 * x.toNat) + y.toNat)))] []
        refine V_aload_n X dX12_lifts_84 rfl ?_
        refine V_get X fl_X12_22 0 0 rfl rfl rfl dX12_lifts_85 ?_
        refine V_iconst X (nI 5) dX12_lifts_88 (by decide) ?_
        refine V_iload X dX12_lifts_89 rfl ?_
        refine V_iaddN X dX12_lifts_91 ?_
        refine V_bipush X (nI 6) dX12_lifts_92 (by decide) ?_
        refine V_iaddN X dX12_lifts_94 ?_
        refine V_iconst X (nI 1) dX12_lifts_95 (by decide) ?_
        refine V_iaddN X dX12_lifts_96 ?_
        refine V_iconst X (nI 0) dX12_lifts_97 (by decide) ?_
        refine V_iastN X 0 5 rfl rfl (by omega) (by decide) dX12_lifts_98 ?_
        show V C 0 0 [gMod G a (nF tx) (nF to) (nF dr) (nF be) (nF (va_up (va_up (va_up (va_up s (5 + ((6 * x.toNat) + y.toNat)) 0) ((5 + ((6 * x.toNat) + y.toNat)) + 1) 0) ((5 + ((6 * x.toNat) + y.toNat)) + 6) 0) (((5 + ((6 * x.toNat) + y.toNat)) + 6) + 1) 0)) (nF P_8) (nF im) (nF ke) (nF no) (nF fa) (lN tr) (nI ty) (nI k_9) (nI nd) (nI att) (nI so) (nI ss) (iI va)] 99 [some (.ref (a 0)), some (.int (nI x.toNat)), some (.int (nI y.toNat)), some (.int (nI (trT (fun c => s (5 + c) % 16) ((5 * x.toNat) + y.toNat)))), some (.int (nI ((6 * x.toNat) + y.toNat)))] []
        have h41 : (va_up (va_up (va_up (va_up s (5 + ((6 * x.toNat) + y.toNat)) 0) ((5 + ((6 * x.toNat) + y.toNat)) + 1) 0) ((5 + ((6 * x.toNat) + y.toNat)) + 6) 0) (((5 + ((6 * x.toNat) + y.toNat)) + 6) + 1) 0) 41 = s 41 := by simp only [va_up]; (repeat rw [if_neg (by omega)])
        refine V_aload_n X dX12_lifts_99 rfl ?_
        refine V_get X fl_X12_22 0 0 rfl rfl rfl dX12_lifts_100 ?_
        refine V_bipush X (nI 41) dX12_lifts_103 (by decide) ?_
        refine V_aload_n X dX12_lifts_105 rfl ?_
        refine V_get X fl_X12_22 0 0 rfl rfl rfl dX12_lifts_106 ?_
        refine V_bipush X (nI 41) dX12_lifts_109 (by decide) ?_
        refine V_ialdN X 0 5 rfl rfl (by decide) (by decide) dX12_lifts_111 ?_
        refine V_iload_n X dX12_lifts_112 rfl ?_
        refine V_iaddN X dX12_lifts_113 ?_
        refine V_sipush X (nI 999) dX12_lifts_114 (by decide) ?_
        have J_135_11 : ∀ (e : Nat) (he : e = min 999 (s 41 + tray (fun c => s (5 + c) % 16) (6 * x.toNat + y.toNat))), V C 0 0 [gMod G a (nF tx) (nF to) (nF dr) (nF be) (nF (va_up (va_up (va_up (va_up s (5 + ((6 * x.toNat) + y.toNat)) 0) ((5 + ((6 * x.toNat) + y.toNat)) + 1) 0) ((5 + ((6 * x.toNat) + y.toNat)) + 6) 0) (((5 + ((6 * x.toNat) + y.toNat)) + 6) + 1) 0)) (nF P_8) (nF im) (nF ke) (nF no) (nF fa) (lN tr) (nI ty) (nI k_9) (nI nd) (nI att) (nI so) (nI ss) (iI va)] 135 [some (.ref (a 0)), some (.int (nI x.toNat)), some (.int (nI y.toNat)), some (.int (nI (trT (fun c => s (5 + c) % 16) ((5 * x.toNat) + y.toNat)))), some (.int (nI ((6 * x.toNat) + y.toNat)))] [.int (nI e), .int (nI 41), .ref (a 5)] := by
          intro e he
          refine V_iastN X 0 5 rfl rfl (by decide) (by decide) dX12_lifts_135 ?_
          show V C 0 0 [gMod G a (nF tx) (nF to) (nF dr) (nF be) (nF (va_up (va_up (va_up (va_up (va_up s (5 + ((6 * x.toNat) + y.toNat)) 0) ((5 + ((6 * x.toNat) + y.toNat)) + 1) 0) ((5 + ((6 * x.toNat) + y.toNat)) + 6) 0) (((5 + ((6 * x.toNat) + y.toNat)) + 6) + 1) 0) 41 e)) (nF P_8) (nF im) (nF ke) (nF no) (nF fa) (lN tr) (nI ty) (nI k_9) (nI nd) (nI att) (nI so) (nI ss) (iI va)] 136 [some (.ref (a 0)), some (.int (nI x.toNat)), some (.int (nI y.toNat)), some (.int (nI (trT (fun c => s (5 + c) % 16) ((5 * x.toNat) + y.toNat)))), some (.int (nI ((6 * x.toNat) + y.toNat)))] []
          refine V_iload_n X dX12_lifts_136 rfl ?_
          exact V_iret X Y ⟨((trT (fun c => s (5 + c) % 16) ((5 * x.toNat) + y.toNat) : Nat) : Int), va_up (va_up (va_up (va_up (va_up s (5 + ((6 * x.toNat) + y.toNat)) 0) ((5 + ((6 * x.toNat) + y.toNat)) + 1) 0) ((5 + ((6 * x.toNat) + y.toNat)) + 6) 0) (((5 + ((6 * x.toNat) + y.toNat)) + 6) + 1) 0) 41 e, P_8, k_9⟩ (show ((x < 0 ∨ 4 < x ∨ y < 0 ∨ 4 < y) ∧ (((trT (fun c => s (5 + c) % 16) ((5 * x.toNat) + y.toNat) : Nat) : Int) : Int) = -1 ∧ (va_up (va_up (va_up (va_up (va_up s (5 + ((6 * x.toNat) + y.toNat)) 0) ((5 + ((6 * x.toNat) + y.toNat)) + 1) 0) ((5 + ((6 * x.toNat) + y.toNat)) + 6) 0) (((5 + ((6 * x.toNat) + y.toNat)) + 6) + 1) 0) 41 e) = s ∧ P_8 = pa ∧ k_9 = kn) ∨ ((0 ≤ x ∧ x < 5 ∧ 0 ≤ y ∧ y < 5) ∧ tray (fun c => s (5 + c) % 16) (6 * x.toNat + y.toNat) = 0 ∧ (((trT (fun c => s (5 + c) % 16) ((5 * x.toNat) + y.toNat) : Nat) : Int) : Int) = -2 ∧ (va_up (va_up (va_up (va_up (va_up s (5 + ((6 * x.toNat) + y.toNat)) 0) ((5 + ((6 * x.toNat) + y.toNat)) + 1) 0) ((5 + ((6 * x.toNat) + y.toNat)) + 6) 0) (((5 + ((6 * x.toNat) + y.toNat)) + 6) + 1) 0) 41 e) = s ∧ P_8 = pa ∧ k_9 = kn) ∨ ((0 ≤ x ∧ x < 5 ∧ 0 ≤ y ∧ y < 5) ∧ ¬ tray (fun c => s (5 + c) % 16) (6 * x.toNat + y.toNat) = 0 ∧ KP s pa kn P_8 k_9 ∧ (((trT (fun c => s (5 + c) % 16) ((5 * x.toNat) + y.toNat) : Nat) : Int) : Int) = (tray (fun c => s (5 + c) % 16) (6 * x.toNat + y.toNat) : Nat) ∧ (va_up (va_up (va_up (va_up (va_up s (5 + ((6 * x.toNat) + y.toNat)) 0) ((5 + ((6 * x.toNat) + y.toNat)) + 1) 0) ((5 + ((6 * x.toNat) + y.toNat)) + 6) 0) (((5 + ((6 * x.toNat) + y.toNat)) + 6) + 1) 0) 41 e) = lfS s (6 * x.toNat + y.toNat) (tray (fun c => s (5 + c) % 16) (6 * x.toNat + y.toNat))) from Or.inr (Or.inr ⟨by omega, by omega, hkp, congrArg (fun z : Nat => (z : Int)) htt, by rw [he]; rfl⟩)) (mv_ri (by rfl)) rfl rfl dX12_lifts_137
        refine V_icmp_leN X 126 dX12_lifts_117 (by decide) (by omega) (by decide) (fun c_11 => ?_) (fun c_11 => ?_)
        · refine V_aload_n X dX12_lifts_126 rfl ?_
          refine V_get X fl_X12_22 0 0 rfl rfl rfl dX12_lifts_127 ?_
          refine V_bipush X (nI 41) dX12_lifts_130 (by decide) ?_
          refine V_ialdN X 0 5 rfl rfl (by decide) (by decide) dX12_lifts_132 ?_
          refine V_iload_n X dX12_lifts_133 rfl ?_
          refine V_iaddN X dX12_lifts_134 ?_
          refine V_weak (lv' := [some (.ref (a 0)), some (.int (nI x.toNat)), some (.int (nI y.toNat)), some (.int (nI (trT (fun c => s (5 + c) % 16) ((5 * x.toNat) + y.toNat)))), some (.int (nI ((6 * x.toNat) + y.toNat)))]) (And.intro rfl (And.intro rfl (And.intro rfl (And.intro rfl (And.intro rfl trivial))))) ?_
          exact J_135_11 (((va_up (va_up (va_up (va_up s (5 + ((6 * x.toNat) + y.toNat)) 0) ((5 + ((6 * x.toNat) + y.toNat)) + 1) 0) ((5 + ((6 * x.toNat) + y.toNat)) + 6) 0) (((5 + ((6 * x.toNat) + y.toNat)) + 6) + 1) 0) 41) + (trT (fun c => s (5 + c) % 16) ((5 * x.toNat) + y.toNat))) (by omega)
        · refine V_sipush X (nI 999) dX12_lifts_120 (by decide) ?_
          refine V_goto X 135 dX12_lifts_123 (by decide) ?_
          refine V_weak (lv' := [some (.ref (a 0)), some (.int (nI x.toNat)), some (.int (nI y.toNat)), some (.int (nI (trT (fun c => s (5 + c) % 16) ((5 * x.toNat) + y.toNat)))), some (.int (nI ((6 * x.toNat) + y.toNat)))]) (And.intro rfl (And.intro rfl (And.intro rfl (And.intro rfl (And.intro rfl trivial))))) ?_
          exact J_135_11 999 (by omega)
      · refine V_bipush X (-2) dX12_lifts_34 (by decide) ?_
        exact V_iret X Y ⟨-2, s, pa, kn⟩ (show ((x < 0 ∨ 4 < x ∨ y < 0 ∨ 4 < y) ∧ ((-2) : Int) = -1 ∧ s = s ∧ pa = pa ∧ kn = kn) ∨ ((0 ≤ x ∧ x < 5 ∧ 0 ≤ y ∧ y < 5) ∧ tray (fun c => s (5 + c) % 16) (6 * x.toNat + y.toNat) = 0 ∧ ((-2) : Int) = -2 ∧ s = s ∧ pa = pa ∧ kn = kn) ∨ ((0 ≤ x ∧ x < 5 ∧ 0 ≤ y ∧ y < 5) ∧ ¬ tray (fun c => s (5 + c) % 16) (6 * x.toNat + y.toNat) = 0 ∧ KP s pa kn pa kn ∧ ((-2) : Int) = (tray (fun c => s (5 + c) % 16) (6 * x.toNat + y.toNat) : Nat) ∧ s = lfS s (6 * x.toNat + y.toNat) (tray (fun c => s (5 + c) % 16) (6 * x.toNat + y.toNat))) from Or.inr (Or.inl ⟨by omega, by omega, rfl, rfl, rfl, rfl⟩)) (mv_ri (by rfl)) rfl rfl dX12_lifts_36
    · refine V_iconst X (-1) dX12_lifts_18 (by decide) ?_
      exact V_iret X Y ⟨-1, s, pa, kn⟩ (show ((x < 0 ∨ 4 < x ∨ y < 0 ∨ 4 < y) ∧ ((-1) : Int) = -1 ∧ s = s ∧ pa = pa ∧ kn = kn) ∨ ((0 ≤ x ∧ x < 5 ∧ 0 ≤ y ∧ y < 5) ∧ tray (fun c => s (5 + c) % 16) (6 * x.toNat + y.toNat) = 0 ∧ ((-1) : Int) = -2 ∧ s = s ∧ pa = pa ∧ kn = kn) ∨ ((0 ≤ x ∧ x < 5 ∧ 0 ≤ y ∧ y < 5) ∧ ¬ tray (fun c => s (5 + c) % 16) (6 * x.toNat + y.toNat) = 0 ∧ KP s pa kn pa kn ∧ ((-1) : Int) = (tray (fun c => s (5 + c) % 16) (6 * x.toNat + y.toNat) : Nat) ∧ s = lfS s (6 * x.toNat + y.toNat) (tray (fun c => s (5 + c) % 16) (6 * x.toNat + y.toNat))) from Or.inl ⟨by omega, rfl, rfl, rfl, rfl⟩) (mv_ri (by rfl)) rfl rfl dX12_lifts_19
set_option maxHeartbeats 4000000 in
set_option maxRecDepth 100000 in
theorem c_X12_votes (l : Launch) (G : mvG) (a : Nat → Nat) (tx : Nat → Nat) (to : Nat → Nat) (dr : Nat → Nat) (be : Nat → Nat) (s : Nat → Nat) (pa : Nat → Nat) (im : Nat → Nat) (ke : Nat → Nat) (no : Nat → Nat) (fa : Nat → Nat) (tr : Nat) (ty : Nat) (kn : Nat) (nd : Nat) (att : Nat) (so : Nat) (ss : Nat) (va : Int) (ln : Int) (hn : to 0 ≤ 5) (hvo : ∀ j, j < 5 → to (9 + j) ≤ 9) (hs : ∀ j, j < 5 → s j < 36) (hkn : kn ≤ 10) (hln : -2147483648 ≤ ln ∧ ln < 2147483648) : KQ l yX12_votes cX12_votes 3 (some .int) (3, 68) G [.ref (a 0), .int (iI ln)] [gMod G a (nF tx) (nF to) (nF dr) (nF be) (nF s) (nF pa) (nF im) (nF ke) (nF no) (nF fa) (lN tr) (nI ty) (nI kn) (nI nd) (nI att) (nI so) (nI ss) (iI va)] (fun (zz : Int × (Nat → Nat) × (Nat → Nat) × Nat) => some (.int (iI zz.1))) (fun (zz : Int × (Nat → Nat) × (Nat → Nat) × Nat) => ((ln < 0 ∨ 5 < ln) ∧ (zz.1 : Int) = -1 ∧ zz.2.1 = s ∧ zz.2.2.1 = pa ∧ zz.2.2.2 = kn) ∨ ((0 ≤ ln ∧ ln < 6) ∧ KP s pa kn zz.2.2.1 zz.2.2.2 ∧ ∃ eV : Nat, eV = (if vAg s (fun j => to (9 + j)) ln.toNat (to 0) < vFor s (fun j => to (9 + j)) ln.toNat (to 0) then 1 else 0) ∧ (zz.1 : Int) = (eV : Int) ∧ zz.2.1 = va_up (va_up s 42 (s 42 + 1)) 43 (s 43 + eV))) (fun (zz : Int × (Nat → Nat) × (Nat → Nat) × Nat) => [gMod G a (nF tx) (nF to) (nF dr) (nF be) (nF zz.2.1) (nF zz.2.2.1) (nF im) (nF ke) (nF no) (nF fa) (lN tr) (nI ty) (nI zz.2.2.2) (nI nd) (nI att) (nI so) (nI ss) (iI va)]) := by
  refine KQ.mk (by decide +kernel) (fun _ _ => rfl) [some (.ref (a 0)), some (.int (iI ln)), none] (Nat.le_of_ble_eq_true rfl) rfl (fun C X Y hC => ?_)
  subst hC
  refine V_iload_n X dX12_votes_0 rfl ?_
  refine V_iconst X (nI 0) dX12_votes_1 (by decide) ?_
  refine V_iconst X (nI 5) dX12_votes_2 (by decide) ?_
  refine V_callS (rest := []) X (c_X12_in (Cl C) G ln ((0 : Nat) : Int) ((5 : Nat) : Int) (by first | assumption | omega) (by first | assumption | omega) (by first | assumption | omega)) mi_X12_in kw_3_235 kw_3_236 dX12_votes_3 [] rfl (by decide) rfl rfl (by decide) (Nat.le_of_ble_eq_true rfl) ⟨rfl, rfl⟩ (fun u_ hu_2 => ?_)
  obtain ⟨b_1, rfl⟩ : ∃ z, z = u_ := ⟨_, rfl⟩
  have hu_2 : (b_1 = 1 ∧ ((0 : Nat) : Int) ≤ ln ∧ ln ≤ ((5 : Nat) : Int)) ∨ (b_1 = 0 ∧ (ln < ((0 : Nat) : Int) ∨ ((5 : Nat) : Int) < ln)) := hu_2
  show V C 0 0 [gMod G a (nF tx) (nF to) (nF dr) (nF be) (nF s) (nF pa) (nF im) (nF ke) (nF no) (nF fa) (lN tr) (nI ty) (nI kn) (nI nd) (nI att) (nI so) (nI ss) (iI va)] 6 [some (.ref (a 0)), some (.int (iI ln)), none] [.int (nI b_1)]
  refine V_if_neN X 11 dX12_votes_6 (by decide) (by omega) (fun c_3 => ?_) (fun c_3 => ?_)
  · refine V_loc (y := (nI ln.toNat)) 1 rfl (mv_sn (by omega)) ?_
    refine V_aload_n X dX12_votes_11 rfl ?_
    refine V_callV (rest := []) X (c_X12_keeps (Cl C) G a tx to dr be s pa im ke no fa tr ty kn nd att so ss va (by first | assumption | omega)) mi_X12_keeps kw_4_141 kw_4_143 kw_s_42 dX12_votes_12 [0] rfl (by decide) 0 0 rfl rfl rfl rfl rfl rfl (by decide) (Nat.le_of_ble_eq_true rfl) ⟨rfl, rfl⟩ (fun u_ hu_6 => ?_)
    obtain ⟨P_4, k_5⟩ := u_
    have hu_6 : KP s pa kn P_4 k_5 := hu_6
    show V C 0 0 [gMod G a (nF tx) (nF to) (nF dr) (nF be) (nF s) (nF P_4) (nF im) (nF ke) (nF no) (nF fa) (lN tr) (nI ty) (nI k_5) (nI nd) (nI att) (nI so) (nI ss) (iI va)] 15 [some (.ref (a 0)), some (.int (nI ln.toNat)), none] []
    have hkp := hu_6
    have hkl := KP_le hkp
    refine V_aload_n X dX12_votes_15 rfl ?_
    refine V_iload_n X dX12_votes_16 rfl ?_
    refine V_callV (rest := []) X (c_X12_isPassed (Cl C) G a tx to dr be s P_4 im ke no fa tr ty k_5 nd att so ss va ln.toNat (by first | assumption | omega) (by first | assumption | omega) (by first | assumption | omega) (by first | assumption | omega)) mi_X12_isPassed kw_4_115 kw_4_117 kw_s_38 dX12_votes_17 [0] rfl (by decide) 0 0 rfl rfl rfl rfl rfl rfl (by decide) (Nat.le_of_ble_eq_true rfl) ⟨rfl, rfl⟩ (fun u_ hu_8 => ?_)
    obtain ⟨b_7, rfl⟩ : ∃ z, z = u_ := ⟨_, rfl⟩
    have hu_8 : (b_7 = 1 ∧ vAg s (fun j => to (9 + j)) ln.toNat (to 0) < vFor s (fun j => to (9 + j)) ln.toNat (to 0)) ∨ (b_7 = 0 ∧ ¬ vAg s (fun j => to (9 + j)) ln.toNat (to 0) < vFor s (fun j => to (9 + j)) ln.toNat (to 0)) := hu_8
    show V C 0 0 [gMod G a (nF tx) (nF to) (nF dr) (nF be) (nF s) (nF P_4) (nF im) (nF ke) (nF no) (nF fa) (lN tr) (nI ty) (nI k_5) (nI nd) (nI att) (nI so) (nI ss) (iI va)] 20 [some (.ref (a 0)), some (.int (nI ln.toNat)), none] [.int (nI b_7)]
    have hb := hu_8
    refine V_istore_n X dX12_votes_20 (by decide) rfl ?_
    refine V_aload_n X dX12_votes_21 rfl ?_
    refine V_get X fl_X12_22 0 0 rfl rfl rfl dX12_votes_22 ?_
    refine V_bipush X (nI 42) dX12_votes_25 (by decide) ?_
    refine V_dup2 X dX12_votes_27 rfl rfl ?_
    refine V_ialdN X 0 5 rfl rfl (by decide) (by decide) dX12_votes_28 ?_
    refine V_iconst X (nI 1) dX12_votes_29 (by decide) ?_
    refine V_iaddN X dX12_votes_30 ?_
    refine V_iastN X 0 5 rfl rfl (by decide) (by decide) dX12_votes_31 ?_
    show V C 0 0 [gMod G a (nF tx) (nF to) (nF dr) (nF be) (nF (va_up s 42 ((s 42) + 1))) (nF P_4) (nF im) (nF ke) (nF no) (nF fa) (lN tr) (nI ty) (nI k_5) (nI nd) (nI att) (nI so) (nI ss) (iI va)] 32 [some (.ref (a 0)), some (.int (nI ln.toNat)), some (.int (nI b_7))] []
    refine V_aload_n X dX12_votes_32 rfl ?_
    refine V_get X fl_X12_22 0 0 rfl rfl rfl dX12_votes_33 ?_
    refine V_bipush X (nI 43) dX12_votes_36 (by decide) ?_
    refine V_dup2 X dX12_votes_38 rfl rfl ?_
    refine V_ialdN X 0 5 rfl rfl (by decide) (by decide) dX12_votes_39 ?_
    refine V_iload_n X dX12_votes_40 rfl ?_
    have J_49_9 : ∀ (e : Nat) (he : e = if vAg s (fun j => to (9 + j)) ln.toNat (to 0) < vFor s (fun j => to (9 + j)) ln.toNat (to 0) then 1 else 0), V C 0 0 [gMod G a (nF tx) (nF to) (nF dr) (nF be) (nF (va_up s 42 ((s 42) + 1))) (nF P_4) (nF im) (nF ke) (nF no) (nF fa) (lN tr) (nI ty) (nI k_5) (nI nd) (nI att) (nI so) (nI ss) (iI va)] 49 [some (.ref (a 0)), some (.int (nI ln.toNat)), some (.int (nI b_7))] [.int (nI e), .int (nI ((va_up s 42 ((s 42) + 1)) 43)), .int (nI 43), .ref (a 5)] := by
      intro e he
      refine V_iaddN X dX12_votes_49 ?_
      refine V_iastN X 0 5 rfl rfl (by decide) (by decide) dX12_votes_50 ?_
      show V C 0 0 [gMod G a (nF tx) (nF to) (nF dr) (nF be) (nF (va_up (va_up s 42 ((s 42) + 1)) 43 (((va_up s 42 ((s 42) + 1)) 43) + e))) (nF P_4) (nF im) (nF ke) (nF no) (nF fa) (lN tr) (nI ty) (nI k_5) (nI nd) (nI att) (nI so) (nI ss) (iI va)] 51 [some (.ref (a 0)), some (.int (nI ln.toNat)), some (.int (nI b_7))] []
      refine V_iload_n X dX12_votes_51 rfl ?_
      have J_60_10 : ∀ (g : Nat) (hg : g = if vAg s (fun j => to (9 + j)) ln.toNat (to 0) < vFor s (fun j => to (9 + j)) ln.toNat (to 0) then 1 else 0), V C 0 0 [gMod G a (nF tx) (nF to) (nF dr) (nF be) (nF (va_up (va_up s 42 ((s 42) + 1)) 43 (((va_up s 42 ((s 42) + 1)) 43) + e))) (nF P_4) (nF im) (nF ke) (nF no) (nF fa) (lN tr) (nI ty) (nI k_5) (nI nd) (nI att) (nI so) (nI ss) (iI va)] 60 [some (.ref (a 0)), some (.int (nI ln.toNat)), some (.int (nI b_7))] [.int (nI g)] := by
        intro g hg
        exact V_iret X Y ⟨((g : Nat) : Int), va_up (va_up s 42 ((s 42) + 1)) 43 (((va_up s 42 ((s 42) + 1)) 43) + e), P_4, k_5⟩ (show ((ln < 0 ∨ 5 < ln) ∧ (((g : Nat) : Int) : Int) = -1 ∧ (va_up (va_up s 42 ((s 42) + 1)) 43 (((va_up s 42 ((s 42) + 1)) 43) + e)) = s ∧ P_4 = pa ∧ k_5 = kn) ∨ ((0 ≤ ln ∧ ln < 6) ∧ KP s pa kn P_4 k_5 ∧ ∃ eV : Nat, eV = (if vAg s (fun j => to (9 + j)) ln.toNat (to 0) < vFor s (fun j => to (9 + j)) ln.toNat (to 0) then 1 else 0) ∧ (((g : Nat) : Int) : Int) = (eV : Int) ∧ (va_up (va_up s 42 ((s 42) + 1)) 43 (((va_up s 42 ((s 42) + 1)) 43) + e)) = va_up (va_up s 42 (s 42 + 1)) 43 (s 43 + eV)) from Or.inr ⟨by omega, hkp, e, he, by rw [hg, he], rfl⟩) (mv_ri (by rfl)) rfl rfl dX12_votes_60
      refine V_if_eqN X 59 dX12_votes_52 (by decide) (by omega) (fun c_10 => ?_) (fun c_10 => ?_)
      · refine V_iconst X (nI 0) dX12_votes_59 (by decide) ?_
        refine V_weak (lv' := [some (.ref (a 0)), some (.int (nI ln.toNat)), some (.int (nI b_7))]) (And.intro rfl (And.intro rfl (And.intro rfl trivial))) ?_
        exact J_60_10 0 (by first | rw [if_pos (by omega)] | rw [if_neg (by omega)])
      · refine V_iconst X (nI 1) dX12_votes_55 (by decide) ?_
        refine V_goto X 60 dX12_votes_56 (by decide) ?_
        refine V_weak (lv' := [some (.ref (a 0)), some (.int (nI ln.toNat)), some (.int (nI b_7))]) (And.intro rfl (And.intro rfl (And.intro rfl trivial))) ?_
        exact J_60_10 1 (by first | rw [if_pos (by omega)] | rw [if_neg (by omega)])
    refine V_if_eqN X 48 dX12_votes_41 (by decide) (by omega) (fun c_9 => ?_) (fun c_9 => ?_)
    · refine V_iconst X (nI 0) dX12_votes_48 (by decide) ?_
      refine V_weak (lv' := [some (.ref (a 0)), some (.int (nI ln.toNat)), some (.int (nI b_7))]) (And.intro rfl (And.intro rfl (And.intro rfl trivial))) ?_
      exact J_49_9 0 (by first | rw [if_pos (by omega)] | rw [if_neg (by omega)])
    · refine V_iconst X (nI 1) dX12_votes_44 (by decide) ?_
      refine V_goto X 49 dX12_votes_45 (by decide) ?_
      refine V_weak (lv' := [some (.ref (a 0)), some (.int (nI ln.toNat)), some (.int (nI b_7))]) (And.intro rfl (And.intro rfl (And.intro rfl trivial))) ?_
      exact J_49_9 1 (by first | rw [if_pos (by omega)] | rw [if_neg (by omega)])
  · refine V_iconst X (-1) dX12_votes_9 (by decide) ?_
    exact V_iret X Y ⟨-1, s, pa, kn⟩ (show ((ln < 0 ∨ 5 < ln) ∧ ((-1) : Int) = -1 ∧ s = s ∧ pa = pa ∧ kn = kn) ∨ ((0 ≤ ln ∧ ln < 6) ∧ KP s pa kn pa kn ∧ ∃ eV : Nat, eV = (if vAg s (fun j => to (9 + j)) ln.toNat (to 0) < vFor s (fun j => to (9 + j)) ln.toNat (to 0) then 1 else 0) ∧ ((-1) : Int) = (eV : Int) ∧ s = va_up (va_up s 42 (s 42 + 1)) 43 (s 43 + eV)) from Or.inl ⟨by omega, rfl, rfl, rfl, rfl⟩) (mv_ri (by rfl)) rfl rfl dX12_votes_10
set_option maxHeartbeats 4000000 in
set_option maxRecDepth 100000 in
theorem c_X12_undo (l : Launch) (G : mvG) (a : Nat → Nat) (tx : Nat → Nat) (to : Nat → Nat) (dr : Nat → Nat) (be : Nat → Nat) (s : Nat → Nat) (pa : Nat → Nat) (im : Nat → Nat) (ke : Nat → Nat) (no : Nat → Nat) (fa : Nat → Nat) (tr : Nat) (ty : Nat) (kn : Nat) (nd : Nat) (att : Nat) (so : Nat) (ss : Nat) (va : Int) (hkn : kn ≤ 10) : KQ l yX12_undo cX12_undo 2 (some .int) (0, 0) G [.ref (a 0)] [gMod G a (nF tx) (nF to) (nF dr) (nF be) (nF s) (nF pa) (nF im) (nF ke) (nF no) (nF fa) (lN tr) (nI ty) (nI kn) (nI nd) (nI att) (nI so) (nI ss) (iI va)] (fun (zz : Int × (Nat → Nat) × Nat) => some (.int (iI zz.1))) (fun (zz : Int × (Nat → Nat) × Nat) => (kn = 0 ∧ (zz.1 : Int) = -2 ∧ zz.2.1 = s ∧ zz.2.2 = kn) ∨ (0 < kn ∧ (zz.1 : Int) = (kn - 1 : Nat) ∧ zz.2.2 = kn - 1 ∧ ∀ j, j < 44 → zz.2.1 j = pa (44 * (kn - 1) + j))) (fun (zz : Int × (Nat → Nat) × Nat) => [gMod G a (nF tx) (nF to) (nF dr) (nF be) (nF zz.2.1) (nF pa) (nF im) (nF ke) (nF no) (nF fa) (lN tr) (nI ty) (nI zz.2.2) (nI nd) (nI att) (nI so) (nI ss) (iI va)]) := by
  refine KQ.mk (by decide +kernel) (fun _ _ => rfl) [some (.ref (a 0)), none] (Nat.le_of_ble_eq_true rfl) rfl (fun C X Y hC => ?_)
  subst hC
  refine V_aload_n X dX12_undo_0 rfl ?_
  refine V_get X fl_X12_89 0 0 rfl rfl rfl dX12_undo_1 ?_
  refine V_if_neN X 10 dX12_undo_4 (by decide) (by omega) (fun c_1 => ?_) (fun c_1 => ?_)
  · refine V_aload_n X dX12_undo_10 rfl ?_
    refine V_dup X dX12_undo_11 rfl ?_
    refine V_get X fl_X12_89 0 0 rfl rfl rfl dX12_undo_12 ?_
    refine V_iconst X (nI 1) dX12_undo_15 (by decide) ?_
    refine V_isubN X dX12_undo_16 (by omega) ?_
    refine V_put X fl_X12_89 0 0 rfl rfl rfl rfl (Nat.le_of_ble_eq_true rfl) dX12_undo_17 ?_
    show V C 0 0 [gMod G a (nF tx) (nF to) (nF dr) (nF be) (nF s) (nF pa) (nF im) (nF ke) (nF no) (nF fa) (lN tr) (nI ty) (nI (kn - 1)) (nI nd) (nI att) (nI so) (nI ss) (iI va)] 20 [some (.ref (a 0)), none] []
    refine V_iconst X (nI 0) dX12_undo_20 (by decide) ?_
    refine V_istore_n X dX12_undo_21 (by decide) rfl ?_
    have L_22 : ∀ (fz_22 : Nat) (k : Nat) (S1 : Nat → Nat) (hk : k ≤ 44) (hS : ∀ j, j < k → S1 j = pa (44 * (kn - 1) + j)), (44 - k) < fz_22 → V C 0 0 [gMod G a (nF tx) (nF to) (nF dr) (nF be) (nF S1) (nF pa) (nF im) (nF ke) (nF no) (nF fa) (lN tr) (nI ty) (nI (kn - 1)) (nI nd) (nI att) (nI so) (nI ss) (iI va)] 22 [some (.ref (a 0)), some (.int (nI k))] [] := by
      intro fz_22
      induction fz_22 with
      | zero => intro k S1 hk hS hf_22; exact absurd hf_22 (Nat.not_lt_zero _)
      | succ fz_22 ih_22 =>
        intro k S1 hk hS hf_22
        refine V_iload_n X dX12_undo_22 rfl ?_
        refine V_bipush X (nI 44) dX12_undo_23 (by decide) ?_
        refine V_icmp_geN X 54 dX12_undo_25 (by decide) (by omega) (by decide) (fun c_2 => ?_) (fun c_2 => ?_)
        · refine V_aload_n X dX12_undo_54 rfl ?_
          refine V_get X fl_X12_89 0 0 rfl rfl rfl dX12_undo_55 ?_
          exact V_iret X Y ⟨((kn - 1 : Nat) : Int), S1, kn - 1⟩ (show (kn = 0 ∧ (((kn - 1 : Nat) : Int) : Int) = -2 ∧ S1 = s ∧ (kn - 1) = kn) ∨ (0 < kn ∧ (((kn - 1 : Nat) : Int) : Int) = (kn - 1 : Nat) ∧ (kn - 1) = kn - 1 ∧ ∀ j, j < 44 → S1 j = pa (44 * (kn - 1) + j)) from Or.inr ⟨by omega, rfl, rfl, fun j h => hS j (by omega)⟩) (mv_ri (by rfl)) rfl rfl dX12_undo_58
        · refine V_aload_n X dX12_undo_28 rfl ?_
          refine V_get X fl_X12_22 0 0 rfl rfl rfl dX12_undo_29 ?_
          refine V_iload_n X dX12_undo_32 rfl ?_
          refine V_aload_n X dX12_undo_33 rfl ?_
          refine V_get X fl_X12_25 0 0 rfl rfl rfl dX12_undo_34 ?_
          refine V_bipush X (nI 44) dX12_undo_37 (by decide) ?_
          refine V_aload_n X dX12_undo_39 rfl ?_
          refine V_get X fl_X12_89 0 0 rfl rfl rfl dX12_undo_40 ?_
          refine V_imulN X dX12_undo_43 ?_
          refine V_iload_n X dX12_undo_44 rfl ?_
          refine V_iaddN X dX12_undo_45 ?_
          refine V_ialdN X 0 6 rfl rfl (by omega) (by decide) dX12_undo_46 ?_
          refine V_iastN X 0 5 rfl rfl (by omega) (by decide) dX12_undo_47 ?_
          show V C 0 0 [gMod G a (nF tx) (nF to) (nF dr) (nF be) (nF (va_up S1 k (pa ((44 * (kn - 1)) + k)))) (nF pa) (nF im) (nF ke) (nF no) (nF fa) (lN tr) (nI ty) (nI (kn - 1)) (nI nd) (nI att) (nI so) (nI ss) (iI va)] 48 [some (.ref (a 0)), some (.int (nI k))] []
          refine V_iincN X (c := 1) dX12_undo_48 rfl (by decide) rfl ?_
          refine V_goto X 22 dX12_undo_51 (by decide) ?_
          refine V_weak (lv' := [some (.ref (a 0)), some (.int (nI (k + 1)))]) (And.intro rfl (And.intro rfl trivial)) ?_
          exact ih_22 (k + 1) (va_up S1 k (pa ((44 * (kn - 1)) + k))) (by omega) (fun j h => by simp only [va_up]; by_cases e : j = k; rw [if_pos e, e]; rw [if_neg e]; exact hS j (by omega)) (by omega)
    refine V_weak (lv' := [some (.ref (a 0)), some (.int (nI 0))]) (And.intro rfl (And.intro rfl trivial)) ?_
    exact L_22 _ 0 s (by omega) (fun j h => absurd h (Nat.not_lt_zero j)) (Nat.lt_succ_self _)
  · refine V_bipush X (-2) dX12_undo_7 (by decide) ?_
    exact V_iret X Y ⟨-2, s, kn⟩ (show (kn = 0 ∧ ((-2) : Int) = -2 ∧ s = s ∧ kn = kn) ∨ (0 < kn ∧ ((-2) : Int) = (kn - 1 : Nat) ∧ kn = kn - 1 ∧ ∀ j, j < 44 → s j = pa (44 * (kn - 1) + j)) from Or.inl ⟨by omega, rfl, rfl, rfl⟩) (mv_ri (by rfl)) rfl rfl dX12_undo_9
