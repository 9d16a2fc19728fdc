theorem bSum_or {v : Nat → Nat} {x p : Nat} (h : x &&& 2 ^ p = 0) : ∀ m, bSum v (x ||| 2 ^ p) m = bSum v x m + (if p < m then v p else 0)
  | 0 => by simp [bSum]
  | m + 1 => by
    have ih := bSum_or (v := v) h m
    have h1 := bit_iff x m
    have h2 := bit_iff (x ||| 2 ^ p) m
    rw [Nat.testBit_or, Nat.testBit_two_pow] at h2
    simp only [bSum, ih]
    by_cases e : p = m
    · subst e
      rw [if_neg (Nat.lt_irrefl p), if_neg (fun z => by have := h2.mp z; simp at this), if_pos h, if_pos (by omega)]
    · have h3 : (x ||| 2 ^ p) &&& 2 ^ m = 0 ↔ x &&& 2 ^ m = 0 := by rw [h2, h1]; simp [e]
      by_cases f : x &&& 2 ^ m = 0
      · rw [if_pos f, if_pos (h3.mpr f)]
        by_cases g : p < m
        · rw [if_pos g, if_pos (by omega)]; omega
        · rw [if_neg g, if_neg (by omega)]
      · rw [if_neg f, if_neg (fun z => f (h3.mp z))]
        by_cases g : p < m
        · rw [if_pos g, if_pos (by omega)]; omega
        · rw [if_neg g, if_neg (by omega)]; omega
theorem bSum_or' (v : Nat → Nat) (x p n : Nat) (h : p < n) : ¬ x &&& 2 ^ p = 0 ∨ bSum v (x ||| 2 ^ p) n = bSum v x n + v p := by
  by_cases f : x &&& 2 ^ p = 0
  · right
    rw [bSum_or f, if_pos h]
  · exact Or.inl f
set_option maxHeartbeats 4000000 in
set_option maxRecDepth 100000 in
theorem c_X12_power (l : Launch) (G : mvG) (a : Nat → Nat) (tx : Nat → Nat) (to : Nat → Nat) (dr : Nat → Nat) (be : Nat → Nat) (s : Nat → Nat) (pa : Nat → Nat) (im : Nat → Nat) (ke : Nat → Nat) (no : Nat → Nat) (fa : Nat → Nat) (tr : Nat) (ty : Nat) (kn : Nat) (nd : Nat) (att : Nat) (so : Nat) (ss : Nat) (va : Int) (p : Int) (q : Int) (hn : to 0 ≤ 5) (hvo : ∀ j, j < 5 → to (9 + j) ≤ 9) (hp : -2147483648 ≤ p ∧ p < 2147483648) (hq : -2147483648 ≤ q ∧ q < 2147483648) : KQ l yX12_power cX12_power 5 (some .int) (2, 44) G [.ref (a 0), .int (iI p), .int (iI q)] [gMod G a (nF tx) (nF to) (nF dr) (nF be) (nF s) (nF pa) (nF im) (nF ke) (nF no) (nF fa) (lN tr) (nI ty) (nI kn) (nI nd) (nI att) (nI so) (nI ss) (iI va)] (fun (_ : Unit) => some (.int (iI (spPower (fun j => to (9 + j)) (to 0) p q)))) (fun (_ : Unit) => True) (fun (_ : Unit) => [gMod G a (nF tx) (nF to) (nF dr) (nF be) (nF s) (nF pa) (nF im) (nF ke) (nF no) (nF fa) (lN tr) (nI ty) (nI kn) (nI nd) (nI att) (nI so) (nI ss) (iI va)]) := by
  refine KQ.mk (by decide +kernel) (fun _ _ => rfl) [some (.ref (a 0)), some (.int (iI p)), some (.int (iI q)), none, none] (Nat.le_of_ble_eq_true rfl) rfl (fun C X Y hC => ?_)
  subst hC
  have hp5 := pow5 hn
  refine V_aload_n X dX12_power_0 rfl ?_
  refine V_iload_n X dX12_power_1 rfl ?_
  refine V_callV (rest := []) X (c_X12_isOne (Cl C) G a tx to dr be s pa im ke no fa tr ty kn nd att so ss va p (by first | assumption | omega) (by first | assumption | omega)) mi_X12_isOne kw_4_100 kw_4_102 kw_s_36 dX12_power_2 [0] rfl (by decide) 0 0 rfl rfl rfl rfl rfl rfl (by decide) (Nat.le_of_ble_eq_true rfl) ⟨rfl, rfl⟩ (fun u_ hu_2 => ?_)
  obtain ⟨b_1, rfl⟩ : ∃ z, z = u_ := ⟨_, rfl⟩
  have hu_2 : (b_1 = 1 ∧ 0 ≤ p ∧ p < (to 0 : Int)) ∨ (b_1 = 0 ∧ (p < 0 ∨ (to 0 : Int) ≤ p)) := hu_2
  show V C 0 0 [gMod G a (nF tx) (nF to) (nF dr) (nF be) (nF s) (nF pa) (nF im) (nF ke) (nF no) (nF fa) (lN tr) (nI ty) (nI kn) (nI nd) (nI att) (nI so) (nI ss) (iI va)] 5 [some (.ref (a 0)), some (.int (iI p)), some (.int (iI q)), none, none] [.int (nI b_1)]
  refine V_if_eqN X 18 dX12_power_5 (by decide) (by omega) (fun c_3 => ?_) (fun c_3 => ?_)
  · refine V_iconst X (-1) dX12_power_18 (by decide) ?_
    exact V_iret X Y () trivial (mv_ri (by simp only [spPower]; (repeat (first | rw [if_pos (by omega)] | rw [if_neg (by omega)])) <;> rfl)) rfl rfl dX12_power_19
  · refine V_iload_n X dX12_power_8 rfl ?_
    refine V_iconst X (nI 1) dX12_power_9 (by decide) ?_
    refine V_bipush X (nI 45) dX12_power_10 (by decide) ?_
    refine V_callS (rest := []) X (c_X12_in (Cl C) G q ((1 : Nat) : Int) ((45 : Nat) : Int) (by first | assumption | omega) (by first | assumption | omega) (by first | assumption | omega)) mi_X12_in kw_3_235 kw_3_236 dX12_power_12 [] rfl (by decide) rfl rfl (by decide) (Nat.le_of_ble_eq_true rfl) ⟨rfl, rfl⟩ (fun u_ hu_5 => ?_)
    obtain ⟨b_4, rfl⟩ : ∃ z, z = u_ := ⟨_, rfl⟩
    have hu_5 : (b_4 = 1 ∧ ((1 : Nat) : Int) ≤ q ∧ q ≤ ((45 : Nat) : Int)) ∨ (b_4 = 0 ∧ (q < ((1 : Nat) : Int) ∨ ((45 : Nat) : Int) < q)) := hu_5
    show V C 0 0 [gMod G a (nF tx) (nF to) (nF dr) (nF be) (nF s) (nF pa) (nF im) (nF ke) (nF no) (nF fa) (lN tr) (nI ty) (nI kn) (nI nd) (nI att) (nI so) (nI ss) (iI va)] 15 [some (.ref (a 0)), some (.int (iI p)), some (.int (iI q)), none, none] [.int (nI b_4)]
    refine V_if_neN X 20 dX12_power_15 (by decide) (by omega) (fun c_6 => ?_) (fun c_6 => ?_)
    · refine V_loc (y := (nI p.toNat)) 1 rfl (mv_sn (by omega)) ?_
      refine V_loc (y := (nI q.toNat)) 2 rfl (mv_sn (by omega)) ?_
      refine V_iconst X (nI 0) dX12_power_20 (by decide) ?_
      refine V_istore_n X dX12_power_21 (by decide) rfl ?_
      refine V_iconst X (nI 0) dX12_power_22 (by decide) ?_
      refine V_istore X dX12_power_23 (by decide) rfl ?_
      have L_25 : ∀ (fz_25 : Nat) (x : Nat) (e : Nat) (he : e ≤ 2 ^ to 0) (hx : x = powN (fun j => to (9 + j)) (to 0) p.toNat q.toNat e) (hxe : x ≤ e) (hr : 0 ≤ p ∧ p < (to 0 : Int) ∧ 1 ≤ q ∧ q ≤ 45), (2 ^ to 0 - e) < fz_25 → V C 0 0 [gMod G a (nF tx) (nF to) (nF dr) (nF be) (nF s) (nF pa) (nF im) (nF ke) (nF no) (nF fa) (lN tr) (nI ty) (nI kn) (nI nd) (nI att) (nI so) (nI ss) (iI va)] 25 [some (.ref (a 0)), some (.int (nI p.toNat)), some (.int (nI q.toNat)), some (.int (nI x)), some (.int (nI e))] [] := by
        intro fz_25
        induction fz_25 with
        | zero => intro x e he hx hxe hr hf_25; exact absurd hf_25 (Nat.not_lt_zero _)
        | succ fz_25 ih_25 =>
          intro x e he hx hxe hr hf_25
          refine V_iload X dX12_power_25 rfl ?_
          refine V_iconst X (nI 1) dX12_power_27 (by decide) ?_
          refine V_aload_n X dX12_power_28 rfl ?_
          refine V_get X fl_X12_13 0 0 rfl rfl rfl dX12_power_29 ?_
          refine V_iconst X (nI 0) dX12_power_32 (by decide) ?_
          refine V_ialdN X 0 2 rfl rfl (by decide) (by decide) dX12_power_33 ?_
          refine V_ishl1N X dX12_power_34 (by omega) ?_
          refine V_icmp_geN X 85 dX12_power_35 (by decide) (by omega) (by omega) (fun c_7 => ?_) (fun c_7 => ?_)
          · refine V_iload_n X dX12_power_85 rfl ?_
            exact V_iret X Y () trivial (mv_ri (by simp only [spPower]; rw [if_pos (by omega), hx, show e = 2 ^ to 0 by omega] <;> rfl)) rfl rfl dX12_power_86
          · have hbs := bSum_le (f := (fun j => to (9 + j))) e (to 0) (fun j hj => hvo j (by omega))
            have hbo : ¬ e &&& 2 ^ p.toNat = 0 ∨ bSum (fun j => to (9 + j)) (e ||| 2 ^ p.toNat) (to 0) = bSum (fun j => to (9 + j)) e (to 0) + to (9 + p.toNat) := bSum_or' (fun j => to (9 + j)) e p.toNat (to 0) (by omega)
            have hvp := hvo p.toNat (by omega)
            have hbt := bSum_le (f := (fun j => to (9 + j))) (e ||| 2 ^ p.toNat) (to 0) (fun j hj => hvo j (by omega))
            have hob : e ||| 2 ^ p.toNat < 2 ^ 31 := Nat.or_lt_two_pow (by omega) (Nat.pow_lt_pow_right (by decide) (by omega))
            refine V_iload_n X dX12_power_38 rfl ?_
            refine V_iload X dX12_power_39 rfl ?_
            refine V_iload_n X dX12_power_41 rfl ?_
            refine V_callS (rest := [.int (nI x)]) X (c_X12_has (Cl C) G e p.toNat (by first | assumption | omega) (by first | assumption | omega)) mi_X12_has kw_4_123 kw_4_124 dX12_power_42 [] rfl (by decide) rfl rfl (by decide) (Nat.le_of_ble_eq_true rfl) ⟨rfl, rfl⟩ (fun u_ hu_9 => ?_)
            obtain ⟨b_8, rfl⟩ : ∃ z, z = u_ := ⟨_, rfl⟩
            have hu_9 : (b_8 = 1 ∧ ¬ e &&& 2 ^ p.toNat = 0) ∨ (b_8 = 0 ∧ e &&& 2 ^ p.toNat = 0) := hu_9
            show V C 0 0 [gMod G a (nF tx) (nF to) (nF dr) (nF be) (nF s) (nF pa) (nF im) (nF ke) (nF no) (nF fa) (lN tr) (nI ty) (nI kn) (nI nd) (nI att) (nI so) (nI ss) (iI va)] 45 [some (.ref (a 0)), some (.int (nI p.toNat)), some (.int (nI q.toNat)), some (.int (nI x)), some (.int (nI e))] [.int (nI b_8), .int (nI x)]
            have J_77_10 : ∀ (g : Nat) (hg : g = if e &&& 2 ^ p.toNat = 0 ∧ bSum (fun j => to (9 + j)) e (to 0) < q.toNat ∧ q.toNat ≤ bSum (fun j => to (9 + j)) e (to 0) + to (9 + p.toNat) then 1 else 0) (hg1 : g ≤ 1), V C 0 0 [gMod G a (nF tx) (nF to) (nF dr) (nF be) (nF s) (nF pa) (nF im) (nF ke) (nF no) (nF fa) (lN tr) (nI ty) (nI kn) (nI nd) (nI att) (nI so) (nI ss) (iI va)] 77 [some (.ref (a 0)), some (.int (nI p.toNat)), some (.int (nI q.toNat)), some (.int (nI x)), some (.int (nI e))] [.int (nI g), .int (nI x)] := by
              intro g hg hg1
              refine V_iaddN X dX12_power_77 ?_
              refine V_istore_n X dX12_power_78 (by decide) rfl ?_
              refine V_iincN X (c := 1) dX12_power_79 rfl (by decide) rfl ?_
              refine V_goto X 25 dX12_power_82 (by decide) ?_
              refine V_weak (lv' := [some (.ref (a 0)), some (.int (nI p.toNat)), some (.int (nI q.toNat)), some (.int (nI (x + g))), some (.int (nI (e + 1)))]) (And.intro rfl (And.intro rfl (And.intro rfl (And.intro rfl (And.intro rfl trivial))))) ?_
              exact ih_25 (x + g) (e + 1) (by omega) (by rw [hx, hg]; rfl) (by omega) (by omega) (by omega)
            refine V_if_neN X 76 dX12_power_45 (by decide) (by omega) (fun c_10 => ?_) (fun c_10 => ?_)
            · refine V_iconst X (nI 0) dX12_power_76 (by decide) ?_
              refine V_weak (lv' := [some (.ref (a 0)), some (.int (nI p.toNat)), some (.int (nI q.toNat)), some (.int (nI x)), some (.int (nI e))]) (And.intro rfl (And.intro rfl (And.intro rfl (And.intro rfl (And.intro rfl trivial))))) ?_
              exact J_77_10 0 (by first | rw [if_pos (by omega)] | rw [if_neg (by omega)]) (by omega)
            · refine V_aload_n X dX12_power_48 rfl ?_
              refine V_iload X dX12_power_49 rfl ?_
              refine V_callV (rest := [.int (nI x)]) X (c_X12_voices (Cl C) G a tx to dr be s pa im ke no fa tr ty kn nd att so ss va e (by first | assumption | omega) (by first | assumption | omega) (by first | assumption | omega)) mi_X12_voices kw_4_119 kw_4_121 kw_s_39 dX12_power_51 [0] rfl (by decide) 0 0 rfl rfl rfl rfl rfl rfl (by decide) (Nat.le_of_ble_eq_true rfl) ⟨rfl, rfl⟩ (fun _ _ => ?_)
              show V C 0 0 [gMod G a (nF tx) (nF to) (nF dr) (nF be) (nF s) (nF pa) (nF im) (nF ke) (nF no) (nF fa) (lN tr) (nI ty) (nI kn) (nI nd) (nI att) (nI so) (nI ss) (iI va)] 54 [some (.ref (a 0)), some (.int (nI p.toNat)), some (.int (nI q.toNat)), some (.int (nI x)), some (.int (nI e))] [.int (nI (bSum (fun j => to (9 + j)) e (to 0))), .int (nI x)]
              refine V_iload_n X dX12_power_54 rfl ?_
              refine V_icmp_geN X 76 dX12_power_55 (by decide) (by omega) (by omega) (fun c_11 => ?_) (fun c_11 => ?_)
              · refine V_iconst X (nI 0) dX12_power_76 (by decide) ?_
                refine V_weak (lv' := [some (.ref (a 0)), some (.int (nI p.toNat)), some (.int (nI q.toNat)), some (.int (nI x)), some (.int (nI e))]) (And.intro rfl (And.intro rfl (And.intro rfl (And.intro rfl (And.intro rfl trivial))))) ?_
                exact J_77_10 0 (by first | rw [if_pos (by omega)] | rw [if_neg (by omega)]) (by omega)
              · refine V_aload_n X dX12_power_58 rfl ?_
                refine V_iload X dX12_power_59 rfl ?_
                refine V_iconst X (nI 1) dX12_power_61 (by decide) ?_
                refine V_iload_n X dX12_power_62 rfl ?_
                refine V_ishl1N X dX12_power_63 (by omega) ?_
                refine V_iorN X dX12_power_64 ?_
                refine V_callV (rest := [.int (nI x)]) X (c_X12_voices (Cl C) G a tx to dr be s pa im ke no fa tr ty kn nd att so ss va (e ||| (2 ^ p.toNat)) (by first | assumption | omega) (by first | assumption | omega) (by first | assumption | omega)) mi_X12_voices kw_4_119 kw_4_121 kw_s_39 dX12_power_65 [0] rfl (by decide) 0 0 rfl rfl rfl rfl rfl rfl (by decide) (Nat.le_of_ble_eq_true rfl) ⟨rfl, rfl⟩ (fun _ _ => ?_)
                show V C 0 0 [gMod G a (nF tx) (nF to) (nF dr) (nF be) (nF s) (nF pa) (nF im) (nF ke) (nF no) (nF fa) (lN tr) (nI ty) (nI kn) (nI nd) (nI att) (nI so) (nI ss) (iI va)] 68 [some (.ref (a 0)), some (.int (nI p.toNat)), some (.int (nI q.toNat)), some (.int (nI x)), some (.int (nI e))] [.int (nI (bSum (fun j => to (9 + j)) (e ||| (2 ^ p.toNat)) (to 0))), .int (nI x)]
                refine V_iload_n X dX12_power_68 rfl ?_
                refine V_icmp_ltN X 76 dX12_power_69 (by decide) (by omega) (by omega) (fun c_12 => ?_) (fun c_12 => ?_)
                · refine V_iconst X (nI 0) dX12_power_76 (by decide) ?_
                  refine V_weak (lv' := [some (.ref (a 0)), some (.int (nI p.toNat)), some (.int (nI q.toNat)), some (.int (nI x)), some (.int (nI e))]) (And.intro rfl (And.intro rfl (And.intro rfl (And.intro rfl (And.intro rfl trivial))))) ?_
                  exact J_77_10 0 (by first | rw [if_pos (by omega)] | rw [if_neg (by omega)]) (by omega)
                · refine V_iconst X (nI 1) dX12_power_72 (by decide) ?_
                  refine V_goto X 77 dX12_power_73 (by decide) ?_
                  refine V_weak (lv' := [some (.ref (a 0)), some (.int (nI p.toNat)), some (.int (nI q.toNat)), some (.int (nI x)), some (.int (nI e))]) (And.intro rfl (And.intro rfl (And.intro rfl (And.intro rfl (And.intro rfl trivial))))) ?_
                  exact J_77_10 1 (by first | rw [if_pos (by omega)] | rw [if_neg (by omega)]) (by omega)
      refine V_weak (lv' := [some (.ref (a 0)), some (.int (nI p.toNat)), some (.int (nI q.toNat)), some (.int (nI 0)), some (.int (nI 0))]) (And.intro rfl (And.intro rfl (And.intro rfl (And.intro rfl (And.intro rfl trivial))))) ?_
      exact L_25 _ 0 0 (Nat.zero_le _) rfl (by omega) (by omega) (Nat.lt_succ_self _)
    · refine V_iconst X (-1) dX12_power_18 (by decide) ?_
      exact V_iret X Y () trivial (mv_ri (by simp only [spPower]; (repeat (first | rw [if_pos (by omega)] | rw [if_neg (by omega)])) <;> rfl)) rfl rfl dX12_power_19
set_option maxHeartbeats 4000000 in
set_option maxRecDepth 100000 in
theorem c_X12_found (l : Launch) (G : mvG) (a : Nat → Nat) (tx : Nat → Nat) (to : Nat → Nat) (dr : Nat → Nat) (be : Nat → Nat) (s : Nat → Nat) (pa : Nat → Nat) (im : Nat → Nat) (ke : Nat → Nat) (no : Nat → Nat) (fa : Nat → Nat) (tr : Nat) (ty : Nat) (kn : Nat) (nd : Nat) (att : Nat) (so : Nat) (ss : Nat) (va : Int) (x : Int) (y : Int) (hn : to 0 ≤ 5) (hnd : nd ≤ 6) (hx : -2147483648 ≤ x ∧ x < 2147483648) (hy : -2147483648 ≤ y ∧ y < 2147483648) : KQ l yX12_found cX12_found 3 (some .int) (1, 22) G [.ref (a 0), .int (iI x), .int (iI y)] [gMod G a (nF tx) (nF to) (nF dr) (nF be) (nF s) (nF pa) (nF im) (nF ke) (nF no) (nF fa) (lN tr) (nI ty) (nI kn) (nI nd) (nI att) (nI so) (nI ss) (iI va)] (fun (zz : Int × (Nat → Nat) × Nat) => some (.int (iI zz.1))) (fun (zz : Int × (Nat → Nat) × Nat) => ((x < 0 ∨ ((2 ^ to 0 : Nat) : Int) ≤ x ∨ y < 1 ∨ 9 < y) ∧ (zz.1 : Int) = -1 ∧ zz.2.1 = no ∧ zz.2.2 = nd) ∨ ((0 ≤ x ∧ x < ((2 ^ to 0 : Nat) : Int) ∧ 1 ≤ y ∧ y ≤ 9) ∧ nd = 6 ∧ (zz.1 : Int) = -3 ∧ zz.2.1 = no ∧ zz.2.2 = nd) ∨ ((0 ≤ x ∧ x < ((2 ^ to 0 : Nat) : Int) ∧ 1 ≤ y ∧ y ≤ 9) ∧ nd < 6 ∧ (zz.1 : Int) = (nd + 1 : Nat) ∧ zz.2.1 = va_up no nd (16 * x.toNat + y.toNat) ∧ zz.2.2 = nd + 1)) (fun (zz : Int × (Nat → Nat) × Nat) => [gMod G a (nF tx) (nF to) (nF dr) (nF be) (nF s) (nF pa) (nF im) (nF ke) (nF zz.2.1) (nF fa) (lN tr) (nI ty) (nI kn) (nI zz.2.2) (nI att) (nI so) (nI ss) (iI va)]) := by
  refine KQ.mk (by decide +kernel) (fun _ _ => rfl) [some (.ref (a 0)), some (.int (iI x)), some (.int (iI y))] (Nat.le_of_ble_eq_true rfl) rfl (fun C X Y hC => ?_)
  subst hC
  have hp5 := pow5 hn
  have hp1 : 1 ≤ 2 ^ to 0 := Nat.one_le_two_pow
  refine V_iload_n X dX12_found_0 rfl ?_
  refine V_iconst X (nI 0) dX12_found_1 (by decide) ?_
  refine V_iconst X (nI 1) dX12_found_2 (by decide) ?_
  refine V_aload_n X dX12_found_3 rfl ?_
  refine V_get X fl_X12_13 0 0 rfl rfl rfl dX12_found_4 ?_
  refine V_iconst X (nI 0) dX12_found_7 (by decide) ?_
  refine V_ialdN X 0 2 rfl rfl (by decide) (by decide) dX12_found_8 ?_
  refine V_ishl1N X dX12_found_9 (by omega) ?_
  refine V_iconst X (nI 1) dX12_found_10 (by decide) ?_
  refine V_isubN X dX12_found_11 (by omega) ?_
  refine V_callS (rest := []) X (c_X12_in (Cl C) G x ((0 : Nat) : Int) (((2 ^ (to 0)) - 1 : Nat) : Int) (by first | assumption | omega) (by first | assumption | omega) (by first | assumption | omega)) mi_X12_in kw_3_235 kw_3_236 dX12_found_12 [] rfl (by decide) rfl rfl (by decide) (Nat.le_of_ble_eq_true rfl) ⟨rfl, rfl⟩ (fun u_ hu_2 => ?_)
  obtain ⟨b_1, rfl⟩ : ∃ z, z = u_ := ⟨_, rfl⟩
  have hu_2 : (b_1 = 1 ∧ ((0 : Nat) : Int) ≤ x ∧ x ≤ (((2 ^ (to 0)) - 1 : Nat) : Int)) ∨ (b_1 = 0 ∧ (x < ((0 : Nat) : Int) ∨ (((2 ^ (to 0)) - 1 : Nat) : Int) < x)) := hu_2
  show V C 0 0 [gMod G a (nF tx) (nF to) (nF dr) (nF be) (nF s) (nF pa) (nF im) (nF ke) (nF no) (nF fa) (lN tr) (nI ty) (nI kn) (nI nd) (nI att) (nI so) (nI ss) (iI va)] 15 [some (.ref (a 0)), some (.int (iI x)), some (.int (iI y))] [.int (nI b_1)]
  refine V_if_eqN X 28 dX12_found_15 (by decide) (by omega) (fun c_3 => ?_) (fun c_3 => ?_)
  · refine V_iconst X (-1) dX12_found_28 (by decide) ?_
    exact V_iret X Y ⟨-1, no, nd⟩ (show ((x < 0 ∨ ((2 ^ to 0 : Nat) : Int) ≤ x ∨ y < 1 ∨ 9 < y) ∧ ((-1) : Int) = -1 ∧ no = no ∧ nd = nd) ∨ ((0 ≤ x ∧ x < ((2 ^ to 0 : Nat) : Int) ∧ 1 ≤ y ∧ y ≤ 9) ∧ nd = 6 ∧ ((-1) : Int) = -3 ∧ no = no ∧ nd = nd) ∨ ((0 ≤ x ∧ x < ((2 ^ to 0 : Nat) : Int) ∧ 1 ≤ y ∧ y ≤ 9) ∧ nd < 6 ∧ ((-1) : Int) = (nd + 1 : Nat) ∧ no = va_up no nd (16 * x.toNat + y.toNat) ∧ nd = nd + 1) from Or.inl ⟨by omega, rfl, rfl, rfl⟩) (mv_ri (by rfl)) rfl rfl dX12_found_29
  · refine V_iload_n X dX12_found_18 rfl ?_
    refine V_iconst X (nI 1) dX12_found_19 (by decide) ?_
    refine V_bipush X (nI 9) dX12_found_20 (by decide) ?_
    refine V_callS (rest := []) X (c_X12_in (Cl C) G y ((1 : Nat) : Int) ((9 : Nat) : Int) (by first | assumption | omega) (by first | assumption | omega) (by first | assumption | omega)) mi_X12_in kw_3_235 kw_3_236 dX12_found_22 [] rfl (by decide) rfl rfl (by decide) (Nat.le_of_ble_eq_true rfl) ⟨rfl, rfl⟩ (fun u_ hu_5 => ?_)
    obtain ⟨b_4, rfl⟩ : ∃ z, z = u_ := ⟨_, rfl⟩
    have hu_5 : (b_4 = 1 ∧ ((1 : Nat) : Int) ≤ y ∧ y ≤ ((9 : Nat) : Int)) ∨ (b_4 = 0 ∧ (y < ((1 : Nat) : Int) ∨ ((9 : Nat) : Int) < y)) := hu_5
    show V C 0 0 [gMod G a (nF tx) (nF to) (nF dr) (nF be) (nF s) (nF pa) (nF im) (nF ke) (nF no) (nF fa) (lN tr) (nI ty) (nI kn) (nI nd) (nI att) (nI so) (nI ss) (iI va)] 25 [some (.ref (a 0)), some (.int (iI x)), some (.int (iI y))] [.int (nI b_4)]
    refine V_if_neN X 30 dX12_found_25 (by decide) (by omega) (fun c_6 => ?_) (fun c_6 => ?_)
    · refine V_loc (y := (nI x.toNat)) 1 rfl (mv_sn (by omega)) ?_
      refine V_loc (y := (nI y.toNat)) 2 rfl (mv_sn (by omega)) ?_
      refine V_aload_n X dX12_found_30 rfl ?_
      refine V_get X fl_X12_92 0 0 rfl rfl rfl dX12_found_31 ?_
      refine V_bipush X (nI 6) dX12_found_34 (by decide) ?_
      refine V_icmp_neN X 42 dX12_found_36 (by decide) (by omega) (by decide) (fun c_7 => ?_) (fun c_7 => ?_)
      · refine V_aload_n X dX12_found_42 rfl ?_
        refine V_get X fl_X12_35 0 0 rfl rfl rfl dX12_found_43 ?_
        refine V_aload_n X dX12_found_46 rfl ?_
        refine V_get X fl_X12_92 0 0 rfl rfl rfl dX12_found_47 ?_
        refine V_bipush X (nI 16) dX12_found_50 (by decide) ?_
        refine V_iload_n X dX12_found_52 rfl ?_
        refine V_imulN X dX12_found_53 ?_
        refine V_iload_n X dX12_found_54 rfl ?_
        refine V_iaddN X dX12_found_55 ?_
        refine V_iastN X 0 9 rfl rfl (by omega) (by decide) dX12_found_56 ?_
        show V C 0 0 [gMod G a (nF tx) (nF to) (nF dr) (nF be) (nF s) (nF pa) (nF im) (nF ke) (nF (va_up no nd ((16 * x.toNat) + y.toNat))) (nF fa) (lN tr) (nI ty) (nI kn) (nI nd) (nI att) (nI so) (nI ss) (iI va)] 57 [some (.ref (a 0)), some (.int (nI x.toNat)), some (.int (nI y.toNat))] []
        refine V_aload_n X dX12_found_57 rfl ?_
        refine V_dup X dX12_found_58 rfl ?_
        refine V_get X fl_X12_92 0 0 rfl rfl rfl dX12_found_59 ?_
        refine V_iconst X (nI 1) dX12_found_62 (by decide) ?_
        refine V_iaddN X dX12_found_63 ?_
        refine V_put X fl_X12_92 0 0 rfl rfl rfl rfl (Nat.le_of_ble_eq_true rfl) dX12_found_64 ?_
        show V C 0 0 [gMod G a (nF tx) (nF to) (nF dr) (nF be) (nF s) (nF pa) (nF im) (nF ke) (nF (va_up no nd ((16 * x.toNat) + y.toNat))) (nF fa) (lN tr) (nI ty) (nI kn) (nI (nd + 1)) (nI att) (nI so) (nI ss) (iI va)] 67 [some (.ref (a 0)), some (.int (nI x.toNat)), some (.int (nI y.toNat))] []
        refine V_aload_n X dX12_found_67 rfl ?_
        refine V_get X fl_X12_92 0 0 rfl rfl rfl dX12_found_68 ?_
        exact V_iret X Y ⟨((nd + 1 : Nat) : Int), va_up no nd ((16 * x.toNat) + y.toNat), nd + 1⟩ (show ((x < 0 ∨ ((2 ^ to 0 : Nat) : Int) ≤ x ∨ y < 1 ∨ 9 < y) ∧ (((nd + 1 : Nat) : Int) : Int) = -1 ∧ (va_up no nd ((16 * x.toNat) + y.toNat)) = no ∧ (nd + 1) = nd) ∨ ((0 ≤ x ∧ x < ((2 ^ to 0 : Nat) : Int) ∧ 1 ≤ y ∧ y ≤ 9) ∧ nd = 6 ∧ (((nd + 1 : Nat) : Int) : Int) = -3 ∧ (va_up no nd ((16 * x.toNat) + y.toNat)) = no ∧ (nd + 1) = nd) ∨ ((0 ≤ x ∧ x < ((2 ^ to 0 : Nat) : Int) ∧ 1 ≤ y ∧ y ≤ 9) ∧ nd < 6 ∧ (((nd + 1 : Nat) : Int) : Int) = (nd + 1 : Nat) ∧ (va_up no nd ((16 * x.toNat) + y.toNat)) = va_up no nd (16 * x.toNat + y.toNat) ∧ (nd + 1) = nd + 1) from Or.inr (Or.inr ⟨by omega, by omega, rfl, rfl, rfl⟩)) (mv_ri (by rfl)) rfl rfl dX12_found_71
      · refine V_bipush X (-3) dX12_found_39 (by decide) ?_
        exact V_iret X Y ⟨-3, no, nd⟩ (show ((x < 0 ∨ ((2 ^ to 0 : Nat) : Int) ≤ x ∨ y < 1 ∨ 9 < y) ∧ ((-3) : Int) = -1 ∧ no = no ∧ nd = nd) ∨ ((0 ≤ x ∧ x < ((2 ^ to 0 : Nat) : Int) ∧ 1 ≤ y ∧ y ≤ 9) ∧ nd = 6 ∧ ((-3) : Int) = -3 ∧ no = no ∧ nd = nd) ∨ ((0 ≤ x ∧ x < ((2 ^ to 0 : Nat) : Int) ∧ 1 ≤ y ∧ y ≤ 9) ∧ nd < 6 ∧ ((-3) : Int) = (nd + 1 : Nat) ∧ no = va_up no nd (16 * x.toNat + y.toNat) ∧ nd = nd + 1) from Or.inr (Or.inl ⟨by omega, by omega, rfl, rfl, rfl⟩)) (mv_ri (by rfl)) rfl rfl dX12_found_41
    · refine V_iconst X (-1) dX12_found_28 (by decide) ?_
      exact V_iret X Y ⟨-1, no, nd⟩ (show ((x < 0 ∨ ((2 ^ to 0 : Nat) : Int) ≤ x ∨ y < 1 ∨ 9 < y) ∧ ((-1) : Int) = -1 ∧ no = no ∧ nd = nd) ∨ ((0 ≤ x ∧ x < ((2 ^ to 0 : Nat) : Int) ∧ 1 ≤ y ∧ y ≤ 9) ∧ nd = 6 ∧ ((-1) : Int) = -3 ∧ no = no ∧ nd = nd) ∨ ((0 ≤ x ∧ x < ((2 ^ to 0 : Nat) : Int) ∧ 1 ≤ y ∧ y ≤ 9) ∧ nd < 6 ∧ ((-1) : Int) = (nd + 1 : Nat) ∧ no = va_up no nd (16 * x.toNat + y.toNat) ∧ nd = nd + 1) from Or.inl ⟨by omega, rfl, rfl, rfl⟩) (mv_ri (by rfl)) rfl rfl dX12_found_29
set_option maxHeartbeats 4000000 in
set_option maxRecDepth 100000 in
theorem c_X12_forget (l : Launch) (G : mvG) (a : Nat → Nat) (tx : Nat → Nat) (to : Nat → Nat) (dr : Nat → Nat) (be : Nat → Nat) (s : Nat → Nat) (pa : Nat → Nat) (im : Nat → Nat) (ke : Nat → Nat) (no : Nat → Nat) (fa : Nat → Nat) (tr : Nat) (ty : Nat) (kn : Nat) (nd : Nat) (att : Nat) (so : Nat) (ss : Nat) (va : Int) : KQ l yX12_forget cX12_forget 2 (some .int) (0, 0) G [.ref (a 0)] [gMod G a (nF tx) (nF to) (nF dr) (nF be) (nF s) (nF pa) (nF im) (nF ke) (nF no) (nF fa) (lN tr) (nI ty) (nI kn) (nI nd) (nI att) (nI so) (nI ss) (iI va)] (fun (_ : Unit) => some (.int (nI nd))) (fun (_ : Unit) => True) (fun (_ : Unit) => [gMod G a (nF tx) (nF to) (nF dr) (nF be) (nF s) (nF pa) (nF im) (nF ke) (nF no) (nF fa) (lN tr) (nI ty) (nI kn) (nI 0) (nI att) (nI so) (nI ss) (iI va)]) := by
  refine KQ.mk (by decide +kernel) (fun _ _ => rfl) [some (.ref (a 0)), none] (Nat.le_of_ble_eq_true rfl) rfl (fun C X Y hC => ?_)
  subst hC
  refine V_aload_n X dX12_forget_0 rfl ?_
  refine V_get X fl_X12_92 0 0 rfl rfl rfl dX12_forget_1 ?_
  refine V_istore_n X dX12_forget_4 (by decide) rfl ?_
  refine V_aload_n X dX12_forget_5 rfl ?_
  refine V_iconst X (nI 0) dX12_forget_6 (by decide) ?_
  refine V_put X fl_X12_92 0 0 rfl rfl rfl rfl (Nat.le_of_ble_eq_true rfl) dX12_forget_7 ?_
  show V C 0 0 [gMod G a (nF tx) (nF to) (nF dr) (nF be) (nF s) (nF pa) (nF im) (nF ke) (nF no) (nF fa) (lN tr) (nI ty) (nI kn) (nI 0) (nI att) (nI so) (nI ss) (iI va)] 10 [some (.ref (a 0)), some (.int (nI nd))] []
  refine V_iload_n X dX12_forget_10 rfl ?_
  exact V_iret X Y () trivial rfl rfl rfl dX12_forget_11
set_option maxHeartbeats 4000000 in
set_option maxRecDepth 100000 in
theorem c_X12_rate (l : Launch) (G : mvG) (a : Nat → Nat) (tx : Nat → Nat) (to : Nat → Nat) (dr : Nat → Nat) (be : Nat → Nat) (s : Nat → Nat) (pa : Nat → Nat) (im : Nat → Nat) (ke : Nat → Nat) (no : Nat → Nat) (fa : Nat → Nat) (tr : Nat) (ty : Nat) (kn : Nat) (nd : Nat) (att : Nat) (so : Nat) (ss : Nat) (va : Int) (k : Int) (p : Int) (hn : to 0 ≤ 5) (hs : ∀ j, j < 5 → s j < 36) (hde : ∀ c, c < 36 → s (5 + c) < 80 ∧ s (5 + c) % 16 ≤ 9) (hk : -2147483648 ≤ k ∧ k < 2147483648) (hp : -2147483648 ≤ p ∧ p < 2147483648) : KQ l yX12_rate cX12_rate 6 (some .int) (2, 43) G [.ref (a 0), .int (iI k), .int (iI p)] [gMod G a (nF tx) (nF to) (nF dr) (nF be) (nF s) (nF pa) (nF im) (nF ke) (nF no) (nF fa) (lN tr) (nI ty) (nI kn) (nI nd) (nI att) (nI so) (nI ss) (iI va)] (fun (zz : Nat) => some (.int (iI (spRate (fun j => to (4 + j)) (fun j => to (9 + j)) (to 0) s (fun c => s (5 + c) % 16) (s 42) k p)))) (fun (zz : Nat) => zz = tr + spTr (to 0) k p) (fun (zz : Nat) => [gMod G a (nF tx) (nF to) (nF dr) (nF be) (nF s) (nF pa) (nF im) (nF ke) (nF no) (nF fa) (lN zz) (nI ty) (nI kn) (nI nd) (nI att) (nI so) (nI ss) (iI va)]) := by
  refine KQ.mk (by decide +kernel) (fun _ _ => rfl) [some (.ref (a 0)), some (.int (iI k)), some (.int (iI p)), none, none, none] (Nat.le_of_ble_eq_true rfl) rfl (fun C X Y hC => ?_)
  subst hC
  refine V_iload_n X dX12_rate_0 rfl ?_
  refine V_iconst X (nI 0) dX12_rate_1 (by decide) ?_
  refine V_iconst X (nI 5) dX12_rate_2 (by decide) ?_
  refine V_callS (rest := []) X (c_X12_in (Cl C) G k ((0 : Nat) : Int) ((5 : Nat) : Int) (by first | assumption | omega) (by first | assumption | omega) (by first | assumption | omega)) mi_X12_in kw_3_235 kw_3_236 dX12_rate_3 [] rfl (by decide) rfl rfl (by decide) (Nat.le_of_ble_eq_true rfl) ⟨rfl, rfl⟩ (fun u_ hu_2 => ?_)
  obtain ⟨b_1, rfl⟩ : ∃ z, z = u_ := ⟨_, rfl⟩
  have hu_2 : (b_1 = 1 ∧ ((0 : Nat) : Int) ≤ k ∧ k ≤ ((5 : Nat) : Int)) ∨ (b_1 = 0 ∧ (k < ((0 : Nat) : Int) ∨ ((5 : Nat) : Int) < k)) := hu_2
  show V C 0 0 [gMod G a (nF tx) (nF to) (nF dr) (nF be) (nF s) (nF pa) (nF im) (nF ke) (nF no) (nF fa) (lN tr) (nI ty) (nI kn) (nI nd) (nI att) (nI so) (nI ss) (iI va)] 6 [some (.ref (a 0)), some (.int (iI k)), some (.int (iI p)), none, none, none] [.int (nI b_1)]
  refine V_if_eqN X 17 dX12_rate_6 (by decide) (by omega) (fun c_3 => ?_) (fun c_3 => ?_)
  · refine V_ldc X kw_4_226 dX12_rate_17 ?_
    exact V_iret X Y tr (by simp only [spTr]; rw [if_neg (by omega)]; rfl) (mv_ri (by simp only [spRate]; rw [if_neg (by omega)]; rfl)) rfl rfl dX12_rate_19
  · refine V_aload_n X dX12_rate_9 rfl ?_
    refine V_iload_n X dX12_rate_10 rfl ?_
    refine V_callV (rest := []) X (c_X12_isOne (Cl C) G a tx to dr be s pa im ke no fa tr ty kn nd att so ss va p (by first | assumption | omega) (by first | assumption | omega)) mi_X12_isOne kw_4_100 kw_4_102 kw_s_36 dX12_rate_11 [0] rfl (by decide) 0 0 rfl rfl rfl rfl rfl rfl (by decide) (Nat.le_of_ble_eq_true rfl) ⟨rfl, rfl⟩ (fun u_ hu_5 => ?_)
    obtain ⟨b_4, rfl⟩ : ∃ z, z = u_ := ⟨_, rfl⟩
    have hu_5 : (b_4 = 1 ∧ 0 ≤ p ∧ p < (to 0 : Int)) ∨ (b_4 = 0 ∧ (p < 0 ∨ (to 0 : Int) ≤ p)) := hu_5
    show V C 0 0 [gMod G a (nF tx) (nF to) (nF dr) (nF be) (nF s) (nF pa) (nF im) (nF ke) (nF no) (nF fa) (lN tr) (nI ty) (nI kn) (nI nd) (nI att) (nI so) (nI ss) (iI va)] 14 [some (.ref (a 0)), some (.int (iI k)), some (.int (iI p)), none, none, none] [.int (nI b_4)]
    refine V_if_neN X 20 dX12_rate_14 (by decide) (by omega) (fun c_6 => ?_) (fun c_6 => ?_)
    · refine V_loc (y := (nI k.toNat)) 1 rfl (mv_sn (by omega)) ?_
      refine V_loc (y := (nI p.toNat)) 2 rfl (mv_sn (by omega)) ?_
      have hsp := hs p.toNat (by omega)
      refine V_aload_n X dX12_rate_20 rfl ?_
      refine V_dup X dX12_rate_21 rfl ?_
      refine V_get X fl_X12_162 0 0 rfl rfl rfl dX12_rate_22 ?_
      refine V_iload_n X dX12_rate_25 rfl ?_
      have J_80_7 : ∀ (t : Nat) (ht : t = spTr (to 0) k p), V C 0 0 [gMod G a (nF tx) (nF to) (nF dr) (nF be) (nF s) (nF pa) (nF im) (nF ke) (nF no) (nF fa) (lN tr) (nI ty) (nI kn) (nI nd) (nI att) (nI so) (nI ss) (iI va)] 80 [some (.ref (a 0)), some (.int (nI k.toNat)), some (.int (nI p.toNat)), none, none, none] [.long (lN t), .long (lN tr), .ref (a 0)] := by
        intro t ht
        refine V_laddN X dX12_rate_80 ?_
        refine V_put X fl_X12_162 0 0 rfl rfl rfl rfl (Nat.le_of_ble_eq_true rfl) dX12_rate_81 ?_
        show V C 0 0 [gMod G a (nF tx) (nF to) (nF dr) (nF be) (nF s) (nF pa) (nF im) (nF ke) (nF no) (nF fa) (lN (tr + t)) (nI ty) (nI kn) (nI nd) (nI att) (nI so) (nI ss) (iI va)] 84 [some (.ref (a 0)), some (.int (nI k.toNat)), some (.int (nI p.toNat)), none, none, none] []
        refine V_aload_n X dX12_rate_84 rfl ?_
        refine V_get X fl_X12_13 0 0 rfl rfl rfl dX12_rate_85 ?_
        refine V_iconst X (nI 4) dX12_rate_88 (by decide) ?_
        refine V_iload_n X dX12_rate_89 rfl ?_
        refine V_iaddN X dX12_rate_90 ?_
        refine V_ialdN X 0 2 rfl rfl (by omega) (by decide) dX12_rate_91 ?_
        refine V_istore_n X dX12_rate_92 (by decide) rfl ?_
        refine V_iload_n X dX12_rate_93 rfl ?_
        refine V_aload_n X dX12_rate_94 rfl ?_
        refine V_get X fl_X12_13 0 0 rfl rfl rfl dX12_rate_95 ?_
        refine V_bipush X (nI 9) dX12_rate_98 (by decide) ?_
        refine V_iload_n X dX12_rate_100 rfl ?_
        refine V_iaddN X dX12_rate_101 ?_
        refine V_ialdN X 0 2 rfl rfl (by omega) (by decide) dX12_rate_102 ?_
        refine V_iaddN X dX12_rate_103 ?_
        refine V_istore X dX12_rate_104 (by decide) rfl ?_
        refine V_iload_n X dX12_rate_106 rfl ?_
        refine V_aload_n X dX12_rate_107 rfl ?_
        refine V_aload_n X dX12_rate_108 rfl ?_
        refine V_get X fl_X12_22 0 0 rfl rfl rfl dX12_rate_109 ?_
        refine V_iload_n X dX12_rate_112 rfl ?_
        refine V_ialdN X 0 5 rfl rfl (by omega) (by decide) dX12_rate_113 ?_
        refine V_callV (rest := [.int (nI (to (4 + p.toNat)))]) X (c_X12_deep (Cl C) G a tx to dr be s pa im ke no fa (tr + t) ty kn nd att so ss va (s p.toNat) (by first | assumption | omega) (by first | assumption | omega)) mi_X12_deep kw_4_84 kw_4_86 kw_s_33 dX12_rate_114 [0] rfl (by decide) 0 0 rfl rfl rfl rfl rfl rfl (by decide) (Nat.le_of_ble_eq_true rfl) ⟨rfl, rfl⟩ (fun _ _ => ?_)
        show V C 0 0 [gMod G a (nF tx) (nF to) (nF dr) (nF be) (nF s) (nF pa) (nF im) (nF ke) (nF no) (nF fa) (lN (tr + t)) (nI ty) (nI kn) (nI nd) (nI att) (nI so) (nI ss) (iI va)] 117 [some (.ref (a 0)), some (.int (nI k.toNat)), some (.int (nI p.toNat)), some (.int (nI (to (4 + p.toNat)))), some (.int (nI ((to (4 + p.toNat)) + (to (9 + p.toNat))))), none] [.int (nI (s (5 + (s p.toNat)) % 16)), .int (nI (to (4 + p.toNat)))]
        refine V_two (show (nI (to (4 + p.toNat))) = iI ((to (4 + p.toNat) : Nat) : Int) from rfl) (show (nI (s (5 + (s p.toNat)) % 16)) = iI ((s (5 + (s p.toNat)) % 16 : Nat) : Int) from rfl) ?_
        refine V_isubS X dX12_rate_117 ?_
        refine V_istore X dX12_rate_118 (by decide) rfl ?_
        refine V_iload_n X dX12_rate_120 rfl ?_
        have J_181_8 : ∀ (z : Int) (hz : z = spRate (fun j => to (4 + j)) (fun j => to (9 + j)) (to 0) s (fun c => s (5 + c) % 16) (s 42) k p), V C 0 0 [gMod G a (nF tx) (nF to) (nF dr) (nF be) (nF s) (nF pa) (nF im) (nF ke) (nF no) (nF fa) (lN (tr + t)) (nI ty) (nI kn) (nI nd) (nI att) (nI so) (nI ss) (iI va)] 181 [some (.ref (a 0)), some (.int (nI k.toNat)), some (.int (nI p.toNat)), some (.int (nI (to (4 + p.toNat)))), some (.int (nI ((to (4 + p.toNat)) + (to (9 + p.toNat))))), some (.int (iI (((to (4 + p.toNat) : Nat) : Int) - ((s (5 + (s p.toNat)) % 16 : Nat) : Int))))] [.int (iI z)] := by
          intro z hz
          exact V_iret X Y (tr + t) (by rw [ht]) (mv_si (hz.symm)) rfl rfl dX12_rate_181
        refine V_if_neN X 128 dX12_rate_121 (by decide) (by omega) (fun c_8 => ?_) (fun c_8 => ?_)
        · refine V_iload_n X dX12_rate_128 rfl ?_
          refine V_iconst X (nI 1) dX12_rate_129 (by decide) ?_
          refine V_icmp_neN X 138 dX12_rate_130 (by decide) (by omega) (by decide) (fun c_9 => ?_) (fun c_9 => ?_)
          · refine V_iload_n X dX12_rate_138 rfl ?_
            refine V_iconst X (nI 2) dX12_rate_139 (by decide) ?_
            refine V_icmp_neN X 148 dX12_rate_140 (by decide) (by omega) (by decide) (fun c_10 => ?_) (fun c_10 => ?_)
            · refine V_iload_n X dX12_rate_148 rfl ?_
              refine V_iconst X (nI 3) dX12_rate_149 (by decide) ?_
              refine V_icmp_neN X 160 dX12_rate_150 (by decide) (by omega) (by decide) (fun c_11 => ?_) (fun c_11 => ?_)
              · refine V_iload_n X dX12_rate_160 rfl ?_
                refine V_iconst X (nI 4) dX12_rate_161 (by decide) ?_
                refine V_icmp_neN X 172 dX12_rate_162 (by decide) (by omega) (by decide) (fun c_12 => ?_) (fun c_12 => ?_)
                · refine V_iload_n X dX12_rate_172 rfl ?_
                  refine V_aload_n X dX12_rate_173 rfl ?_
                  refine V_get X fl_X12_22 0 0 rfl rfl rfl dX12_rate_174 ?_
                  refine V_bipush X (nI 42) dX12_rate_177 (by decide) ?_
                  refine V_ialdN X 0 5 rfl rfl (by decide) (by decide) dX12_rate_179 ?_
                  refine V_iaddN X dX12_rate_180 ?_
                  refine V_weak (lv' := [some (.ref (a 0)), some (.int (nI k.toNat)), some (.int (nI p.toNat)), some (.int (nI (to (4 + p.toNat)))), some (.int (nI ((to (4 + p.toNat)) + (to (9 + p.toNat))))), some (.int (iI (((to (4 + p.toNat) : Nat) : Int) - ((s (5 + (s p.toNat)) % 16 : Nat) : Int))))]) (And.intro rfl (And.intro rfl (And.intro rfl (And.intro rfl (And.intro rfl (And.intro rfl trivial)))))) ?_
                  exact J_181_8 ((to (4 + p.toNat)) + (s 42) : Nat) (by simp only [spRate]; (repeat (first | rw [if_pos (by omega)] | rw [if_neg (by omega)])); try omega)
                · refine V_iload X dX12_rate_165 rfl ?_
                  refine V_iload_n X dX12_rate_167 rfl ?_
                  refine V_two (show (iI (((to (4 + p.toNat) : Nat) : Int) - ((s (5 + (s p.toNat)) % 16 : Nat) : Int))) = iI (((to (4 + p.toNat) : Nat) : Int) - ((s (5 + (s p.toNat)) % 16 : Nat) : Int) : Int) from rfl) (show (nI p.toNat) = iI ((p.toNat : Nat) : Int) from rfl) ?_
                  refine V_iaddS X dX12_rate_168 ?_
                  refine V_goto X 181 dX12_rate_169 (by decide) ?_
                  refine V_weak (lv' := [some (.ref (a 0)), some (.int (nI k.toNat)), some (.int (nI p.toNat)), some (.int (nI (to (4 + p.toNat)))), some (.int (nI ((to (4 + p.toNat)) + (to (9 + p.toNat))))), some (.int (iI (((to (4 + p.toNat) : Nat) : Int) - ((s (5 + (s p.toNat)) % 16 : Nat) : Int))))]) (And.intro rfl (And.intro rfl (And.intro rfl (And.intro rfl (And.intro rfl (And.intro rfl trivial)))))) ?_
                  exact J_181_8 ((((to (4 + p.toNat) : Nat) : Int) - ((s (5 + (s p.toNat)) % 16 : Nat) : Int) : Int) + ((p.toNat : Nat) : Int)) (by simp only [spRate]; (repeat (first | rw [if_pos (by omega)] | rw [if_neg (by omega)])); try omega)
              · refine V_iconst X (nI 2) dX12_rate_153 (by decide) ?_
                refine V_iload X dX12_rate_154 rfl ?_
                refine V_imulN X dX12_rate_156 ?_
                refine V_goto X 181 dX12_rate_157 (by decide) ?_
                refine V_weak (lv' := [some (.ref (a 0)), some (.int (nI k.toNat)), some (.int (nI p.toNat)), some (.int (nI (to (4 + p.toNat)))), some (.int (nI ((to (4 + p.toNat)) + (to (9 + p.toNat))))), some (.int (iI (((to (4 + p.toNat) : Nat) : Int) - ((s (5 + (s p.toNat)) % 16 : Nat) : Int))))]) (And.intro rfl (And.intro rfl (And.intro rfl (And.intro rfl (And.intro rfl (And.intro rfl trivial)))))) ?_
                exact J_181_8 (2 * ((to (4 + p.toNat)) + (to (9 + p.toNat))) : Nat) (by simp only [spRate]; (repeat (first | rw [if_pos (by omega)] | rw [if_neg (by omega)])); try omega)
            · refine V_iload X dX12_rate_143 rfl ?_
              refine V_goto X 181 dX12_rate_145 (by decide) ?_
              refine V_weak (lv' := [some (.ref (a 0)), some (.int (nI k.toNat)), some (.int (nI p.toNat)), some (.int (nI (to (4 + p.toNat)))), some (.int (nI ((to (4 + p.toNat)) + (to (9 + p.toNat))))), some (.int (iI (((to (4 + p.toNat) : Nat) : Int) - ((s (5 + (s p.toNat)) % 16 : Nat) : Int))))]) (And.intro rfl (And.intro rfl (And.intro rfl (And.intro rfl (And.intro rfl (And.intro rfl trivial)))))) ?_
              exact J_181_8 (((to (4 + p.toNat) : Nat) : Int) - ((s (5 + (s p.toNat)) % 16 : Nat) : Int)) (by simp only [spRate]; (repeat (first | rw [if_pos (by omega)] | rw [if_neg (by omega)])); try omega)
          · refine V_iload X dX12_rate_133 rfl ?_
            refine V_goto X 181 dX12_rate_135 (by decide) ?_
            refine V_weak (lv' := [some (.ref (a 0)), some (.int (nI k.toNat)), some (.int (nI p.toNat)), some (.int (nI (to (4 + p.toNat)))), some (.int (nI ((to (4 + p.toNat)) + (to (9 + p.toNat))))), some (.int (iI (((to (4 + p.toNat) : Nat) : Int) - ((s (5 + (s p.toNat)) % 16 : Nat) : Int))))]) (And.intro rfl (And.intro rfl (And.intro rfl (And.intro rfl (And.intro rfl (And.intro rfl trivial)))))) ?_
            exact J_181_8 ((to (4 + p.toNat)) + (to (9 + p.toNat)) : Nat) (by simp only [spRate]; (repeat (first | rw [if_pos (by omega)] | rw [if_neg (by omega)])); try omega)
        · refine V_iload_n X dX12_rate_124 rfl ?_
          refine V_goto X 181 dX12_rate_125 (by decide) ?_
          refine V_weak (lv' := [some (.ref (a 0)), some (.int (nI k.toNat)), some (.int (nI p.toNat)), some (.int (nI (to (4 + p.toNat)))), some (.int (nI ((to (4 + p.toNat)) + (to (9 + p.toNat))))), some (.int (iI (((to (4 + p.toNat) : Nat) : Int) - ((s (5 + (s p.toNat)) % 16 : Nat) : Int))))]) (And.intro rfl (And.intro rfl (And.intro rfl (And.intro rfl (And.intro rfl (And.intro rfl trivial)))))) ?_
          exact J_181_8 (to (4 + p.toNat) : Nat) (by simp only [spRate]; (repeat (first | rw [if_pos (by omega)] | rw [if_neg (by omega)])); try omega)
      refine V_if_neN X 33 dX12_rate_26 (by decide) (by omega) (fun c_7 => ?_) (fun c_7 => ?_)
      · refine V_iload_n X dX12_rate_33 rfl ?_
        refine V_iconst X (nI 1) dX12_rate_34 (by decide) ?_
        refine V_icmp_neN X 44 dX12_rate_35 (by decide) (by omega) (by decide) (fun c_13 => ?_) (fun c_13 => ?_)
        · refine V_iload_n X dX12_rate_44 rfl ?_
          refine V_iconst X (nI 2) dX12_rate_45 (by decide) ?_
          refine V_icmp_neN X 55 dX12_rate_46 (by decide) (by omega) (by decide) (fun c_14 => ?_) (fun c_14 => ?_)
          · refine V_iload_n X dX12_rate_55 rfl ?_
            refine V_iconst X (nI 3) dX12_rate_56 (by decide) ?_
            refine V_icmp_neN X 66 dX12_rate_57 (by decide) (by omega) (by decide) (fun c_15 => ?_) (fun c_15 => ?_)
            · refine V_iload_n X dX12_rate_66 rfl ?_
              refine V_iconst X (nI 4) dX12_rate_67 (by decide) ?_
              refine V_icmp_neN X 77 dX12_rate_68 (by decide) (by omega) (by decide) (fun c_16 => ?_) (fun c_16 => ?_)
              · refine V_ldc2 X kw_4_231 dX12_rate_77 ?_
                refine V_topl (show (100001 : Int64) = lN 100001 from by decide +kernel) ?_
                refine V_weak (lv' := [some (.ref (a 0)), some (.int (nI k.toNat)), some (.int (nI p.toNat)), none, none, none]) (And.intro rfl (And.intro rfl (And.intro rfl trivial))) ?_
                exact J_80_7 100001 (by simp only [spTr]; repeat (first | rw [if_pos (by omega)] | rw [if_neg (by omega)]))
              · refine V_ldc2 X kw_4_230 dX12_rate_71 ?_
                refine V_topl (show (10101 : Int64) = lN 10101 from by decide +kernel) ?_
                refine V_goto X 80 dX12_rate_74 (by decide) ?_
                refine V_weak (lv' := [some (.ref (a 0)), some (.int (nI k.toNat)), some (.int (nI p.toNat)), none, none, none]) (And.intro rfl (And.intro rfl (And.intro rfl trivial))) ?_
                exact J_80_7 10101 (by simp only [spTr]; repeat (first | rw [if_pos (by omega)] | rw [if_neg (by omega)]))
            · refine V_ldc2 X kw_4_229 dX12_rate_60 ?_
              refine V_topl (show (1011 : Int64) = lN 1011 from by decide +kernel) ?_
              refine V_goto X 80 dX12_rate_63 (by decide) ?_
              refine V_weak (lv' := [some (.ref (a 0)), some (.int (nI k.toNat)), some (.int (nI p.toNat)), none, none, none]) (And.intro rfl (And.intro rfl (And.intro rfl trivial))) ?_
              exact J_80_7 1011 (by simp only [spTr]; repeat (first | rw [if_pos (by omega)] | rw [if_neg (by omega)]))
          · refine V_ldc2 X kw_4_228 dX12_rate_49 ?_
            refine V_topl (show (101 : Int64) = lN 101 from by decide +kernel) ?_
            refine V_goto X 80 dX12_rate_52 (by decide) ?_
            refine V_weak (lv' := [some (.ref (a 0)), some (.int (nI k.toNat)), some (.int (nI p.toNat)), none, none, none]) (And.intro rfl (And.intro rfl (And.intro rfl trivial))) ?_
            exact J_80_7 101 (by simp only [spTr]; repeat (first | rw [if_pos (by omega)] | rw [if_neg (by omega)]))
        · refine V_ldc2 X kw_4_227 dX12_rate_38 ?_
          refine V_topl (show (11 : Int64) = lN 11 from by decide +kernel) ?_
          refine V_goto X 80 dX12_rate_41 (by decide) ?_
          refine V_weak (lv' := [some (.ref (a 0)), some (.int (nI k.toNat)), some (.int (nI p.toNat)), none, none, none]) (And.intro rfl (And.intro rfl (And.intro rfl trivial))) ?_
          exact J_80_7 11 (by simp only [spTr]; repeat (first | rw [if_pos (by omega)] | rw [if_neg (by omega)]))
      · refine V_lconst X (lN 1) dX12_rate_29 (by decide) ?_
        refine V_goto X 80 dX12_rate_30 (by decide) ?_
        refine V_weak (lv' := [some (.ref (a 0)), some (.int (nI k.toNat)), some (.int (nI p.toNat)), none, none, none]) (And.intro rfl (And.intro rfl (And.intro rfl trivial))) ?_
        exact J_80_7 1 (by simp only [spTr]; repeat (first | rw [if_pos (by omega)] | rw [if_neg (by omega)]))
    · refine V_ldc X kw_4_226 dX12_rate_17 ?_
      exact V_iret X Y tr (by simp only [spTr]; rw [if_neg (by omega)]; rfl) (mv_ri (by simp only [spRate]; rw [if_neg (by omega)]; rfl)) rfl rfl dX12_rate_19
set_option maxHeartbeats 4000000 in
set_option maxRecDepth 100000 in
theorem c_X12_keep (l : Launch) (G : mvG) (a : Nat → Nat) (tx : Nat → Nat) (to : Nat → Nat) (dr : Nat → Nat) (be : Nat → Nat) (s : Nat → Nat) (pa : Nat → Nat) (im : Nat → Nat) (ke : Nat → Nat) (no : Nat → Nat) (fa : Nat → Nat) (tr : Nat) (ty : Nat) (kn : Nat) (nd : Nat) (att : Nat) (so : Nat) (ss : Nat) (va : Int) (x : Int) (hx : -2147483648 ≤ x ∧ x < 2147483648) : KQ l yX12_keep cX12_keep 3 (some .int) (1, 22) G [.ref (a 0), .int (iI x)] [gMod G a (nF tx) (nF to) (nF dr) (nF be) (nF s) (nF pa) (nF im) (nF ke) (nF no) (nF fa) (lN tr) (nI ty) (nI kn) (nI nd) (nI att) (nI so) (nI ss) (iI va)] (fun (zz : Int × (Nat → Nat) × (Nat → Nat)) => some (.int (iI zz.1))) (fun (zz : Int × (Nat → Nat) × (Nat → Nat)) => ((x < 0 ∨ 1 < x) ∧ (zz.1 : Int) = -1 ∧ zz.2.1 = im ∧ zz.2.2 = ke) ∨ ((0 ≤ x ∧ x < 2) ∧ (zz.1 : Int) = (s 41 : Nat) ∧ (∀ j, j < 44 → zz.2.1 (44 * x.toNat + j) = s j) ∧ (∀ j, j < 44 → zz.2.1 (44 * (1 - x.toNat) + j) = im (44 * (1 - x.toNat) + j)) ∧ zz.2.2 = va_up ke x.toNat 1)) (fun (zz : Int × (Nat → Nat) × (Nat → Nat)) => [gMod G a (nF tx) (nF to) (nF dr) (nF be) (nF s) (nF pa) (nF zz.2.1) (nF zz.2.2) (nF no) (nF fa) (lN tr) (nI ty) (nI kn) (nI nd) (nI att) (nI so) (nI ss) (iI va)]) := by
  refine KQ.mk (by decide +kernel) (fun _ _ => rfl) [some (.ref (a 0)), some (.int (iI x)), none] (Nat.le_of_ble_eq_true rfl) rfl (fun C X Y hC => ?_)
  subst hC
  refine V_iload_n X dX12_keep_0 rfl ?_
  refine V_iconst X (nI 0) dX12_keep_1 (by decide) ?_
  refine V_iconst X (nI 1) dX12_keep_2 (by decide) ?_
  refine V_callS (rest := []) X (c_X12_in (Cl C) G x ((0 : Nat) : Int) ((1 : Nat) : Int) (by first | assumption | omega) (by first | assumption | omega) (by first | assumption | omega)) mi_X12_in kw_3_235 kw_3_236 dX12_keep_3 [] rfl (by decide) rfl rfl (by decide) (Nat.le_of_ble_eq_true rfl) ⟨rfl, rfl⟩ (fun u_ hu_2 => ?_)
  obtain ⟨b_1, rfl⟩ : ∃ z, z = u_ := ⟨_, rfl⟩
  have hu_2 : (b_1 = 1 ∧ ((0 : Nat) : Int) ≤ x ∧ x ≤ ((1 : Nat) : Int)) ∨ (b_1 = 0 ∧ (x < ((0 : Nat) : Int) ∨ ((1 : Nat) : Int) < x)) := hu_2
  show V C 0 0 [gMod G a (nF tx) (nF to) (nF dr) (nF be) (nF s) (nF pa) (nF im) (nF ke) (nF no) (nF fa) (lN tr) (nI ty) (nI kn) (nI nd) (nI att) (nI so) (nI ss) (iI va)] 6 [some (.ref (a 0)), some (.int (iI x)), none] [.int (nI b_1)]
  refine V_if_neN X 11 dX12_keep_6 (by decide) (by omega) (fun c_3 => ?_) (fun c_3 => ?_)
  · refine V_loc (y := (nI x.toNat)) 1 rfl (mv_sn (by omega)) ?_
    refine V_iconst X (nI 0) dX12_keep_11 (by decide) ?_
    refine V_istore_n X dX12_keep_12 (by decide) rfl ?_
    have L_13 : ∀ (fz_13 : Nat) (k : Nat) (I1 : Nat → Nat) (hk : k ≤ 44) (hS : ∀ j, j < k → I1 (44 * x.toNat + j) = s j) (hT : ∀ j, j < 44 → I1 (44 * (1 - x.toNat) + j) = im (44 * (1 - x.toNat) + j)), (44 - k) < fz_13 → V C 0 0 [gMod G a (nF tx) (nF to) (nF dr) (nF be) (nF s) (nF pa) (nF I1) (nF ke) (nF no) (nF fa) (lN tr) (nI ty) (nI kn) (nI nd) (nI att) (nI so) (nI ss) (iI va)] 13 [some (.ref (a 0)), some (.int (nI x.toNat)), some (.int (nI k))] [] := by
      intro fz_13
      induction fz_13 with
      | zero => intro k I1 hk hS hT hf_13; exact absurd hf_13 (Nat.not_lt_zero _)
      | succ fz_13 ih_13 =>
        intro k I1 hk hS hT hf_13
        refine V_iload_n X dX12_keep_13 rfl ?_
        refine V_bipush X (nI 44) dX12_keep_14 (by decide) ?_
        refine V_icmp_geN X 42 dX12_keep_16 (by decide) (by omega) (by decide) (fun c_4 => ?_) (fun c_4 => ?_)
        · refine V_aload_n X dX12_keep_42 rfl ?_
          refine V_get X fl_X12_31 0 0 rfl rfl rfl dX12_keep_43 ?_
          refine V_iload_n X dX12_keep_46 rfl ?_
          refine V_iconst X (nI 1) dX12_keep_47 (by decide) ?_
          refine V_zastN X 0 8 rfl rfl (by omega) (by decide) (by omega) dX12_keep_48 ?_
          show V C 0 0 [gMod G a (nF tx) (nF to) (nF dr) (nF be) (nF s) (nF pa) (nF I1) (nF (va_up ke x.toNat 1)) (nF no) (nF fa) (lN tr) (nI ty) (nI kn) (nI nd) (nI att) (nI so) (nI ss) (iI va)] 49 [some (.ref (a 0)), some (.int (nI x.toNat)), some (.int (nI k))] []
          refine V_aload_n X dX12_keep_49 rfl ?_
          refine V_get X fl_X12_22 0 0 rfl rfl rfl dX12_keep_50 ?_
          refine V_bipush X (nI 41) dX12_keep_53 (by decide) ?_
          refine V_ialdN X 0 5 rfl rfl (by decide) (by decide) dX12_keep_55 ?_
          exact V_iret X Y ⟨((s 41 : Nat) : Int), I1, va_up ke x.toNat 1⟩ (show ((x < 0 ∨ 1 < x) ∧ (((s 41 : Nat) : Int) : Int) = -1 ∧ I1 = im ∧ (va_up ke x.toNat 1) = ke) ∨ ((0 ≤ x ∧ x < 2) ∧ (((s 41 : Nat) : Int) : Int) = (s 41 : Nat) ∧ (∀ j, j < 44 → I1 (44 * x.toNat + j) = s j) ∧ (∀ j, j < 44 → I1 (44 * (1 - x.toNat) + j) = im (44 * (1 - x.toNat) + j)) ∧ (va_up ke x.toNat 1) = va_up ke x.toNat 1) from Or.inr ⟨by omega, rfl, fun j h => hS j (by omega), hT, rfl⟩) (mv_ri (by rfl)) rfl rfl dX12_keep_56
        · refine V_aload_n X dX12_keep_19 rfl ?_
          refine V_get X fl_X12_28 0 0 rfl rfl rfl dX12_keep_20 ?_
          refine V_bipush X (nI 44) dX12_keep_23 (by decide) ?_
          refine V_iload_n X dX12_keep_25 rfl ?_
          refine V_imulN X dX12_keep_26 ?_
          refine V_iload_n X dX12_keep_27 rfl ?_
          refine V_iaddN X dX12_keep_28 ?_
          refine V_aload_n X dX12_keep_29 rfl ?_
          refine V_get X fl_X12_22 0 0 rfl rfl rfl dX12_keep_30 ?_
          refine V_iload_n X dX12_keep_33 rfl ?_
          refine V_ialdN X 0 5 rfl rfl (by omega) (by decide) dX12_keep_34 ?_
          refine V_iastN X 0 7 rfl rfl (by omega) (by decide) dX12_keep_35 ?_
          show V C 0 0 [gMod G a (nF tx) (nF to) (nF dr) (nF be) (nF s) (nF pa) (nF (va_up I1 ((44 * x.toNat) + k) (s k))) (nF ke) (nF no) (nF fa) (lN tr) (nI ty) (nI kn) (nI nd) (nI att) (nI so) (nI ss) (iI va)] 36 [some (.ref (a 0)), some (.int (nI x.toNat)), some (.int (nI k))] []
          refine V_iincN X (c := 1) dX12_keep_36 rfl (by decide) rfl ?_
          refine V_goto X 13 dX12_keep_39 (by decide) ?_
          refine V_weak (lv' := [some (.ref (a 0)), some (.int (nI x.toNat)), some (.int (nI (k + 1)))]) (And.intro rfl (And.intro rfl (And.intro rfl trivial))) ?_
          exact ih_13 (k + 1) (va_up I1 ((44 * x.toNat) + k) (s k)) (by omega) (fun j h => by simp only [va_up]; by_cases e : j = k; rw [if_pos (by omega), e]; rw [if_neg (by omega)]; exact hS j (by omega)) (fun j h => by simp only [va_up]; rw [if_neg (by omega)]; exact hT j h) (by omega)
    refine V_weak (lv' := [some (.ref (a 0)), some (.int (nI x.toNat)), some (.int (nI 0))]) (And.intro rfl (And.intro rfl (And.intro rfl trivial))) ?_
    exact L_13 _ 0 im (by omega) (fun j h => absurd h (Nat.not_lt_zero j)) (fun _ _ => rfl) (Nat.lt_succ_self _)
  · refine V_iconst X (-1) dX12_keep_9 (by decide) ?_
    exact V_iret X Y ⟨-1, im, ke⟩ (show ((x < 0 ∨ 1 < x) ∧ ((-1) : Int) = -1 ∧ im = im ∧ ke = ke) ∨ ((0 ≤ x ∧ x < 2) ∧ ((-1) : Int) = (s 41 : Nat) ∧ (∀ j, j < 44 → im (44 * x.toNat + j) = s j) ∧ (∀ j, j < 44 → im (44 * (1 - x.toNat) + j) = im (44 * (1 - x.toNat) + j)) ∧ ke = va_up ke x.toNat 1) from Or.inl ⟨by omega, rfl, rfl, rfl⟩) (mv_ri (by rfl)) rfl rfl dX12_keep_10
set_option maxHeartbeats 4000000 in
set_option maxRecDepth 100000 in
theorem c_X12_back (l : Launch) (G : mvG) (a : Nat → Nat) (tx : Nat → Nat) (to : Nat → Nat) (dr : Nat → Nat) (be : Nat → Nat) (s : Nat → Nat) (pa : Nat → Nat) (im : Nat → Nat) (ke : Nat → Nat) (no : Nat → Nat) (fa : Nat → Nat) (tr : Nat) (ty : Nat) (kn : Nat) (nd : Nat) (att : Nat) (so : Nat) (ss : Nat) (va : Int) (x : Int) (hke : ke 0 ≤ 1 ∧ ke 1 ≤ 1) (hx : -2147483648 ≤ x ∧ x < 2147483648) : KQ l yX12_back cX12_back 3 (some .int) (1, 22) G [.ref (a 0), .int (iI x)] [gMod G a (nF tx) (nF to) (nF dr) (nF be) (nF s) (nF pa) (nF im) (nF ke) (nF no) (nF fa) (lN tr) (nI ty) (nI kn) (nI nd) (nI att) (nI so) (nI ss) (iI va)] (fun (zz : Int × (Nat → Nat) × Nat) => some (.int (iI zz.1))) (fun (zz : Int × (Nat → Nat) × Nat) => ((x < 0 ∨ 1 < x) ∧ (zz.1 : Int) = -1 ∧ zz.2.1 = s ∧ zz.2.2 = kn) ∨ ((0 ≤ x ∧ x < 2) ∧ ke x.toNat = 0 ∧ (zz.1 : Int) = -2 ∧ zz.2.1 = s ∧ zz.2.2 = kn) ∨ ((0 ≤ x ∧ x < 2) ∧ ¬ ke x.toNat = 0 ∧ (zz.1 : Int) = (im (44 * x.toNat + 41) : Nat) ∧ (∀ j, j < 44 → zz.2.1 j = im (44 * x.toNat + j)) ∧ zz.2.2 = 0)) (fun (zz : Int × (Nat → Nat) × Nat) => [gMod G a (nF tx) (nF to) (nF dr) (nF be) (nF zz.2.1) (nF pa) (nF im) (nF ke) (nF no) (nF fa) (lN tr) (nI ty) (nI zz.2.2) (nI nd) (nI att) (nI so) (nI ss) (iI va)]) := by
  refine KQ.mk (by decide +kernel) (fun _ _ => rfl) [some (.ref (a 0)), some (.int (iI x)), none] (Nat.le_of_ble_eq_true rfl) rfl (fun C X Y hC => ?_)
  subst hC
  refine V_iload_n X dX12_back_0 rfl ?_
  refine V_iconst X (nI 0) dX12_back_1 (by decide) ?_
  refine V_iconst X (nI 1) dX12_back_2 (by decide) ?_
  refine V_callS (rest := []) X (c_X12_in (Cl C) G x ((0 : Nat) : Int) ((1 : Nat) : Int) (by first | assumption | omega) (by first | assumption | omega) (by first | assumption | omega)) mi_X12_in kw_3_235 kw_3_236 dX12_back_3 [] rfl (by decide) rfl rfl (by decide) (Nat.le_of_ble_eq_true rfl) ⟨rfl, rfl⟩ (fun u_ hu_2 => ?_)
  obtain ⟨b_1, rfl⟩ : ∃ z, z = u_ := ⟨_, rfl⟩
  have hu_2 : (b_1 = 1 ∧ ((0 : Nat) : Int) ≤ x ∧ x ≤ ((1 : Nat) : Int)) ∨ (b_1 = 0 ∧ (x < ((0 : Nat) : Int) ∨ ((1 : Nat) : Int) < x)) := hu_2
  show V C 0 0 [gMod G a (nF tx) (nF to) (nF dr) (nF be) (nF s) (nF pa) (nF im) (nF ke) (nF no) (nF fa) (lN tr) (nI ty) (nI kn) (nI nd) (nI att) (nI so) (nI ss) (iI va)] 6 [some (.ref (a 0)), some (.int (iI x)), none] [.int (nI b_1)]
  refine V_if_neN X 11 dX12_back_6 (by decide) (by omega) (fun c_3 => ?_) (fun c_3 => ?_)
  · refine V_loc (y := (nI x.toNat)) 1 rfl (mv_sn (by omega)) ?_
    have hkx : ke x.toNat ≤ 1 := by rcases (show x.toNat = 0 ∨ x.toNat = 1 by omega) with e | e <;> rw [e] <;> omega
    refine V_aload_n X dX12_back_11 rfl ?_
    refine V_get X fl_X12_31 0 0 rfl rfl rfl dX12_back_12 ?_
    refine V_iload_n X dX12_back_15 rfl ?_
    refine V_zaldN X 0 8 rfl rfl (by omega) (by decide) dX12_back_16 ?_
    refine V_if_neN X 23 dX12_back_17 (by decide) (by omega) (fun c_4 => ?_) (fun c_4 => ?_)
    · refine V_iconst X (nI 0) dX12_back_23 (by decide) ?_
      refine V_istore_n X dX12_back_24 (by decide) rfl ?_
      have L_25 : ∀ (fz_25 : Nat) (k : Nat) (S1 : Nat → Nat) (hk : k ≤ 44) (hS : ∀ j, j < k → S1 j = im (44 * x.toNat + j)), (44 - k) < fz_25 → V C 0 0 [gMod G a (nF tx) (nF to) (nF dr) (nF be) (nF S1) (nF pa) (nF im) (nF ke) (nF no) (nF fa) (lN tr) (nI ty) (nI kn) (nI nd) (nI att) (nI so) (nI ss) (iI va)] 25 [some (.ref (a 0)), some (.int (nI x.toNat)), some (.int (nI k))] [] := by
        intro fz_25
        induction fz_25 with
        | zero => intro k S1 hk hS hf_25; exact absurd hf_25 (Nat.not_lt_zero _)
        | succ fz_25 ih_25 =>
          intro k S1 hk hS hf_25
          refine V_iload_n X dX12_back_25 rfl ?_
          refine V_bipush X (nI 44) dX12_back_26 (by decide) ?_
          refine V_icmp_geN X 54 dX12_back_28 (by decide) (by omega) (by decide) (fun c_5 => ?_) (fun c_5 => ?_)
          · refine V_aload_n X dX12_back_54 rfl ?_
            refine V_iconst X (nI 0) dX12_back_55 (by decide) ?_
            refine V_put X fl_X12_89 0 0 rfl rfl rfl rfl (Nat.le_of_ble_eq_true rfl) dX12_back_56 ?_
            show V C 0 0 [gMod G a (nF tx) (nF to) (nF dr) (nF be) (nF S1) (nF pa) (nF im) (nF ke) (nF no) (nF fa) (lN tr) (nI ty) (nI 0) (nI nd) (nI att) (nI so) (nI ss) (iI va)] 59 [some (.ref (a 0)), some (.int (nI x.toNat)), some (.int (nI k))] []
            refine V_aload_n X dX12_back_59 rfl ?_
            refine V_get X fl_X12_22 0 0 rfl rfl rfl dX12_back_60 ?_
            refine V_bipush X (nI 41) dX12_back_63 (by decide) ?_
            refine V_ialdN X 0 5 rfl rfl (by decide) (by decide) dX12_back_65 ?_
            exact V_iret X Y ⟨((S1 41 : Nat) : Int), S1, 0⟩ (show ((x < 0 ∨ 1 < x) ∧ (((S1 41 : Nat) : Int) : Int) = -1 ∧ S1 = s ∧ 0 = kn) ∨ ((0 ≤ x ∧ x < 2) ∧ ke x.toNat = 0 ∧ (((S1 41 : Nat) : Int) : Int) = -2 ∧ S1 = s ∧ 0 = kn) ∨ ((0 ≤ x ∧ x < 2) ∧ ¬ ke x.toNat = 0 ∧ (((S1 41 : Nat) : Int) : Int) = (im (44 * x.toNat + 41) : Nat) ∧ (∀ j, j < 44 → S1 j = im (44 * x.toNat + j)) ∧ 0 = 0) from Or.inr (Or.inr ⟨by omega, by omega, congrArg (fun z : Nat => (z : Int)) (hS 41 (by omega)), fun j h => hS j (by omega), rfl⟩)) (mv_ri (by rfl)) rfl rfl dX12_back_66
          · refine V_aload_n X dX12_back_31 rfl ?_
            refine V_get X fl_X12_22 0 0 rfl rfl rfl dX12_back_32 ?_
            refine V_iload_n X dX12_back_35 rfl ?_
            refine V_aload_n X dX12_back_36 rfl ?_
            refine V_get X fl_X12_28 0 0 rfl rfl rfl dX12_back_37 ?_
            refine V_bipush X (nI 44) dX12_back_40 (by decide) ?_
            refine V_iload_n X dX12_back_42 rfl ?_
            refine V_imulN X dX12_back_43 ?_
            refine V_iload_n X dX12_back_44 rfl ?_
            refine V_iaddN X dX12_back_45 ?_
            refine V_ialdN X 0 7 rfl rfl (by omega) (by decide) dX12_back_46 ?_
            refine V_iastN X 0 5 rfl rfl (by omega) (by decide) dX12_back_47 ?_
            show V C 0 0 [gMod G a (nF tx) (nF to) (nF dr) (nF be) (nF (va_up S1 k (im ((44 * x.toNat) + k)))) (nF pa) (nF im) (nF ke) (nF no) (nF fa) (lN tr) (nI ty) (nI kn) (nI nd) (nI att) (nI so) (nI ss) (iI va)] 48 [some (.ref (a 0)), some (.int (nI x.toNat)), some (.int (nI k))] []
            refine V_iincN X (c := 1) dX12_back_48 rfl (by decide) rfl ?_
            refine V_goto X 25 dX12_back_51 (by decide) ?_
            refine V_weak (lv' := [some (.ref (a 0)), some (.int (nI x.toNat)), some (.int (nI (k + 1)))]) (And.intro rfl (And.intro rfl (And.intro rfl trivial))) ?_
            exact ih_25 (k + 1) (va_up S1 k (im ((44 * x.toNat) + k))) (by omega) (fun j h => by simp only [va_up]; by_cases e : j = k; rw [if_pos (by omega), e]; rw [if_neg (by omega)]; exact hS j (by omega)) (by omega)
      refine V_weak (lv' := [some (.ref (a 0)), some (.int (nI x.toNat)), some (.int (nI 0))]) (And.intro rfl (And.intro rfl (And.intro rfl trivial))) ?_
      exact L_25 _ 0 s (by omega) (fun j h => absurd h (Nat.not_lt_zero j)) (Nat.lt_succ_self _)
    · refine V_bipush X (-2) dX12_back_20 (by decide) ?_
      exact V_iret X Y ⟨-2, s, kn⟩ (show ((x < 0 ∨ 1 < x) ∧ ((-2) : Int) = -1 ∧ s = s ∧ kn = kn) ∨ ((0 ≤ x ∧ x < 2) ∧ ke x.toNat = 0 ∧ ((-2) : Int) = -2 ∧ s = s ∧ kn = kn) ∨ ((0 ≤ x ∧ x < 2) ∧ ¬ ke x.toNat = 0 ∧ ((-2) : Int) = (im (44 * x.toNat + 41) : Nat) ∧ (∀ j, j < 44 → s j = im (44 * x.toNat + j)) ∧ kn = 0) from Or.inr (Or.inl ⟨by omega, by omega, rfl, rfl, rfl⟩)) (mv_ri (by rfl)) rfl rfl dX12_back_22
  · refine V_iconst X (-1) dX12_back_9 (by decide) ?_
    exact V_iret X Y ⟨-1, s, kn⟩ (show ((x < 0 ∨ 1 < x) ∧ ((-1) : Int) = -1 ∧ s = s ∧ kn = kn) ∨ ((0 ≤ x ∧ x < 2) ∧ ke x.toNat = 0 ∧ ((-1) : Int) = -2 ∧ s = s ∧ kn = kn) ∨ ((0 ≤ x ∧ x < 2) ∧ ¬ ke x.toNat = 0 ∧ ((-1) : Int) = (im (44 * x.toNat + 41) : Nat) ∧ (∀ j, j < 44 → s j = im (44 * x.toNat + j)) ∧ kn = 0) from Or.inl ⟨by omega, rfl, rfl, rfl⟩) (mv_ri (by rfl)) rfl rfl dX12_back_10
set_option maxHeartbeats 4000000 in
set_option maxRecDepth 100000 in
theorem c_X12_count (l : Launch) (G : mvG) (a : Nat → Nat) (tx : Nat → Nat) (to : Nat → Nat) (dr : Nat → Nat) (be : Nat → Nat) (s : Nat → Nat) (pa : Nat → Nat) (im : Nat → Nat) (ke : Nat → Nat) (no : Nat → Nat) (fa : Nat → Nat) (tr : Nat) (ty : Nat) (kn : Nat) (nd : Nat) (att : Nat) (so : Nat) (ss : Nat) (va : Int) (y : Int) (hy : -2147483648 ≤ y ∧ y < 2147483648) : KQ l yX12_count cX12_count 2 (some .int) (0, 0) G [.ref (a 0), .int (iI y)] [gMod G a (nF tx) (nF to) (nF dr) (nF be) (nF s) (nF pa) (nF im) (nF ke) (nF no) (nF fa) (lN tr) (nI ty) (nI kn) (nI nd) (nI att) (nI so) (nI ss) (iI va)] (fun (_ : Unit) => some (.int (iI (spCount (to 0) (to 1) nd ty y)))) (fun (_ : Unit) => True) (fun (_ : Unit) => [gMod G a (nF tx) (nF to) (nF dr) (nF be) (nF s) (nF pa) (nF im) (nF ke) (nF no) (nF fa) (lN tr) (nI ty) (nI kn) (nI nd) (nI att) (nI so) (nI ss) (iI va)]) := by
  refine KQ.mk (by decide +kernel) (fun _ _ => rfl) [some (.ref (a 0)), some (.int (iI y))] (Nat.le_of_ble_eq_true rfl) rfl (fun C X Y hC => ?_)
  subst hC
  refine V_iload_n X dX12_count_0 rfl ?_
  by_cases c_1 : y = 0
  · refine V_tableInI (i := y) (off := 31) X 32 dX12_count_1 0 (iI_toInt (by omega) (by omega)) c_1 (by decide) (by decide) (by decide) ?_
    refine V_aload_n X dX12_count_32 rfl ?_
    refine V_get X fl_X12_13 0 0 rfl rfl rfl dX12_count_33 ?_
    refine V_iconst X (nI 0) dX12_count_36 (by decide) ?_
    refine V_ialdN X 0 2 rfl rfl (by decide) (by decide) dX12_count_37 ?_
    exact V_iret X Y () trivial (mv_ri (by simp only [spCount]; (repeat (first | rw [if_pos (by omega)] | rw [if_neg (by omega)])) <;> rfl)) rfl rfl dX12_count_38
  · by_cases c_2 : y = 1
    · refine V_tableInI (i := y) (off := 38) X 39 dX12_count_1 1 (iI_toInt (by omega) (by omega)) c_2 (by decide) (by decide) (by decide) ?_
      refine V_aload_n X dX12_count_39 rfl ?_
      refine V_get X fl_X12_13 0 0 rfl rfl rfl dX12_count_40 ?_
      refine V_iconst X (nI 1) dX12_count_43 (by decide) ?_
      refine V_ialdN X 0 2 rfl rfl (by decide) (by decide) dX12_count_44 ?_
      exact V_iret X Y () trivial (mv_ri (by simp only [spCount]; (repeat (first | rw [if_pos (by omega)] | rw [if_neg (by omega)])) <;> rfl)) rfl rfl dX12_count_45
    · by_cases c_3 : y = 2
      · refine V_tableInI (i := y) (off := 45) X 46 dX12_count_1 2 (iI_toInt (by omega) (by omega)) c_3 (by decide) (by decide) (by decide) ?_
        refine V_aload_n X dX12_count_46 rfl ?_
        refine V_get X fl_X12_92 0 0 rfl rfl rfl dX12_count_47 ?_
        exact V_iret X Y () trivial (mv_ri (by simp only [spCount]; (repeat (first | rw [if_pos (by omega)] | rw [if_neg (by omega)])) <;> rfl)) rfl rfl dX12_count_50
      · by_cases c_4 : y = 3
        · refine V_tableInI (i := y) (off := 50) X 51 dX12_count_1 3 (iI_toInt (by omega) (by omega)) c_4 (by decide) (by decide) (by decide) ?_
          refine V_aload_n X dX12_count_51 rfl ?_
          refine V_get X fl_X12_52 0 0 rfl rfl rfl dX12_count_52 ?_
          exact V_iret X Y () trivial (mv_ri (by simp only [spCount]; (repeat (first | rw [if_pos (by omega)] | rw [if_neg (by omega)])) <;> rfl)) rfl rfl dX12_count_55
        · refine V_tableOutI (i := y) X 56 dX12_count_1 (iI_toInt (by omega) (by omega)) (by omega) (by decide) ?_
          refine V_iconst X (-1) dX12_count_56 (by decide) ?_
          exact V_iret X Y () trivial (mv_ri (by simp only [spCount]; (repeat (first | rw [if_pos (by omega)] | rw [if_neg (by omega)])) <;> rfl)) rfl rfl dX12_count_57
set_option maxHeartbeats 4000000 in
set_option maxRecDepth 100000 in
theorem c_X12_trace (l : Launch) (G : mvG) (a : Nat → Nat) (tx : Nat → Nat) (to : Nat → Nat) (dr : Nat → Nat) (be : Nat → Nat) (s : Nat → Nat) (pa : Nat → Nat) (im : Nat → Nat) (ke : Nat → Nat) (no : Nat → Nat) (fa : Nat → Nat) (tr : Nat) (ty : Nat) (kn : Nat) (nd : Nat) (att : Nat) (so : Nat) (ss : Nat) (va : Int) : KQ l yX12_trace cX12_trace 1 (some .long) (0, 0) G [.ref (a 0)] [gMod G a (nF tx) (nF to) (nF dr) (nF be) (nF s) (nF pa) (nF im) (nF ke) (nF no) (nF fa) (lN tr) (nI ty) (nI kn) (nI nd) (nI att) (nI so) (nI ss) (iI va)] (fun (_ : Unit) => some (.long (lN tr))) (fun (_ : Unit) => True) (fun (_ : Unit) => [gMod G a (nF tx) (nF to) (nF dr) (nF be) (nF s) (nF pa) (nF im) (nF ke) (nF no) (nF fa) (lN tr) (nI ty) (nI kn) (nI nd) (nI att) (nI so) (nI ss) (iI va)]) := by
  refine KQ.mk (by decide +kernel) (fun _ _ => rfl) [some (.ref (a 0))] (Nat.le_of_ble_eq_true rfl) rfl (fun C X Y hC => ?_)
  subst hC
  refine V_aload_n X dX12_trace_0 rfl ?_
  refine V_get X fl_X12_162 0 0 rfl rfl rfl dX12_trace_1 ?_
  exact V_lret X Y () trivial rfl rfl dX12_trace_4
