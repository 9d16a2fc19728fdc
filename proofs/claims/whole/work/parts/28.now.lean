def sqAt (d : Nat → Nat) (c w : Nat) : Prop := c / 6 + w ≤ 6 ∧ c % 6 + w ≤ 6 ∧ clr d (c / 6) (c % 6) w
theorem sqAt_le {d : Nat → Nat} {c w v : Nat} (h : sqAt d c w) (hv : v ≤ w) : sqAt d c v := ⟨by have := h.1; omega, by have := h.2.1; omega, fun i j h1 h2 h3 h4 => h.2.2 i j h1 (by omega) h3 (by omega)⟩
theorem clrF_no {d : Nat → Nat} {c v w : Nat} (h : clrF d (c / 6) (c % 6) v) (hw : v < w) : ¬ sqAt d c w := fun z => by
  have z2 := sqAt_le z (show v + 1 ≤ w by omega)
  exact h.2.2.2 ⟨by have := z2.1; omega, by have := z2.2.1; omega, z2.2.2⟩
def BW (d : Nat → Nat) (c w : Nat) (z : Int) : Prop := ((w = 0 ∧ z = -9) ∨ (1 ≤ w ∧ ∃ c0, c0 < c ∧ z = (10 * (c0 / 6) + c0 % 6 : Nat) ∧ sqAt d c0 w ∧ ∀ c', c' < c0 → ¬ sqAt d c' w)) ∧ (∀ c', c' < c → ∀ w', w < w' → ¬ sqAt d c' w') ∧ w ≤ 6
theorem BW_0 (d : Nat → Nat) : BW d 0 0 (-9) := ⟨Or.inl ⟨rfl, rfl⟩, fun c' h => absurd h (Nat.not_lt_zero c'), by omega⟩
theorem BW_next {d : Nat → Nat} {c w v w' : Nat} {z z' : Int} (h : BW d c w z) (hc : clrF d (c / 6) (c % 6) v) (hz : z' = if w < v then ((10 * (c / 6) + c % 6 : Nat) : Int) else z) (hw : w' = if w < v then v else w) : BW d (c + 1) w' z' := by
  by_cases e : w < v
  · rw [if_pos e] at hz hw
    subst hz hw
    refine ⟨Or.inr ⟨by omega, c, by omega, rfl, ⟨hc.2.1, hc.2.2.1, hc.1⟩, fun c' h' => h.2.1 c' h' _ e⟩, fun c' h' u hu => ?_, by have := hc.2.1; omega⟩
    by_cases f : c' = c
    · rw [f]; exact clrF_no hc hu
    · exact h.2.1 c' (by omega) u (by omega)
  · rw [if_neg e] at hz hw
    subst hz hw
    refine ⟨?_, fun c' h' u hu => ?_, h.2.2⟩
    · rcases h.1 with h1 | ⟨h1, c0, h2, h3⟩
      · exact Or.inl h1
      · exact Or.inr ⟨h1, c0, by omega, h3⟩
    · by_cases f : c' = c
      · rw [f]; exact clrF_no hc (by omega)
      · exact h.2.1 c' (by omega) u hu
theorem BW_wid {d : Nat → Nat} {w : Nat} {z : Int} (h : BW d 36 w z) : wid d w := by
  refine ⟨h.2.2, ?_, fun w' h1 h2 hs => ?_⟩
  · rcases h.1 with h1 | ⟨h1, c0, h2, h3, h4, h5⟩
    · exact Or.inl h1.1
    · exact Or.inr ⟨c0 / 6, c0 % 6, h4.1, h4.2.1, h4.2.2⟩
  · obtain ⟨x, y, h3, h4, h5⟩ := hs
    refine h.2.1 (6 * x + y) (by omega) w' h1 ?_
    have e1 : (6 * x + y) / 6 = x := by omega
    have e2 : (6 * x + y) % 6 = y := by omega
    refine ⟨by omega, by omega, ?_⟩
    rw [e1, e2]
    exact h5
theorem BW_csq {d : Nat → Nat} {w : Nat} {z : Int} (h : BW d 36 w z) : csq d w z := by
  rcases h.1 with h1 | ⟨h1, c0, h2, h3, h4, h5⟩
  · exact Or.inl ⟨h1.2, Or.inl h1.1⟩
  · refine Or.inr ⟨h1, c0 / 6, c0 % 6, h4.1, h4.2.1, h4.2.2, h3, fun x' y' g1 g2 g3 => ?_⟩
    by_cases e : c0 / 6 < x' ∨ (c0 / 6 = x' ∧ c0 % 6 ≤ y')
    · exact e
    · exfalso
      refine h5 (6 * x' + y') (by omega) ?_
      have e1 : (6 * x' + y') / 6 = x' := by omega
      have e2 : (6 * x' + y') % 6 = y' := by omega
      refine ⟨by omega, by omega, ?_⟩
      rw [e1, e2]
      exact g3
theorem dSum_le {d : Nat → Nat} {n : Nat} (h : ∀ c, c < n → d c ≤ 9) : ∀ k, k ≤ n → dSum d k ≤ 9 * k
  | 0, _ => Nat.le_refl _
  | k + 1, hk => by
    have h1 := dSum_le h k (by omega)
    have h2 := h k (by omega)
    simp only [dSum]
    omega
set_option maxHeartbeats 4000000 in
set_option maxRecDepth 100000 in
theorem c_X12_clearest (l : Launch) (G : mvG) (a : Nat → Nat) (tx : Nat → Nat) (to : Nat → Nat) (dr : Nat → Nat) (be : Nat → Nat) (s : Nat → Nat) (pa : Nat → Nat) (im : Nat → Nat) (ke : Nat → Nat) (no : Nat → Nat) (fa : Nat → Nat) (tr : Nat) (ty : Nat) (kn : Nat) (nd : Nat) (att : Nat) (so : Nat) (ss : Nat) (va : Int) (b : Nat) (hde : ∀ c, c < 36 → s (5 + c) < 80 ∧ s (5 + c) % 16 ≤ 9) (hb : b ≤ 1) : KQ l yX12_clearest cX12_clearest 6 (some .int) (2, 46) G [.ref (a 0), .int (nI b)] [gMod G a (nF tx) (nF to) (nF dr) (nF be) (nF s) (nF pa) (nF im) (nF ke) (nF no) (nF fa) (lN tr) (nI ty) (nI kn) (nI nd) (nI att) (nI so) (nI ss) (iI va)] (fun (zz : Int) => some (.int (iI zz))) (fun (zz : Int) => (b = 0 ∧ ∃ wV : Nat, wid (fun c => s (5 + c) % 16) wV ∧ (zz : Int) = (wV : Int)) ∨ (¬ b = 0 ∧ ∃ (wV : Nat) (zV : Int), wid (fun c => s (5 + c) % 16) wV ∧ csq (fun c => s (5 + c) % 16) wV zV ∧ (zz : Int) = zV)) (fun (zz : Int) => [gMod G a (nF tx) (nF to) (nF dr) (nF be) (nF s) (nF pa) (nF im) (nF ke) (nF no) (nF fa) (lN tr) (nI ty) (nI kn) (nI nd) (nI att) (nI so) (nI ss) (iI va)]) := by
  refine KQ.mk (by decide +kernel) (fun _ _ => rfl) [some (.ref (a 0)), some (.int (nI b)), none, none, none, none] (Nat.le_of_ble_eq_true rfl) rfl (fun C X Y hC => ?_)
  subst hC
  refine V_iconst X (nI 0) dX12_clearest_0 (by decide) ?_
  refine V_istore_n X dX12_clearest_1 (by decide) rfl ?_
  refine V_bipush X (-9) dX12_clearest_2 (by decide) ?_
  refine V_istore_n X dX12_clearest_4 (by decide) rfl ?_
  refine V_iconst X (nI 0) dX12_clearest_5 (by decide) ?_
  refine V_istore X dX12_clearest_6 (by decide) rfl ?_
  have L_8 : ∀ (fz_8 : Nat) (w : Nat) (z : Int) (c : Nat) (hc : c ≤ 36 ∧ w ≤ 6) (hB : BW (fun c => s (5 + c) % 16) c w z), (36 - c) < fz_8 → V C 0 0 [gMod G a (nF tx) (nF to) (nF dr) (nF be) (nF s) (nF pa) (nF im) (nF ke) (nF no) (nF fa) (lN tr) (nI ty) (nI kn) (nI nd) (nI att) (nI so) (nI ss) (iI va)] 8 [some (.ref (a 0)), some (.int (nI b)), some (.int (nI w)), some (.int (iI z)), some (.int (nI c)), none] [] := by
    intro fz_8
    induction fz_8 with
    | zero => intro w z c hc hB hf_8; exact absurd hf_8 (Nat.not_lt_zero _)
    | succ fz_8 ih_8 =>
      intro w z c hc hB hf_8
      refine V_iload X dX12_clearest_8 rfl ?_
      refine V_bipush X (nI 36) dX12_clearest_10 (by decide) ?_
      refine V_icmp_geN X 66 dX12_clearest_12 (by decide) (by omega) (by decide) (fun c_1 => ?_) (fun c_1 => ?_)
      · refine V_iload_n X dX12_clearest_66 rfl ?_
        refine V_if_eqN X 74 dX12_clearest_67 (by decide) (by omega) (fun c_2 => ?_) (fun c_2 => ?_)
        · refine V_iload_n X dX12_clearest_74 rfl ?_
          exact V_iret X Y ((w : Nat) : Int) (by rw [show c = 36 by omega] at hB; first | exact Or.inr ⟨by omega, w, z, BW_wid hB, BW_csq hB, rfl⟩ | exact Or.inl ⟨by omega, w, BW_wid hB, rfl⟩) (mv_ri (by rfl)) rfl rfl dX12_clearest_75
        · refine V_iload_n X dX12_clearest_70 rfl ?_
          refine V_goto X 75 dX12_clearest_71 (by decide) ?_
          exact V_iret X Y z (by rw [show c = 36 by omega] at hB; first | exact Or.inr ⟨by omega, w, z, BW_wid hB, BW_csq hB, rfl⟩ | exact Or.inl ⟨by omega, w, BW_wid hB, rfl⟩) rfl rfl rfl dX12_clearest_75
      · refine V_aload_n X dX12_clearest_15 rfl ?_
        refine V_iload X dX12_clearest_16 rfl ?_
        refine V_bipush X (nI 6) dX12_clearest_18 (by decide) ?_
        refine V_idivN X dX12_clearest_20 (by omega) (by omega) (by omega) ?_
        refine V_iload X dX12_clearest_21 rfl ?_
        refine V_bipush X (nI 6) dX12_clearest_23 (by decide) ?_
        refine V_iremN X dX12_clearest_25 (by omega) (by omega) (by omega) ?_
        refine V_callV (rest := []) X (c_X12_clearFrom (Cl C) G a tx to dr be s pa im ke no fa tr ty kn nd att so ss va (c / 6) (c % 6) (by first | assumption | omega) (by first | assumption | omega) (by first | assumption | omega)) mi_X12_clearFrom kw_4_130 kw_4_132 kw_s_41 dX12_clearest_26 [0] rfl (by decide) 0 0 rfl rfl rfl rfl rfl rfl (by decide) (Nat.le_of_ble_eq_true rfl) ⟨rfl, rfl⟩ (fun u_ hu_4 => ?_)
        obtain ⟨w_3, rfl⟩ : ∃ z, z = u_ := ⟨_, rfl⟩
        have hu_4 : clrF (fun c => s (5 + c) % 16) (c / 6) (c % 6) w_3 := hu_4
        show V C 0 0 [gMod G a (nF tx) (nF to) (nF dr) (nF be) (nF s) (nF pa) (nF im) (nF ke) (nF no) (nF fa) (lN tr) (nI ty) (nI kn) (nI nd) (nI att) (nI so) (nI ss) (iI va)] 29 [some (.ref (a 0)), some (.int (nI b)), some (.int (nI w)), some (.int (iI z)), some (.int (nI c)), none] [.int (nI w_3)]
        have hv := hu_4
        have hv1 := hv.2.1
        have hv2 := hv.2.2.1
        refine V_istore X dX12_clearest_29 (by decide) rfl ?_
        refine V_iload X dX12_clearest_31 rfl ?_
        refine V_iload_n X dX12_clearest_33 rfl ?_
        have J_46_5 : ∀ (e : Int) (he : e = if w < w_3 then ((10 * (c / 6) + c % 6 : Nat) : Int) else z), V C 0 0 [gMod G a (nF tx) (nF to) (nF dr) (nF be) (nF s) (nF pa) (nF im) (nF ke) (nF no) (nF fa) (lN tr) (nI ty) (nI kn) (nI nd) (nI att) (nI so) (nI ss) (iI va)] 46 [some (.ref (a 0)), some (.int (nI b)), some (.int (nI w)), some (.int (iI z)), some (.int (nI c)), some (.int (nI w_3))] [.int (iI e)] := by
          intro e he
          refine V_istore_n X dX12_clearest_46 (by decide) rfl ?_
          refine V_iload X dX12_clearest_47 rfl ?_
          refine V_iload_n X dX12_clearest_49 rfl ?_
          have J_59_6 : ∀ (f : Nat) (hf : f = if w < w_3 then w_3 else w) (hf6 : f ≤ 6), V C 0 0 [gMod G a (nF tx) (nF to) (nF dr) (nF be) (nF s) (nF pa) (nF im) (nF ke) (nF no) (nF fa) (lN tr) (nI ty) (nI kn) (nI nd) (nI att) (nI so) (nI ss) (iI va)] 59 [some (.ref (a 0)), some (.int (nI b)), some (.int (nI w)), some (.int (iI e)), some (.int (nI c)), some (.int (nI w_3))] [.int (nI f)] := by
            intro f hf hf6
            refine V_istore_n X dX12_clearest_59 (by decide) rfl ?_
            refine V_iincN X (c := 1) dX12_clearest_60 rfl (by decide) rfl ?_
            refine V_goto X 8 dX12_clearest_63 (by decide) ?_
            refine V_weak (lv' := [some (.ref (a 0)), some (.int (nI b)), some (.int (nI f)), some (.int (iI e)), some (.int (nI (c + 1))), none]) (And.intro rfl (And.intro rfl (And.intro rfl (And.intro rfl (And.intro rfl trivial))))) ?_
            exact ih_8 f e (c + 1) (by omega) (BW_next hB hv he hf) (by omega)
          refine V_icmp_leN X 58 dX12_clearest_50 (by decide) (by omega) (by omega) (fun c_6 => ?_) (fun c_6 => ?_)
          · refine V_iload_n X dX12_clearest_58 rfl ?_
            refine V_weak (lv' := [some (.ref (a 0)), some (.int (nI b)), some (.int (nI w)), some (.int (iI e)), some (.int (nI c)), some (.int (nI w_3))]) (And.intro rfl (And.intro rfl (And.intro rfl (And.intro rfl (And.intro rfl (And.intro rfl trivial)))))) ?_
            exact J_59_6 w (by first | rw [if_pos (by omega)] | rw [if_neg (by omega)]) (by omega)
          · refine V_iload X dX12_clearest_53 rfl ?_
            refine V_goto X 59 dX12_clearest_55 (by decide) ?_
            refine V_weak (lv' := [some (.ref (a 0)), some (.int (nI b)), some (.int (nI w)), some (.int (iI e)), some (.int (nI c)), some (.int (nI w_3))]) (And.intro rfl (And.intro rfl (And.intro rfl (And.intro rfl (And.intro rfl (And.intro rfl trivial)))))) ?_
            exact J_59_6 w_3 (by first | rw [if_pos (by omega)] | rw [if_neg (by omega)]) (by omega)
        refine V_icmp_leN X 45 dX12_clearest_34 (by decide) (by omega) (by omega) (fun c_5 => ?_) (fun c_5 => ?_)
        · refine V_iload_n X dX12_clearest_45 rfl ?_
          refine V_weak (lv' := [some (.ref (a 0)), some (.int (nI b)), some (.int (nI w)), some (.int (iI z)), some (.int (nI c)), some (.int (nI w_3))]) (And.intro rfl (And.intro rfl (And.intro rfl (And.intro rfl (And.intro rfl (And.intro rfl trivial)))))) ?_
          exact J_46_5 z (by first | rw [if_pos (by omega)] | rw [if_neg (by omega)])
        · refine V_iload X dX12_clearest_37 rfl ?_
          refine V_callS (rest := []) X (c_X12_named (Cl C) G c (by first | assumption | omega)) mi_X12_named kw_4_104 kw_4_105 dX12_clearest_39 [] rfl (by decide) rfl rfl (by decide) (Nat.le_of_ble_eq_true rfl) ⟨rfl, rfl⟩ (fun _ _ => ?_)
          show V C 0 0 [gMod G a (nF tx) (nF to) (nF dr) (nF be) (nF s) (nF pa) (nF im) (nF ke) (nF no) (nF fa) (lN tr) (nI ty) (nI kn) (nI nd) (nI att) (nI so) (nI ss) (iI va)] 42 [some (.ref (a 0)), some (.int (nI b)), some (.int (nI w)), some (.int (iI z)), some (.int (nI c)), some (.int (nI w_3))] [.int (nI (10 * (c / 6) + c % 6))]
          refine V_goto X 46 dX12_clearest_42 (by decide) ?_
          refine V_weak (lv' := [some (.ref (a 0)), some (.int (nI b)), some (.int (nI w)), some (.int (iI z)), some (.int (nI c)), some (.int (nI w_3))]) (And.intro rfl (And.intro rfl (And.intro rfl (And.intro rfl (And.intro rfl (And.intro rfl trivial)))))) ?_
          exact J_46_5 (10 * (c / 6) + c % 6 : Nat) (by first | rw [if_pos (by omega)] | rw [if_neg (by omega)])
  refine V_weak (lv' := [some (.ref (a 0)), some (.int (nI b)), some (.int (nI 0)), some (.int (-9)), some (.int (nI 0)), none]) (And.intro rfl (And.intro rfl (And.intro rfl (And.intro rfl (And.intro rfl trivial))))) ?_
  exact L_8 _ 0 (-9) 0 (by omega) (BW_0 _) (Nat.lt_succ_self _)
set_option maxHeartbeats 4000000 in
set_option maxRecDepth 100000 in
theorem c_X12_now (l : Launch) (G : mvG) (a : Nat → Nat) (tx : Nat → Nat) (to : Nat → Nat) (dr : Nat → Nat) (be : Nat → Nat) (s : Nat → Nat) (pa : Nat → Nat) (im : Nat → Nat) (ke : Nat → Nat) (no : Nat → Nat) (fa : Nat → Nat) (tr : Nat) (ty : Nat) (kn : Nat) (nd : Nat) (att : Nat) (so : Nat) (ss : Nat) (va : Int) (y : Int) (hn : to 0 ≤ 5) (hs : ∀ j, j < 5 → s j < 36) (hde : ∀ c, c < 36 → s (5 + c) < 80 ∧ s (5 + c) % 16 ≤ 9) (hvo : ∀ j, j < 5 → to (9 + j) ≤ 9) (hy : -2147483648 ≤ y ∧ y < 2147483648) : KQ l yX12_now cX12_now 4 (some .int) (4, 90) G [.ref (a 0), .int (iI y)] [gMod G a (nF tx) (nF to) (nF dr) (nF be) (nF s) (nF pa) (nF im) (nF ke) (nF no) (nF fa) (lN tr) (nI ty) (nI kn) (nI nd) (nI att) (nI so) (nI ss) (iI va)] (fun (zz : Int32) => some (.int zz)) (fun (zz : Int32) => (y = 0 ∧ zz = nI (dSum (fun c => s (5 + c) % 16) 36)) ∨ (y = 1 ∧ zz = nI (s 41)) ∨ (y = 2 ∧ zz = nI (s 42)) ∨ (y = 3 ∧ zz = nI (s 43)) ∨ (y = 4 ∧ zz = nI (lns s (fun j => to (9 + j)) (to 0) 6)) ∨ (y = 5 ∧ ∃ xV : Nat, wid (fun c => s (5 + c) % 16) xV ∧ zz = nI xV) ∨ (y = 6 ∧ ∃ (xV : Nat) (zV : Int), wid (fun c => s (5 + c) % 16) xV ∧ csq (fun c => s (5 + c) % 16) xV zV ∧ zz = iI zV) ∨ (y = 7 ∧ zz = nI kn) ∨ ((y < 0 ∨ 7 < y) ∧ zz = -1)) (fun (zz : Int32) => [gMod G a (nF tx) (nF to) (nF dr) (nF be) (nF s) (nF pa) (nF im) (nF ke) (nF no) (nF fa) (lN tr) (nI ty) (nI kn) (nI nd) (nI att) (nI so) (nI ss) (iI va)]) := by
  refine KQ.mk (by decide +kernel) (fun _ _ => rfl) [some (.ref (a 0)), some (.int (iI y)), none, none] (Nat.le_of_ble_eq_true rfl) rfl (fun C X Y hC => ?_)
  subst hC
  refine V_iconst X (nI 0) dX12_now_0 (by decide) ?_
  refine V_istore_n X dX12_now_1 (by decide) rfl ?_
  refine V_iconst X (nI 0) dX12_now_2 (by decide) ?_
  refine V_istore_n X dX12_now_3 (by decide) rfl ?_
  have L_4 : ∀ (fz_4 : Nat) (x : Nat) (c : Nat) (hc : c ≤ 36) (hx : x = dSum (fun c => s (5 + c) % 16) c), (36 - c) < fz_4 → V C 0 0 [gMod G a (nF tx) (nF to) (nF dr) (nF be) (nF s) (nF pa) (nF im) (nF ke) (nF no) (nF fa) (lN tr) (nI ty) (nI kn) (nI nd) (nI att) (nI so) (nI ss) (iI va)] 4 [some (.ref (a 0)), some (.int (iI y)), some (.int (nI x)), some (.int (nI c))] [] := by
    intro fz_4
    induction fz_4 with
    | zero => intro x c hc hx hf_4; exact absurd hf_4 (Nat.not_lt_zero _)
    | succ fz_4 ih_4 =>
      intro x c hc hx hf_4
      refine V_iload_n X dX12_now_4 rfl ?_
      refine V_bipush X (nI 36) dX12_now_5 (by decide) ?_
      refine V_icmp_geN X 24 dX12_now_7 (by decide) (by omega) (by decide) (fun c_1 => ?_) (fun c_1 => ?_)
      · refine V_iload_n X dX12_now_24 rfl ?_
        by_cases c_2 : y = 0
        · refine V_tableInI (i := y) (off := 47) X 72 dX12_now_25 0 (iI_toInt (by omega) (by omega)) c_2 (by decide) (by decide) (by decide) ?_
          refine V_iload_n X dX12_now_72 rfl ?_
          exact V_iret X Y (nI x) (by exact Or.inl ⟨by assumption, by rw [hx, show c = 36 by omega]⟩) (mv_ri (by rfl)) rfl rfl dX12_now_73
        · by_cases c_3 : y = 1
          · refine V_tableInI (i := y) (off := 49) X 74 dX12_now_25 1 (iI_toInt (by omega) (by omega)) c_3 (by decide) (by decide) (by decide) ?_
            refine V_aload_n X dX12_now_74 rfl ?_
            refine V_get X fl_X12_22 0 0 rfl rfl rfl dX12_now_75 ?_
            refine V_bipush X (nI 41) dX12_now_78 (by decide) ?_
            refine V_ialdN X 0 5 rfl rfl (by decide) (by decide) dX12_now_80 ?_
            exact V_iret X Y (nI (s 41)) (by exact Or.inr (Or.inl ⟨by assumption, rfl⟩)) (mv_ri (by rfl)) rfl rfl dX12_now_81
          · by_cases c_4 : y = 2
            · refine V_tableInI (i := y) (off := 57) X 82 dX12_now_25 2 (iI_toInt (by omega) (by omega)) c_4 (by decide) (by decide) (by decide) ?_
              refine V_aload_n X dX12_now_82 rfl ?_
              refine V_get X fl_X12_22 0 0 rfl rfl rfl dX12_now_83 ?_
              refine V_bipush X (nI 42) dX12_now_86 (by decide) ?_
              refine V_ialdN X 0 5 rfl rfl (by decide) (by decide) dX12_now_88 ?_
              exact V_iret X Y (nI (s 42)) (by exact Or.inr (Or.inr (Or.inl ⟨by assumption, rfl⟩))) (mv_ri (by rfl)) rfl rfl dX12_now_89
            · by_cases c_5 : y = 3
              · refine V_tableInI (i := y) (off := 65) X 90 dX12_now_25 3 (iI_toInt (by omega) (by omega)) c_5 (by decide) (by decide) (by decide) ?_
                refine V_aload_n X dX12_now_90 rfl ?_
                refine V_get X fl_X12_22 0 0 rfl rfl rfl dX12_now_91 ?_
                refine V_bipush X (nI 43) dX12_now_94 (by decide) ?_
                refine V_ialdN X 0 5 rfl rfl (by decide) (by decide) dX12_now_96 ?_
                exact V_iret X Y (nI (s 43)) (by exact Or.inr (Or.inr (Or.inr (Or.inl ⟨by assumption, rfl⟩)))) (mv_ri (by rfl)) rfl rfl dX12_now_97
              · by_cases c_6 : y = 4
                · refine V_tableInI (i := y) (off := 73) X 98 dX12_now_25 4 (iI_toInt (by omega) (by omega)) c_6 (by decide) (by decide) (by decide) ?_
                  refine V_aload_n X dX12_now_98 rfl ?_
                  refine V_callV (rest := []) X (c_X12_lines (Cl C) G a tx to dr be s pa im ke no fa tr ty kn nd att so ss va (by first | assumption | omega) (by first | assumption | omega) (by first | assumption | omega)) mi_X12_lines kw_4_111 kw_4_113 kw_s_37 dX12_now_99 [0] rfl (by decide) 0 0 rfl rfl rfl rfl rfl rfl (by decide) (Nat.le_of_ble_eq_true rfl) ⟨rfl, rfl⟩ (fun _ _ => ?_)
                  show V C 0 0 [gMod G a (nF tx) (nF to) (nF dr) (nF be) (nF s) (nF pa) (nF im) (nF ke) (nF no) (nF fa) (lN tr) (nI ty) (nI kn) (nI nd) (nI att) (nI so) (nI ss) (iI va)] 102 [some (.ref (a 0)), some (.int (iI y)), some (.int (nI x)), some (.int (nI c))] [.int (nI (lns s (fun j => to (9 + j)) (to 0) 6))]
                  exact V_iret X Y (nI (lns s (fun j => to (9 + j)) (to 0) 6)) (by exact Or.inr (Or.inr (Or.inr (Or.inr (Or.inl ⟨by assumption, rfl⟩))))) (mv_ri (by rfl)) rfl rfl dX12_now_102
                · by_cases c_7 : y = 5
                  · refine V_tableInI (i := y) (off := 78) X 103 dX12_now_25 5 (iI_toInt (by omega) (by omega)) c_7 (by decide) (by decide) (by decide) ?_
                    refine V_aload_n X dX12_now_103 rfl ?_
                    refine V_iconst X (nI 0) dX12_now_104 (by decide) ?_
                    refine V_callV (rest := []) X (c_X12_clearest (Cl C) G a tx to dr be s pa im ke no fa tr ty kn nd att so ss va 0 (by first | assumption | omega) (by first | assumption | omega)) mi_X12_clearest kw_4_126 kw_4_128 kw_s_40 dX12_now_105 [0] rfl (by decide) 0 0 rfl rfl rfl rfl rfl rfl (by decide) (Nat.le_of_ble_eq_true rfl) ⟨rfl, rfl⟩ (fun u_ hu_11 => ?_)
                    obtain ⟨r_10, rfl⟩ : ∃ z, z = u_ := ⟨_, rfl⟩
                    have hu_11 : (0 = 0 ∧ ∃ wV : Nat, wid (fun c => s (5 + c) % 16) wV ∧ (r_10 : Int) = (wV : Int)) ∨ (¬ 0 = 0 ∧ ∃ (wV : Nat) (zV : Int), wid (fun c => s (5 + c) % 16) wV ∧ csq (fun c => s (5 + c) % 16) wV zV ∧ (r_10 : Int) = zV) := hu_11
                    show V C 0 0 [gMod G a (nF tx) (nF to) (nF dr) (nF be) (nF s) (nF pa) (nF im) (nF ke) (nF no) (nF fa) (lN tr) (nI ty) (nI kn) (nI nd) (nI att) (nI so) (nI ss) (iI va)] 108 [some (.ref (a 0)), some (.int (iI y)), some (.int (nI x)), some (.int (nI c))] [.int (iI r_10)]
                    have hcl := hu_11
                    exact V_iret X Y (iI r_10) (by rcases hcl with ⟨_, w, h1, h2⟩ | ⟨h1, _⟩; exact Or.inr (Or.inr (Or.inr (Or.inr (Or.inr (Or.inl ⟨by assumption, w, h1, by rw [h2]; rfl⟩))))); exact absurd rfl h1) (mv_ri (by rfl)) rfl rfl dX12_now_108
                  · by_cases c_8 : y = 6
                    · refine V_tableInI (i := y) (off := 84) X 109 dX12_now_25 6 (iI_toInt (by omega) (by omega)) c_8 (by decide) (by decide) (by decide) ?_
                      refine V_aload_n X dX12_now_109 rfl ?_
                      refine V_iconst X (nI 1) dX12_now_110 (by decide) ?_
                      refine V_callV (rest := []) X (c_X12_clearest (Cl C) G a tx to dr be s pa im ke no fa tr ty kn nd att so ss va 1 (by first | assumption | omega) (by first | assumption | omega)) mi_X12_clearest kw_4_126 kw_4_128 kw_s_40 dX12_now_111 [0] rfl (by decide) 0 0 rfl rfl rfl rfl rfl rfl (by decide) (Nat.le_of_ble_eq_true rfl) ⟨rfl, rfl⟩ (fun u_ hu_13 => ?_)
                      obtain ⟨r_12, rfl⟩ : ∃ z, z = u_ := ⟨_, rfl⟩
                      have hu_13 : (1 = 0 ∧ ∃ wV : Nat, wid (fun c => s (5 + c) % 16) wV ∧ (r_12 : Int) = (wV : Int)) ∨ (¬ 1 = 0 ∧ ∃ (wV : Nat) (zV : Int), wid (fun c => s (5 + c) % 16) wV ∧ csq (fun c => s (5 + c) % 16) wV zV ∧ (r_12 : Int) = zV) := hu_13
                      show V C 0 0 [gMod G a (nF tx) (nF to) (nF dr) (nF be) (nF s) (nF pa) (nF im) (nF ke) (nF no) (nF fa) (lN tr) (nI ty) (nI kn) (nI nd) (nI att) (nI so) (nI ss) (iI va)] 114 [some (.ref (a 0)), some (.int (iI y)), some (.int (nI x)), some (.int (nI c))] [.int (iI r_12)]
                      have hcl := hu_13
                      exact V_iret X Y (iI r_12) (by rcases hcl with ⟨h1, _⟩ | ⟨_, w, z, h1, h2, h3⟩; exact absurd h1 (by decide); exact Or.inr (Or.inr (Or.inr (Or.inr (Or.inr (Or.inr (Or.inl ⟨by assumption, w, z, h1, h2, by rw [h3]⟩))))))) (mv_ri (by rfl)) rfl rfl dX12_now_114
                    · by_cases c_9 : y = 7
                      · refine V_tableInI (i := y) (off := 90) X 115 dX12_now_25 7 (iI_toInt (by omega) (by omega)) c_9 (by decide) (by decide) (by decide) ?_
                        refine V_aload_n X dX12_now_115 rfl ?_
                        refine V_get X fl_X12_89 0 0 rfl rfl rfl dX12_now_116 ?_
                        exact V_iret X Y (nI kn) (by exact Or.inr (Or.inr (Or.inr (Or.inr (Or.inr (Or.inr (Or.inr (Or.inl ⟨by assumption, rfl⟩)))))))) (mv_ri (by rfl)) rfl rfl dX12_now_119
                      · refine V_tableOutI (i := y) X 120 dX12_now_25 (iI_toInt (by omega) (by omega)) (by omega) (by decide) ?_
                        refine V_iconst X (-1) dX12_now_120 (by decide) ?_
                        exact V_iret X Y (-1) (by exact Or.inr (Or.inr (Or.inr (Or.inr (Or.inr (Or.inr (Or.inr (Or.inr ⟨by omega, rfl⟩)))))))) rfl rfl rfl dX12_now_121
      · refine V_iload_n X dX12_now_10 rfl ?_
        refine V_aload_n X dX12_now_11 rfl ?_
        refine V_iload_n X dX12_now_12 rfl ?_
        refine V_callV (rest := [.int (nI x)]) X (c_X12_deep (Cl C) G a tx to dr be s pa im ke no fa tr ty kn nd att so ss va c (by first | assumption | omega) (by first | assumption | omega)) mi_X12_deep kw_4_84 kw_4_86 kw_s_33 dX12_now_13 [0] rfl (by decide) 0 0 rfl rfl rfl rfl rfl rfl (by decide) (Nat.le_of_ble_eq_true rfl) ⟨rfl, rfl⟩ (fun _ _ => ?_)
        show V C 0 0 [gMod G a (nF tx) (nF to) (nF dr) (nF be) (nF s) (nF pa) (nF im) (nF ke) (nF no) (nF fa) (lN tr) (nI ty) (nI kn) (nI nd) (nI att) (nI so) (nI ss) (iI va)] 16 [some (.ref (a 0)), some (.int (iI y)), some (.int (nI x)), some (.int (nI c))] [.int (nI (s (5 + c) % 16)), .int (nI x)]
        refine V_iaddN X dX12_now_16 ?_
        refine V_istore_n X dX12_now_17 (by decide) rfl ?_
        refine V_iincN X (c := 1) dX12_now_18 rfl (by decide) rfl ?_
        refine V_goto X 4 dX12_now_21 (by decide) ?_
        refine V_weak (lv' := [some (.ref (a 0)), some (.int (iI y)), some (.int (nI (x + (s (5 + c) % 16)))), some (.int (nI (c + 1)))]) (And.intro rfl (And.intro rfl (And.intro rfl (And.intro rfl trivial)))) ?_
        exact ih_4 (x + (s (5 + c) % 16)) (c + 1) (by omega) (by rw [hx]; rfl) (by omega)
  refine V_weak (lv' := [some (.ref (a 0)), some (.int (iI y)), some (.int (nI 0)), some (.int (nI 0))]) (And.intro rfl (And.intro rfl (And.intro rfl (And.intro rfl trivial)))) ?_
  exact L_4 _ 0 0 (by omega) rfl (Nat.lt_succ_self _)
