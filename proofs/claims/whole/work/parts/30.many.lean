theorem and_pw (e p : Nat) : e &&& 2 ^ p = 2 ^ p ↔ ¬ e &&& 2 ^ p = 0 := by
  have hp : 0 < 2 ^ p := Nat.pow_pos (by decide)
  constructor
  · intro h z
    omega
  · intro h
    have h1 : e.testBit p = true := by
      cases hh : e.testBit p
      · exact absurd ((bit_iff e p).mpr hh) h
      · rfl
    apply Nat.eq_of_testBit_eq
    intro j
    rw [Nat.testBit_and, Nat.testBit_two_pow]
    by_cases f : p = j
    · subst f
      simp [h1]
    · simp [f]
theorem mw_c {e b : Nat} {p : Int} (hb : (p = -9 ∧ b = 0) ∨ (0 ≤ p ∧ b = 2 ^ p.toNat)) : e &&& b = b ↔ (p = -9 ∨ ¬ e &&& 2 ^ p.toNat = 0) := by
  rcases hb with ⟨h, rfl⟩ | ⟨h, rfl⟩
  · simp [h]
  · rw [and_pw]
    constructor
    · exact Or.inr
    · intro z
      rcases z with z | z
      · omega
      · exact z
theorem mw_eq {g e b : Nat} {F : Bool} {Q : Prop} (hq : e &&& b = b ↔ Q) (h : (g = 1 ∧ Q ∧ F = true) ∨ (g = 0 ∧ ¬ (Q ∧ F = true))) : g = if e &&& b = b ∧ F = true then 1 else 0 := by
  rcases h with ⟨h, h1, h2⟩ | ⟨h, h1⟩
  · rw [if_pos ⟨hq.mpr h1, h2⟩, h]
  · rw [if_neg (fun z => h1 ⟨hq.mp z.1, z.2⟩), h]
set_option maxHeartbeats 4000000 in
set_option maxRecDepth 100000 in
theorem c_X12_manyWith (l : Launch) (G : mvG) (a : Nat → Nat) (tx : Nat → Nat) (to : Nat → Nat) (dr : Nat → Nat) (be : Nat → Nat) (s : Nat → Nat) (pa : Nat → Nat) (im : Nat → Nat) (ke : Nat → Nat) (no : Nat → Nat) (fa : Nat → Nat) (tr : Nat) (ty : Nat) (kn : Nat) (nd : Nat) (att : Nat) (so : Nat) (ss : Nat) (va : Int) (p : Int) (b : Nat) (hn : to 0 ≤ 5) (hwt : ∀ j, j < 5 → to (4 + j) ≤ 4) (hno : ∀ j, j < nd → no j / 16 < 32 ∧ no j % 16 ≤ 9) (hnd : nd ≤ 6) (hpb : (p = -9 ∧ b = 0) ∨ (0 ≤ p ∧ b = 2 ^ p.toNat)) (hp : p < 5) : KQ l yX12_manyWith cX12_manyWith 4 (some .int) (2, 46) G [.ref (a 0), .int (iI p)] [gMod G a (nF tx) (nF to) (nF dr) (nF be) (nF s) (nF pa) (nF im) (nF ke) (nF no) (nF fa) (lN tr) (nI ty) (nI kn) (nI nd) (nI att) (nI so) (nI ss) (iI va)] (fun (_ : Unit) => some (.int (nI (canN (fun j => to (4 + j)) (to 0) (fun j => no j / 16) (fun j => no j % 16) nd b (2 ^ to 0))))) (fun (_ : Unit) => True) (fun (_ : Unit) => [gMod G a (nF tx) (nF to) (nF dr) (nF be) (nF s) (nF pa) (nF im) (nF ke) (nF no) (nF fa) (lN tr) (nI ty) (nI kn) (nI nd) (nI att) (nI so) (nI ss) (iI va)]) := by
  refine KQ.mk (by decide +kernel) (fun _ _ => rfl) [some (.ref (a 0)), some (.int (iI p)), none, none] (Nat.le_of_ble_eq_true rfl) rfl (fun C X Y hC => ?_)
  subst hC
  have hp5 := pow5 hn
  refine V_iconst X (nI 0) dX12_manyWith_0 (by decide) ?_
  refine V_istore_n X dX12_manyWith_1 (by decide) rfl ?_
  refine V_iconst X (nI 0) dX12_manyWith_2 (by decide) ?_
  refine V_istore_n X dX12_manyWith_3 (by decide) rfl ?_
  have L_4 : ∀ (fz_4 : Nat) (x : Nat) (e : Nat) (he : e ≤ 2 ^ to 0 ∧ x ≤ e) (hx : x = canN (fun j => to (4 + j)) (to 0) (fun j => no j / 16) (fun j => no j % 16) nd b e), (2 ^ to 0 - e) < fz_4 → V C 0 0 [gMod G a (nF tx) (nF to) (nF dr) (nF be) (nF s) (nF pa) (nF im) (nF ke) (nF no) (nF fa) (lN tr) (nI ty) (nI kn) (nI nd) (nI att) (nI so) (nI ss) (iI va)] 4 [some (.ref (a 0)), some (.int (iI p)), some (.int (nI x)), some (.int (nI e))] [] := by
    intro fz_4
    induction fz_4 with
    | zero => intro x e he hx hf_4; exact absurd hf_4 (Nat.not_lt_zero _)
    | succ fz_4 ih_4 =>
      intro x e he hx hf_4
      refine V_iload_n X dX12_manyWith_4 rfl ?_
      refine V_iconst X (nI 1) dX12_manyWith_5 (by decide) ?_
      refine V_aload_n X dX12_manyWith_6 rfl ?_
      refine V_get X fl_X12_13 0 0 rfl rfl rfl dX12_manyWith_7 ?_
      refine V_iconst X (nI 0) dX12_manyWith_10 (by decide) ?_
      refine V_ialdN X 0 2 rfl rfl (by decide) (by decide) dX12_manyWith_11 ?_
      refine V_ishl1N X dX12_manyWith_12 (by omega) ?_
      refine V_icmp_geN X 52 dX12_manyWith_13 (by decide) (by omega) (by omega) (fun c_1 => ?_) (fun c_1 => ?_)
      · refine V_iload_n X dX12_manyWith_52 rfl ?_
        exact V_iret X Y () trivial (mv_rn (by rw [hx, show e = 2 ^ to 0 by omega])) rfl rfl dX12_manyWith_53
      · have hC := mw_c (e := e) hpb
        refine V_iload_n X dX12_manyWith_16 rfl ?_
        refine V_iload_n X dX12_manyWith_17 rfl ?_
        refine V_bipush X (-9) dX12_manyWith_18 (by decide) ?_
        have J_44_2 : ∀ (g : Nat) (hg : g = if e &&& b = b ∧ fitB (fun j => to (4 + j)) (to 0) (fun j => no j / 16) (fun j => no j % 16) nd e = true then 1 else 0) (hg1 : g ≤ 1), V C 0 0 [gMod G a (nF tx) (nF to) (nF dr) (nF be) (nF s) (nF pa) (nF im) (nF ke) (nF no) (nF fa) (lN tr) (nI ty) (nI kn) (nI nd) (nI att) (nI so) (nI ss) (iI va)] 44 [some (.ref (a 0)), some (.int (iI p)), some (.int (nI x)), some (.int (nI e))] [.int (nI g), .int (nI x)] := by
          intro g hg hg1
          refine V_iaddN X dX12_manyWith_44 ?_
          refine V_istore_n X dX12_manyWith_45 (by decide) rfl ?_
          refine V_iincN X (c := 1) dX12_manyWith_46 rfl (by decide) rfl ?_
          refine V_goto X 4 dX12_manyWith_49 (by decide) ?_
          refine V_weak (lv' := [some (.ref (a 0)), some (.int (iI p)), some (.int (nI (x + g))), some (.int (nI (e + 1)))]) (And.intro rfl (And.intro rfl (And.intro rfl (And.intro rfl trivial)))) ?_
          exact ih_4 (x + g) (e + 1) (by omega) (by rw [hx, hg]; rfl) (by omega)
        refine V_icmp_eqI (i := p) (j := -9) X 31 dX12_manyWith_20 (by decide) (iI_toInt (by omega) (by omega)) (by rfl) (fun c_2 => ?_) (fun c_2 => ?_)
        · refine V_aload_n X dX12_manyWith_31 rfl ?_
          refine V_iload_n X dX12_manyWith_32 rfl ?_
          refine V_callV (rest := [.int (nI x)]) X (c_X12_isSo (Cl C) G a tx to dr be s pa im ke no fa tr ty kn nd att so ss va e (by first | assumption | omega) (by first | assumption | omega) (by first | assumption | omega) (by first | assumption | omega) (by first | assumption | omega)) mi_X12_isSo kw_4_211 kw_4_213 kw_s_44 dX12_manyWith_33 [0] rfl (by decide) 0 0 rfl rfl rfl rfl rfl rfl (by decide) (Nat.le_of_ble_eq_true rfl) ⟨rfl, rfl⟩ (fun u_ hu_4 => ?_)
          obtain ⟨b_3, rfl⟩ : ∃ z, z = u_ := ⟨_, rfl⟩
          have hu_4 : (b_3 = 1 ∧ fitF (fun j => to (4 + j)) (to 0) (fun j => no j / 16) (fun j => no j % 16) nd e) ∨ (b_3 = 0 ∧ ¬ fitF (fun j => to (4 + j)) (to 0) (fun j => no j / 16) (fun j => no j % 16) nd e) := hu_4
          show V C 0 0 [gMod G a (nF tx) (nF to) (nF dr) (nF be) (nF s) (nF pa) (nF im) (nF ke) (nF no) (nF fa) (lN tr) (nI ty) (nI kn) (nI nd) (nI att) (nI so) (nI ss) (iI va)] 36 [some (.ref (a 0)), some (.int (iI p)), some (.int (nI x)), some (.int (nI e))] [.int (nI b_3), .int (nI x)]
          have hi := hu_4
          refine V_if_eqN X 43 dX12_manyWith_36 (by decide) (by omega) (fun c_5 => ?_) (fun c_5 => ?_)
          · refine V_iconst X (nI 0) dX12_manyWith_43 (by decide) ?_
            refine V_weak (lv' := [some (.ref (a 0)), some (.int (iI p)), some (.int (nI x)), some (.int (nI e))]) (And.intro rfl (And.intro rfl (And.intro rfl (And.intro rfl trivial)))) ?_
            exact J_44_2 0 (by first | exact mw_eq hC (Or.inl ⟨rfl, by omega, fitB_iff.mpr (hi.resolve_right (by omega)).2⟩) | exact mw_eq hC (Or.inr ⟨rfl, fun z => (hi.resolve_left (by omega)).2 (fitB_iff.mp z.2)⟩) | exact mw_eq hC (Or.inr ⟨rfl, fun z => absurd z.1 (by omega)⟩)) (by omega)
          · refine V_iconst X (nI 1) dX12_manyWith_39 (by decide) ?_
            refine V_goto X 44 dX12_manyWith_40 (by decide) ?_
            refine V_weak (lv' := [some (.ref (a 0)), some (.int (iI p)), some (.int (nI x)), some (.int (nI e))]) (And.intro rfl (And.intro rfl (And.intro rfl (And.intro rfl trivial)))) ?_
            exact J_44_2 1 (by first | exact mw_eq hC (Or.inl ⟨rfl, by omega, fitB_iff.mpr (hi.resolve_right (by omega)).2⟩) | exact mw_eq hC (Or.inr ⟨rfl, fun z => (hi.resolve_left (by omega)).2 (fitB_iff.mp z.2)⟩) | exact mw_eq hC (Or.inr ⟨rfl, fun z => absurd z.1 (by omega)⟩)) (by omega)
        · refine V_iload_n X dX12_manyWith_23 rfl ?_
          refine V_iload_n X dX12_manyWith_24 rfl ?_
          refine V_topi (show (iI p) = (nI p.toNat) from (mv_sn (by omega))) ?_
          refine V_callS (rest := [.int (nI x)]) X (c_X12_has (Cl C) G e p.toNat (by first | assumption | omega) (by first | assumption | omega)) mi_X12_has kw_4_120 kw_4_121 dX12_manyWith_25 [] rfl (by decide) rfl rfl (by decide) (Nat.le_of_ble_eq_true rfl) ⟨rfl, rfl⟩ (fun u_ hu_7 => ?_)
          obtain ⟨b_6, rfl⟩ : ∃ z, z = u_ := ⟨_, rfl⟩
          have hu_7 : (b_6 = 1 ∧ ¬ e &&& 2 ^ p.toNat = 0) ∨ (b_6 = 0 ∧ e &&& 2 ^ p.toNat = 0) := hu_7
          show V C 0 0 [gMod G a (nF tx) (nF to) (nF dr) (nF be) (nF s) (nF pa) (nF im) (nF ke) (nF no) (nF fa) (lN tr) (nI ty) (nI kn) (nI nd) (nI att) (nI so) (nI ss) (iI va)] 28 [some (.ref (a 0)), some (.int (iI p)), some (.int (nI x)), some (.int (nI e))] [.int (nI b_6), .int (nI x)]
          refine V_if_eqN X 43 dX12_manyWith_28 (by decide) (by omega) (fun c_8 => ?_) (fun c_8 => ?_)
          · refine V_iconst X (nI 0) dX12_manyWith_43 (by decide) ?_
            refine V_weak (lv' := [some (.ref (a 0)), some (.int (iI p)), some (.int (nI x)), some (.int (nI e))]) (And.intro rfl (And.intro rfl (And.intro rfl (And.intro rfl trivial)))) ?_
            exact J_44_2 0 (by first | exact mw_eq hC (Or.inl ⟨rfl, by omega, fitB_iff.mpr (hi.resolve_right (by omega)).2⟩) | exact mw_eq hC (Or.inr ⟨rfl, fun z => (hi.resolve_left (by omega)).2 (fitB_iff.mp z.2)⟩) | exact mw_eq hC (Or.inr ⟨rfl, fun z => absurd z.1 (by omega)⟩)) (by omega)
          · refine V_aload_n X dX12_manyWith_31 rfl ?_
            refine V_iload_n X dX12_manyWith_32 rfl ?_
            refine V_callV (rest := [.int (nI x)]) X (c_X12_isSo (Cl C) G a tx to dr be s pa im ke no fa tr ty kn nd att so ss va e (by first | assumption | omega) (by first | assumption | omega) (by first | assumption | omega) (by first | assumption | omega) (by first | assumption | omega)) mi_X12_isSo kw_4_211 kw_4_213 kw_s_44 dX12_manyWith_33 [0] rfl (by decide) 0 0 rfl rfl rfl rfl rfl rfl (by decide) (Nat.le_of_ble_eq_true rfl) ⟨rfl, rfl⟩ (fun u_ hu_10 => ?_)
            obtain ⟨b_9, rfl⟩ : ∃ z, z = u_ := ⟨_, rfl⟩
            have hu_10 : (b_9 = 1 ∧ fitF (fun j => to (4 + j)) (to 0) (fun j => no j / 16) (fun j => no j % 16) nd e) ∨ (b_9 = 0 ∧ ¬ fitF (fun j => to (4 + j)) (to 0) (fun j => no j / 16) (fun j => no j % 16) nd e) := hu_10
            show V C 0 0 [gMod G a (nF tx) (nF to) (nF dr) (nF be) (nF s) (nF pa) (nF im) (nF ke) (nF no) (nF fa) (lN tr) (nI ty) (nI kn) (nI nd) (nI att) (nI so) (nI ss) (iI va)] 36 [some (.ref (a 0)), some (.int (iI p)), some (.int (nI x)), some (.int (nI e))] [.int (nI b_9), .int (nI x)]
            have hi := hu_10
            refine V_if_eqN X 43 dX12_manyWith_36 (by decide) (by omega) (fun c_11 => ?_) (fun c_11 => ?_)
            · refine V_iconst X (nI 0) dX12_manyWith_43 (by decide) ?_
              refine V_weak (lv' := [some (.ref (a 0)), some (.int (iI p)), some (.int (nI x)), some (.int (nI e))]) (And.intro rfl (And.intro rfl (And.intro rfl (And.intro rfl trivial)))) ?_
              exact J_44_2 0 (by first | exact mw_eq hC (Or.inl ⟨rfl, by omega, fitB_iff.mpr (hi.resolve_right (by omega)).2⟩) | exact mw_eq hC (Or.inr ⟨rfl, fun z => (hi.resolve_left (by omega)).2 (fitB_iff.mp z.2)⟩) | exact mw_eq hC (Or.inr ⟨rfl, fun z => absurd z.1 (by omega)⟩)) (by omega)
            · refine V_iconst X (nI 1) dX12_manyWith_39 (by decide) ?_
              refine V_goto X 44 dX12_manyWith_40 (by decide) ?_
              refine V_weak (lv' := [some (.ref (a 0)), some (.int (iI p)), some (.int (nI x)), some (.int (nI e))]) (And.intro rfl (And.intro rfl (And.intro rfl (And.intro rfl trivial)))) ?_
              exact J_44_2 1 (by first | exact mw_eq hC (Or.inl ⟨rfl, by omega, fitB_iff.mpr (hi.resolve_right (by omega)).2⟩) | exact mw_eq hC (Or.inr ⟨rfl, fun z => (hi.resolve_left (by omega)).2 (fitB_iff.mp z.2)⟩) | exact mw_eq hC (Or.inr ⟨rfl, fun z => absurd z.1 (by omega)⟩)) (by omega)
  refine V_weak (lv' := [some (.ref (a 0)), some (.int (iI p)), some (.int (nI 0)), some (.int (nI 0))]) (And.intro rfl (And.intro rfl (And.intro rfl (And.intro rfl trivial)))) ?_
  exact L_4 _ 0 0 ⟨Nat.zero_le _, Nat.le_refl _⟩ rfl (Nat.lt_succ_self _)
