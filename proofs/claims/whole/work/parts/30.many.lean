theorem and_pw (e p : Nat) : e &&& 2 ^ p = 2 ^ p ↔ ¬ e &&& 2 ^ p = 0 := by
  have hp : 0 < 2 ^ p := Nat.pow_pos (by decide)
  constructor
  · intro h z
    omega
  · intro h
    have h1 : e.testBit p = true := by
      cases hh : e.testBit p
      · exact absurd ((bit_iff e p).mpr hh) h
      · rfl
    apply Nat.eq_of_testBit_eq
    intro j
    rw [Nat.testBit_and, Nat.testBit_two_pow]
    by_cases f : p = j
    · subst f
      simp [h1]
    · simp [f]
theorem mw_c {e b : Nat} {p : Int} (hb : (p = -9 ∧ b = 0) ∨ (0 ≤ p ∧ b = 2 ^ p.toNat)) : e &&& b = b ↔ (p = -9 ∨ ¬ e &&& 2 ^ p.toNat = 0) := by
  rcases hb with ⟨h, rfl⟩ | ⟨h, rfl⟩
  · simp [h]
  · rw [and_pw]
    constructor
    · exact Or.inr
    · intro z
      rcases z with z | z
      · omega
      · exact z
theorem mw_eq {g e b : Nat} {F : Bool} {Q : Prop} (hq : e &&& b = b ↔ Q) (h : (g = 1 ∧ Q ∧ F = true) ∨ (g = 0 ∧ ¬ (Q ∧ F = true))) : g = if e &&& b = b ∧ F = true then 1 else 0 := by
  rcases h with ⟨h, h1, h2⟩ | ⟨h, h1⟩
  · rw [if_pos ⟨hq.mpr h1, h2⟩, h]
  · rw [if_neg (fun z => h1 ⟨hq.mp z.1, z.2⟩), h]
def askM (cn : Nat → Nat) (al : Nat) : Nat → Nat × Int
  | 0 => (al + 1, -9)
  | p + 1 => if max (cn p) (al - cn p) < (askM cn al p).1 then (max (cn p) (al - cn p), (p : Int)) else askM cn al p
theorem askM_next {cn : Nat → Nat} {al p y y' g : Nat} {z z' : Int} (h1 : y = (askM cn al p).1) (h2 : z = (askM cn al p).2) (hg : g = max (cn p) (al - cn p)) (hz : z' = if g < y then (p : Int) else z) (hy : y' = if g < y then g else y) : y' = (askM cn al (p + 1)).1 ∧ z' = (askM cn al (p + 1)).2 := by
  subst hg h1 h2
  simp only [askM]
  by_cases e : max (cn p) (al - cn p) < (askM cn al p).1
  · rw [if_pos e] at hz hy ⊢
    exact ⟨hy, hz⟩
  · rw [if_neg e] at hz hy ⊢
    exact ⟨hy, hz⟩
set_option maxHeartbeats 4000000 in
set_option maxRecDepth 100000 in
theorem c_X12_manyWith (l : Launch) (G : mvG) (a : Nat → Nat) (tx : Nat → Nat) (to : Nat → Nat) (dr : Nat → Nat) (be : Nat → Nat) (s : Nat → Nat) (pa : Nat → Nat) (im : Nat → Nat) (ke : Nat → Nat) (no : Nat → Nat) (fa : Nat → Nat) (tr : Nat) (ty : Nat) (kn : Nat) (nd : Nat) (att : Nat) (so : Nat) (ss : Nat) (va : Int) (p : Int) (b : Nat) (hn : to 0 ≤ 5) (hwt : ∀ j, j < 5 → to (4 + j) ≤ 4) (hno : ∀ j, j < nd → no j / 16 < 32 ∧ no j % 16 ≤ 9) (hnd : nd ≤ 6) (hpb : (p = -9 ∧ b = 0) ∨ (0 ≤ p ∧ b = 2 ^ p.toNat)) (hp : p < 5) : KQ l yX12_manyWith cX12_manyWith 4 (some .int) (2, 46) G [.ref (a 0), .int (iI p)] [gMod G a (nF tx) (nF to) (nF dr) (nF be) (nF s) (nF pa) (nF im) (nF ke) (nF no) (nF fa) (lN tr) (nI ty) (nI kn) (nI nd) (nI att) (nI so) (nI ss) (iI va)] (fun (_ : Unit) => some (.int (nI (canN (fun j => to (4 + j)) (to 0) (fun j => no j / 16) (fun j => no j % 16) nd b (2 ^ to 0))))) (fun (_ : Unit) => True) (fun (_ : Unit) => [gMod G a (nF tx) (nF to) (nF dr) (nF be) (nF s) (nF pa) (nF im) (nF ke) (nF no) (nF fa) (lN tr) (nI ty) (nI kn) (nI nd) (nI att) (nI so) (nI ss) (iI va)]) := by
  refine KQ.mk (by decide +kernel) (fun _ _ => rfl) [some (.ref (a 0)), some (.int (iI p)), none, none] (Nat.le_of_ble_eq_true rfl) rfl (fun C X Y hC => ?_)
  subst hC
  have hp5 := pow5 hn
  refine V_iconst X (nI 0) dX12_manyWith_0 (by decide) ?_
  refine V_istore_n X dX12_manyWith_1 (by decide) rfl ?_
  refine V_iconst X (nI 0) dX12_manyWith_2 (by decide) ?_
  refine V_istore_n X dX12_manyWith_3 (by decide) rfl ?_
  have L_4 : ∀ (fz_4 : Nat) (x : Nat) (e : Nat) (he : e ≤ 2 ^ to 0 ∧ x ≤ e) (hx : x = canN (fun j => to (4 + j)) (to 0) (fun j => no j / 16) (fun j => no j % 16) nd b e), (2 ^ to 0 - e) < fz_4 → V C 0 0 [gMod G a (nF tx) (nF to) (nF dr) (nF be) (nF s) (nF pa) (nF im) (nF ke) (nF no) (nF fa) (lN tr) (nI ty) (nI kn) (nI nd) (nI att) (nI so) (nI ss) (iI va)] 4 [some (.ref (a 0)), some (.int (iI p)), some (.int (nI x)), some (.int (nI e))] [] := by
    intro fz_4
    induction fz_4 with
    | zero => intro x e he hx hf_4; exact absurd hf_4 (Nat.not_lt_zero _)
    | succ fz_4 ih_4 =>
      intro x e he hx hf_4
      refine V_iload_n X dX12_manyWith_4 rfl ?_
      refine V_iconst X (nI 1) dX12_manyWith_5 (by decide) ?_
      refine V_aload_n X dX12_manyWith_6 rfl ?_
      refine V_get X fl_X12_13 0 0 rfl rfl rfl dX12_manyWith_7 ?_
      refine V_iconst X (nI 0) dX12_manyWith_10 (by decide) ?_
      refine V_ialdN X 0 2 rfl rfl (by decide) (by decide) dX12_manyWith_11 ?_
      refine V_ishl1N X dX12_manyWith_12 (by omega) ?_
      refine V_icmp_geN X 52 dX12_manyWith_13 (by decide) (by omega) (by omega) (fun c_1 => ?_) (fun c_1 => ?_)
      · refine V_iload_n X dX12_manyWith_52 rfl ?_
        exact V_iret X Y () trivial (mv_rn (by rw [hx, show e = 2 ^ to 0 by omega])) rfl rfl dX12_manyWith_53
      · have hC := mw_c (e := e) hpb
        refine V_iload_n X dX12_manyWith_16 rfl ?_
        refine V_iload_n X dX12_manyWith_17 rfl ?_
        refine V_bipush X (-9) dX12_manyWith_18 (by decide) ?_
        have J_44_2 : ∀ (g : Nat) (hg : g = if e &&& b = b ∧ fitB (fun j => to (4 + j)) (to 0) (fun j => no j / 16) (fun j => no j % 16) nd e = true then 1 else 0) (hg1 : g ≤ 1), V C 0 0 [gMod G a (nF tx) (nF to) (nF dr) (nF be) (nF s) (nF pa) (nF im) (nF ke) (nF no) (nF fa) (lN tr) (nI ty) (nI kn) (nI nd) (nI att) (nI so) (nI ss) (iI va)] 44 [some (.ref (a 0)), some (.int (iI p)), some (.int (nI x)), some (.int (nI e))] [.int (nI g), .int (nI x)] := by
          intro g hg hg1
          refine V_iaddN X dX12_manyWith_44 ?_
          refine V_istore_n X dX12_manyWith_45 (by decide) rfl ?_
          refine V_iincN X (c := 1) dX12_manyWith_46 rfl (by decide) rfl ?_
          refine V_goto X 4 dX12_manyWith_49 (by decide) ?_
          refine V_weak (lv' := [some (.ref (a 0)), some (.int (iI p)), some (.int (nI (x + g))), some (.int (nI (e + 1)))]) (And.intro rfl (And.intro rfl (And.intro rfl (And.intro rfl trivial)))) ?_
          exact ih_4 (x + g) (e + 1) (by omega) (by rw [hx, hg]; rfl) (by omega)
        refine V_icmp_eqI (i := p) (j := -9) X 31 dX12_manyWith_20 (by decide) (iI_toInt (by omega) (by omega)) (by rfl) (fun c_2 => ?_) (fun c_2 => ?_)
        · refine V_aload_n X dX12_manyWith_31 rfl ?_
          refine V_iload_n X dX12_manyWith_32 rfl ?_
          refine V_callV (rest := [.int (nI x)]) X (c_X12_isSo (Cl C) G a tx to dr be s pa im ke no fa tr ty kn nd att so ss va e (by first | assumption | omega) (by first | assumption | omega) (by first | assumption | omega) (by first | assumption | omega) (by first | assumption | omega)) mi_X12_isSo kw_4_214 kw_4_216 kw_s_46 dX12_manyWith_33 [0] rfl (by decide) 0 0 rfl rfl rfl rfl rfl rfl (by decide) (Nat.le_of_ble_eq_true rfl) ⟨rfl, rfl⟩ (fun u_ hu_4 => ?_)
          obtain ⟨b_3, rfl⟩ : ∃ z, z = u_ := ⟨_, rfl⟩
          have hu_4 : (b_3 = 1 ∧ fitF (fun j => to (4 + j)) (to 0) (fun j => no j / 16) (fun j => no j % 16) nd e) ∨ (b_3 = 0 ∧ ¬ fitF (fun j => to (4 + j)) (to 0) (fun j => no j / 16) (fun j => no j % 16) nd e) := hu_4
          show V C 0 0 [gMod G a (nF tx) (nF to) (nF dr) (nF be) (nF s) (nF pa) (nF im) (nF ke) (nF no) (nF fa) (lN tr) (nI ty) (nI kn) (nI nd) (nI att) (nI so) (nI ss) (iI va)] 36 [some (.ref (a 0)), some (.int (iI p)), some (.int (nI x)), some (.int (nI e))] [.int (nI b_3), .int (nI x)]
          have hi := hu_4
          refine V_if_eqN X 43 dX12_manyWith_36 (by decide) (by omega) (fun c_5 => ?_) (fun c_5 => ?_)
          · refine V_iconst X (nI 0) dX12_manyWith_43 (by decide) ?_
            refine V_weak (lv' := [some (.ref (a 0)), some (.int (iI p)), some (.int (nI x)), some (.int (nI e))]) (And.intro rfl (And.intro rfl (And.intro rfl (And.intro rfl trivial)))) ?_
            exact J_44_2 0 (by first | exact mw_eq hC (Or.inl ⟨rfl, by omega, fitB_iff.mpr (hi.resolve_right (by omega)).2⟩) | exact mw_eq hC (Or.inr ⟨rfl, fun z => (hi.resolve_left (by omega)).2 (fitB_iff.mp z.2)⟩) | exact mw_eq hC (Or.inr ⟨rfl, fun z => absurd z.1 (by omega)⟩)) (by omega)
          · refine V_iconst X (nI 1) dX12_manyWith_39 (by decide) ?_
            refine V_goto X 44 dX12_manyWith_40 (by decide) ?_
            refine V_weak (lv' := [some (.ref (a 0)), some (.int (iI p)), some (.int (nI x)), some (.int (nI e))]) (And.intro rfl (And.intro rfl (And.intro rfl (And.intro rfl trivial)))) ?_
            exact J_44_2 1 (by first | exact mw_eq hC (Or.inl ⟨rfl, by omega, fitB_iff.mpr (hi.resolve_right (by omega)).2⟩) | exact mw_eq hC (Or.inr ⟨rfl, fun z => (hi.resolve_left (by omega)).2 (fitB_iff.mp z.2)⟩) | exact mw_eq hC (Or.inr ⟨rfl, fun z => absurd z.1 (by omega)⟩)) (by omega)
        · refine V_iload_n X dX12_manyWith_23 rfl ?_
          refine V_iload_n X dX12_manyWith_24 rfl ?_
          refine V_topi (show (iI p) = (nI p.toNat) from (mv_sn (by omega))) ?_
          refine V_callS (rest := [.int (nI x)]) X (c_X12_has (Cl C) G e p.toNat (by first | assumption | omega) (by first | assumption | omega)) mi_X12_has kw_4_123 kw_4_124 dX12_manyWith_25 [] rfl (by decide) rfl rfl (by decide) (Nat.le_of_ble_eq_true rfl) ⟨rfl, rfl⟩ (fun u_ hu_7 => ?_)
          obtain ⟨b_6, rfl⟩ : ∃ z, z = u_ := ⟨_, rfl⟩
          have hu_7 : (b_6 = 1 ∧ ¬ e &&& 2 ^ p.toNat = 0) ∨ (b_6 = 0 ∧ e &&& 2 ^ p.toNat = 0) := hu_7
          show V C 0 0 [gMod G a (nF tx) (nF to) (nF dr) (nF be) (nF s) (nF pa) (nF im) (nF ke) (nF no) (nF fa) (lN tr) (nI ty) (nI kn) (nI nd) (nI att) (nI so) (nI ss) (iI va)] 28 [some (.ref (a 0)), some (.int (iI p)), some (.int (nI x)), some (.int (nI e))] [.int (nI b_6), .int (nI x)]
          refine V_if_eqN X 43 dX12_manyWith_28 (by decide) (by omega) (fun c_8 => ?_) (fun c_8 => ?_)
          · refine V_iconst X (nI 0) dX12_manyWith_43 (by decide) ?_
            refine V_weak (lv' := [some (.ref (a 0)), some (.int (iI p)), some (.int (nI x)), some (.int (nI e))]) (And.intro rfl (And.intro rfl (And.intro rfl (And.intro rfl trivial)))) ?_
            exact J_44_2 0 (by first | exact mw_eq hC (Or.inl ⟨rfl, by omega, fitB_iff.mpr (hi.resolve_right (by omega)).2⟩) | exact mw_eq hC (Or.inr ⟨rfl, fun z => (hi.resolve_left (by omega)).2 (fitB_iff.mp z.2)⟩) | exact mw_eq hC (Or.inr ⟨rfl, fun z => absurd z.1 (by omega)⟩)) (by omega)
          · refine V_aload_n X dX12_manyWith_31 rfl ?_
            refine V_iload_n X dX12_manyWith_32 rfl ?_
            refine V_callV (rest := [.int (nI x)]) X (c_X12_isSo (Cl C) G a tx to dr be s pa im ke no fa tr ty kn nd att so ss va e (by first | assumption | omega) (by first | assumption | omega) (by first | assumption | omega) (by first | assumption | omega) (by first | assumption | omega)) mi_X12_isSo kw_4_214 kw_4_216 kw_s_46 dX12_manyWith_33 [0] rfl (by decide) 0 0 rfl rfl rfl rfl rfl rfl (by decide) (Nat.le_of_ble_eq_true rfl) ⟨rfl, rfl⟩ (fun u_ hu_10 => ?_)
            obtain ⟨b_9, rfl⟩ : ∃ z, z = u_ := ⟨_, rfl⟩
            have hu_10 : (b_9 = 1 ∧ fitF (fun j => to (4 + j)) (to 0) (fun j => no j / 16) (fun j => no j % 16) nd e) ∨ (b_9 = 0 ∧ ¬ fitF (fun j => to (4 + j)) (to 0) (fun j => no j / 16) (fun j => no j % 16) nd e) := hu_10
            show V C 0 0 [gMod G a (nF tx) (nF to) (nF dr) (nF be) (nF s) (nF pa) (nF im) (nF ke) (nF no) (nF fa) (lN tr) (nI ty) (nI kn) (nI nd) (nI att) (nI so) (nI ss) (iI va)] 36 [some (.ref (a 0)), some (.int (iI p)), some (.int (nI x)), some (.int (nI e))] [.int (nI b_9), .int (nI x)]
            have hi := hu_10
            refine V_if_eqN X 43 dX12_manyWith_36 (by decide) (by omega) (fun c_11 => ?_) (fun c_11 => ?_)
            · refine V_iconst X (nI 0) dX12_manyWith_43 (by decide) ?_
              refine V_weak (lv' := [some (.ref (a 0)), some (.int (iI p)), some (.int (nI x)), some (.int (nI e))]) (And.intro rfl (And.intro rfl (And.intro rfl (And.intro rfl trivial)))) ?_
              exact J_44_2 0 (by first | exact mw_eq hC (Or.inl ⟨rfl, by omega, fitB_iff.mpr (hi.resolve_right (by omega)).2⟩) | exact mw_eq hC (Or.inr ⟨rfl, fun z => (hi.resolve_left (by omega)).2 (fitB_iff.mp z.2)⟩) | exact mw_eq hC (Or.inr ⟨rfl, fun z => absurd z.1 (by omega)⟩)) (by omega)
            · refine V_iconst X (nI 1) dX12_manyWith_39 (by decide) ?_
              refine V_goto X 44 dX12_manyWith_40 (by decide) ?_
              refine V_weak (lv' := [some (.ref (a 0)), some (.int (iI p)), some (.int (nI x)), some (.int (nI e))]) (And.intro rfl (And.intro rfl (And.intro rfl (And.intro rfl trivial)))) ?_
              exact J_44_2 1 (by first | exact mw_eq hC (Or.inl ⟨rfl, by omega, fitB_iff.mpr (hi.resolve_right (by omega)).2⟩) | exact mw_eq hC (Or.inr ⟨rfl, fun z => (hi.resolve_left (by omega)).2 (fitB_iff.mp z.2)⟩) | exact mw_eq hC (Or.inr ⟨rfl, fun z => absurd z.1 (by omega)⟩)) (by omega)
  refine V_weak (lv' := [some (.ref (a 0)), some (.int (iI p)), some (.int (nI 0)), some (.int (nI 0))]) (And.intro rfl (And.intro rfl (And.intro rfl (And.intro rfl trivial)))) ?_
  exact L_4 _ 0 0 ⟨Nat.zero_le _, Nat.le_refl _⟩ rfl (Nat.lt_succ_self _)
set_option maxHeartbeats 4000000 in
set_option maxRecDepth 100000 in
theorem c_X12_ask (l : Launch) (G : mvG) (a : Nat → Nat) (tx : Nat → Nat) (to : Nat → Nat) (dr : Nat → Nat) (be : Nat → Nat) (s : Nat → Nat) (pa : Nat → Nat) (im : Nat → Nat) (ke : Nat → Nat) (no : Nat → Nat) (fa : Nat → Nat) (tr : Nat) (ty : Nat) (kn : Nat) (nd : Nat) (att : Nat) (so : Nat) (ss : Nat) (va : Int) (hn : to 0 ≤ 5) (hwt : ∀ j, j < 5 → to (4 + j) ≤ 4) (hno : ∀ j, j < nd → no j / 16 < 32 ∧ no j % 16 ≤ 9) (hnd : nd ≤ 6) : KQ l yX12_ask cX12_ask 7 (some .int) (3, 69) G [.ref (a 0)] [gMod G a (nF tx) (nF to) (nF dr) (nF be) (nF s) (nF pa) (nF im) (nF ke) (nF no) (nF fa) (lN tr) (nI ty) (nI kn) (nI nd) (nI att) (nI so) (nI ss) (iI va)] (fun (_ : Unit) => some (.int (iI (if (canN (fun j => to (4 + j)) (to 0) (fun j => no j / 16) (fun j => no j % 16) nd 0 (2 ^ to 0)) ≤ 1 then -9 else (askM (fun p => canN (fun j => to (4 + j)) (to 0) (fun j => no j / 16) (fun j => no j % 16) nd (2 ^ p) (2 ^ to 0)) (canN (fun j => to (4 + j)) (to 0) (fun j => no j / 16) (fun j => no j % 16) nd 0 (2 ^ to 0)) (to 0)).2)))) (fun (_ : Unit) => True) (fun (_ : Unit) => [gMod G a (nF tx) (nF to) (nF dr) (nF be) (nF s) (nF pa) (nF im) (nF ke) (nF no) (nF fa) (lN tr) (nI ty) (nI kn) (nI nd) (nI att) (nI so) (nI ss) (iI va)]) := by
  refine KQ.mk (by decide +kernel) (fun _ _ => rfl) [some (.ref (a 0)), none, none, none, none, none, none] (Nat.le_of_ble_eq_true rfl) rfl (fun C X Y hC => ?_)
  subst hC
  have hp5 := pow5 hn
  have hal := (canN_le (fun j => to (4 + j)) (to 0) (fun j => no j / 16) (fun j => no j % 16) nd 0 (2 ^ to 0)).2
  refine V_aload_n X dX12_ask_0 rfl ?_
  refine V_bipush X (-9) dX12_ask_1 (by decide) ?_
  refine V_callV (rest := []) X (c_X12_manyWith (Cl C) G a tx to dr be s pa im ke no fa tr ty kn nd att so ss va (-9) 0 (by first | assumption | omega) (by first | assumption | omega) (by first | assumption | omega) (by first | assumption | omega) (Or.inl ⟨rfl, rfl⟩) (by first | assumption | omega)) mi_X12_manyWith kw_4_210 kw_4_212 kw_s_45 dX12_ask_3 [0] rfl (by decide) 0 0 rfl rfl rfl rfl rfl rfl (by decide) (Nat.le_of_ble_eq_true rfl) ⟨rfl, rfl⟩ (fun _ _ => ?_)
  show V C 0 0 [gMod G a (nF tx) (nF to) (nF dr) (nF be) (nF s) (nF pa) (nF im) (nF ke) (nF no) (nF fa) (lN tr) (nI ty) (nI kn) (nI nd) (nI att) (nI so) (nI ss) (iI va)] 6 [some (.ref (a 0)), none, none, none, none, none, none] [.int (nI (canN (fun j => to (4 + j)) (to 0) (fun j => no j / 16) (fun j => no j % 16) nd 0 (2 ^ to 0)))]
  refine V_istore_n X dX12_ask_6 (by decide) rfl ?_
  refine V_bipush X (-9) dX12_ask_7 (by decide) ?_
  refine V_istore_n X dX12_ask_9 (by decide) rfl ?_
  refine V_iload_n X dX12_ask_10 rfl ?_
  refine V_iconst X (nI 1) dX12_ask_11 (by decide) ?_
  refine V_iaddN X dX12_ask_12 ?_
  refine V_istore_n X dX12_ask_13 (by decide) rfl ?_
  refine V_iconst X (nI 0) dX12_ask_14 (by decide) ?_
  refine V_istore X dX12_ask_15 (by decide) rfl ?_
  have L_17 : ∀ (fz_17 : Nat) (z : Int) (y : Nat) (p : Nat) (hp : p ≤ to 0 ∧ (p = 0 ∨ 1 < (canN (fun j => to (4 + j)) (to 0) (fun j => no j / 16) (fun j => no j % 16) nd 0 (2 ^ to 0))) ∧ y ≤ 33 ∧ -9 ≤ z ∧ z < 5) (hB : y = (askM (fun p => canN (fun j => to (4 + j)) (to 0) (fun j => no j / 16) (fun j => no j % 16) nd (2 ^ p) (2 ^ to 0)) (canN (fun j => to (4 + j)) (to 0) (fun j => no j / 16) (fun j => no j % 16) nd 0 (2 ^ to 0)) p).1 ∧ z = (askM (fun p => canN (fun j => to (4 + j)) (to 0) (fun j => no j / 16) (fun j => no j % 16) nd (2 ^ p) (2 ^ to 0)) (canN (fun j => to (4 + j)) (to 0) (fun j => no j / 16) (fun j => no j % 16) nd 0 (2 ^ to 0)) p).2), (to 0 - p) < fz_17 → V C 0 0 [gMod G a (nF tx) (nF to) (nF dr) (nF be) (nF s) (nF pa) (nF im) (nF ke) (nF no) (nF fa) (lN tr) (nI ty) (nI kn) (nI nd) (nI att) (nI so) (nI ss) (iI va)] 17 [some (.ref (a 0)), some (.int (nI (canN (fun j => to (4 + j)) (to 0) (fun j => no j / 16) (fun j => no j % 16) nd 0 (2 ^ to 0)))), some (.int (iI z)), some (.int (nI y)), some (.int (nI p)), none, none] [] := by
    intro fz_17
    induction fz_17 with
    | zero => intro z y p hp hB hf_17; exact absurd hf_17 (Nat.not_lt_zero _)
    | succ fz_17 ih_17 =>
      intro z y p hp hB hf_17
      refine V_iload X dX12_ask_17 rfl ?_
      refine V_aload_n X dX12_ask_19 rfl ?_
      refine V_get X fl_X12_13 0 0 rfl rfl rfl dX12_ask_20 ?_
      refine V_iconst X (nI 0) dX12_ask_23 (by decide) ?_
      refine V_ialdN X 0 2 rfl rfl (by decide) (by decide) dX12_ask_24 ?_
      refine V_icmp_geN X 93 dX12_ask_25 (by decide) (by omega) (by omega) (fun c_1 => ?_) (fun c_1 => ?_)
      · refine V_iload_n X dX12_ask_93 rfl ?_
        exact V_iret X Y () trivial (mv_si ((by by_cases e : (canN (fun j => to (4 + j)) (to 0) (fun j => no j / 16) (fun j => no j % 16) nd 0 (2 ^ to 0)) ≤ 1; rw [if_pos e, hB.2, show p = 0 by omega]; rfl; rw [if_neg e, hB.2, show p = to 0 by omega]))) rfl rfl dX12_ask_94
      · refine V_iload_n X dX12_ask_28 rfl ?_
        refine V_iconst X (nI 1) dX12_ask_29 (by decide) ?_
        refine V_icmp_leN X 93 dX12_ask_30 (by decide) (by omega) (by decide) (fun c_2 => ?_) (fun c_2 => ?_)
        · refine V_iload_n X dX12_ask_93 rfl ?_
          exact V_iret X Y () trivial (mv_si ((by by_cases e : (canN (fun j => to (4 + j)) (to 0) (fun j => no j / 16) (fun j => no j % 16) nd 0 (2 ^ to 0)) ≤ 1; rw [if_pos e, hB.2, show p = 0 by omega]; rfl; rw [if_neg e, hB.2, show p = to 0 by omega]))) rfl rfl dX12_ask_94
        · have hcp := (canN_le (fun j => to (4 + j)) (to 0) (fun j => no j / 16) (fun j => no j % 16) nd (2 ^ p) (2 ^ to 0)).1
          refine V_aload_n X dX12_ask_33 rfl ?_
          refine V_iload X dX12_ask_34 rfl ?_
          refine V_callV (rest := []) X (c_X12_manyWith (Cl C) G a tx to dr be s pa im ke no fa tr ty kn nd att so ss va ((p : Nat) : Int) (2 ^ p) (by first | assumption | omega) (by first | assumption | omega) (by first | assumption | omega) (by first | assumption | omega) (Or.inr ⟨by omega, by rw [Int.toNat_natCast]⟩) (by first | assumption | omega)) mi_X12_manyWith kw_4_210 kw_4_212 kw_s_45 dX12_ask_36 [0] rfl (by decide) 0 0 rfl rfl rfl rfl rfl rfl (by decide) (Nat.le_of_ble_eq_true rfl) ⟨rfl, rfl⟩ (fun _ _ => ?_)
          show V C 0 0 [gMod G a (nF tx) (nF to) (nF dr) (nF be) (nF s) (nF pa) (nF im) (nF ke) (nF no) (nF fa) (lN tr) (nI ty) (nI kn) (nI nd) (nI att) (nI so) (nI ss) (iI va)] 39 [some (.ref (a 0)), some (.int (nI (canN (fun j => to (4 + j)) (to 0) (fun j => no j / 16) (fun j => no j % 16) nd 0 (2 ^ to 0)))), some (.int (iI z)), some (.int (nI y)), some (.int (nI p)), none, none] [.int (nI (canN (fun j => to (4 + j)) (to 0) (fun j => no j / 16) (fun j => no j % 16) nd (2 ^ p) (2 ^ to 0)))]
          refine V_istore X dX12_ask_39 (by decide) rfl ?_
          refine V_iload X dX12_ask_41 rfl ?_
          refine V_iload_n X dX12_ask_43 rfl ?_
          refine V_iload X dX12_ask_44 rfl ?_
          refine V_isubN X dX12_ask_46 (by omega) ?_
          have J_59_3 : ∀ (g : Nat) (hg : g = max (canN (fun j => to (4 + j)) (to 0) (fun j => no j / 16) (fun j => no j % 16) nd (2 ^ p) (2 ^ to 0)) ((canN (fun j => to (4 + j)) (to 0) (fun j => no j / 16) (fun j => no j % 16) nd 0 (2 ^ to 0)) - canN (fun j => to (4 + j)) (to 0) (fun j => no j / 16) (fun j => no j % 16) nd (2 ^ p) (2 ^ to 0))) (hg3 : g ≤ 32), V C 0 0 [gMod G a (nF tx) (nF to) (nF dr) (nF be) (nF s) (nF pa) (nF im) (nF ke) (nF no) (nF fa) (lN tr) (nI ty) (nI kn) (nI nd) (nI att) (nI so) (nI ss) (iI va)] 59 [some (.ref (a 0)), some (.int (nI (canN (fun j => to (4 + j)) (to 0) (fun j => no j / 16) (fun j => no j % 16) nd 0 (2 ^ to 0)))), some (.int (iI z)), some (.int (nI y)), some (.int (nI p)), some (.int (nI (canN (fun j => to (4 + j)) (to 0) (fun j => no j / 16) (fun j => no j % 16) nd (2 ^ p) (2 ^ to 0)))), none] [.int (nI g)] := by
            intro g hg hg3
            refine V_istore X dX12_ask_59 (by decide) rfl ?_
            refine V_iload X dX12_ask_61 rfl ?_
            refine V_iload_n X dX12_ask_63 rfl ?_
            have J_73_4 : ∀ (f : Int) (hf : f = if g < y then (p : Int) else z) (hf5 : -9 ≤ f ∧ f < 5), V C 0 0 [gMod G a (nF tx) (nF to) (nF dr) (nF be) (nF s) (nF pa) (nF im) (nF ke) (nF no) (nF fa) (lN tr) (nI ty) (nI kn) (nI nd) (nI att) (nI so) (nI ss) (iI va)] 73 [some (.ref (a 0)), some (.int (nI (canN (fun j => to (4 + j)) (to 0) (fun j => no j / 16) (fun j => no j % 16) nd 0 (2 ^ to 0)))), some (.int (iI z)), some (.int (nI y)), some (.int (nI p)), some (.int (nI (canN (fun j => to (4 + j)) (to 0) (fun j => no j / 16) (fun j => no j % 16) nd (2 ^ p) (2 ^ to 0)))), some (.int (nI g))] [.int (iI f)] := by
              intro f hf hf5
              refine V_istore_n X dX12_ask_73 (by decide) rfl ?_
              refine V_iload X dX12_ask_74 rfl ?_
              refine V_iload_n X dX12_ask_76 rfl ?_
              have J_86_5 : ∀ (lq : Nat) (hl : lq = if g < y then g else y) (hl3 : lq ≤ 33), V C 0 0 [gMod G a (nF tx) (nF to) (nF dr) (nF be) (nF s) (nF pa) (nF im) (nF ke) (nF no) (nF fa) (lN tr) (nI ty) (nI kn) (nI nd) (nI att) (nI so) (nI ss) (iI va)] 86 [some (.ref (a 0)), some (.int (nI (canN (fun j => to (4 + j)) (to 0) (fun j => no j / 16) (fun j => no j % 16) nd 0 (2 ^ to 0)))), some (.int (iI f)), some (.int (nI y)), some (.int (nI p)), some (.int (nI (canN (fun j => to (4 + j)) (to 0) (fun j => no j / 16) (fun j => no j % 16) nd (2 ^ p) (2 ^ to 0)))), some (.int (nI g))] [.int (nI lq)] := by
                intro lq hl hl3
                refine V_istore_n X dX12_ask_86 (by decide) rfl ?_
                refine V_iincN X (c := 1) dX12_ask_87 rfl (by decide) rfl ?_
                refine V_goto X 17 dX12_ask_90 (by decide) ?_
                refine V_weak (lv' := [some (.ref (a 0)), some (.int (nI (canN (fun j => to (4 + j)) (to 0) (fun j => no j / 16) (fun j => no j % 16) nd 0 (2 ^ to 0)))), some (.int (iI f)), some (.int (nI lq)), some (.int (nI (p + 1))), none, none]) (And.intro rfl (And.intro rfl (And.intro rfl (And.intro rfl (And.intro rfl trivial))))) ?_
                exact ih_17 f lq (p + 1) (by omega) (askM_next hB.1 hB.2 hg hf hl) (by omega)
              refine V_icmp_geN X 85 dX12_ask_77 (by decide) (by omega) (by omega) (fun c_5 => ?_) (fun c_5 => ?_)
              · refine V_iload_n X dX12_ask_85 rfl ?_
                refine V_weak (lv' := [some (.ref (a 0)), some (.int (nI (canN (fun j => to (4 + j)) (to 0) (fun j => no j / 16) (fun j => no j % 16) nd 0 (2 ^ to 0)))), some (.int (iI f)), some (.int (nI y)), some (.int (nI p)), some (.int (nI (canN (fun j => to (4 + j)) (to 0) (fun j => no j / 16) (fun j => no j % 16) nd (2 ^ p) (2 ^ to 0)))), some (.int (nI g))]) (And.intro rfl (And.intro rfl (And.intro rfl (And.intro rfl (And.intro rfl (And.intro rfl (And.intro rfl trivial))))))) ?_
                exact J_86_5 y (by first | rw [if_pos (by omega)] | rw [if_neg (by omega)]) (by omega)
              · refine V_iload X dX12_ask_80 rfl ?_
                refine V_goto X 86 dX12_ask_82 (by decide) ?_
                refine V_weak (lv' := [some (.ref (a 0)), some (.int (nI (canN (fun j => to (4 + j)) (to 0) (fun j => no j / 16) (fun j => no j % 16) nd 0 (2 ^ to 0)))), some (.int (iI f)), some (.int (nI y)), some (.int (nI p)), some (.int (nI (canN (fun j => to (4 + j)) (to 0) (fun j => no j / 16) (fun j => no j % 16) nd (2 ^ p) (2 ^ to 0)))), some (.int (nI g))]) (And.intro rfl (And.intro rfl (And.intro rfl (And.intro rfl (And.intro rfl (And.intro rfl (And.intro rfl trivial))))))) ?_
                exact J_86_5 g (by first | rw [if_pos (by omega)] | rw [if_neg (by omega)]) (by omega)
            refine V_icmp_geN X 72 dX12_ask_64 (by decide) (by omega) (by omega) (fun c_4 => ?_) (fun c_4 => ?_)
            · refine V_iload_n X dX12_ask_72 rfl ?_
              refine V_weak (lv' := [some (.ref (a 0)), some (.int (nI (canN (fun j => to (4 + j)) (to 0) (fun j => no j / 16) (fun j => no j % 16) nd 0 (2 ^ to 0)))), some (.int (iI z)), some (.int (nI y)), some (.int (nI p)), some (.int (nI (canN (fun j => to (4 + j)) (to 0) (fun j => no j / 16) (fun j => no j % 16) nd (2 ^ p) (2 ^ to 0)))), some (.int (nI g))]) (And.intro rfl (And.intro rfl (And.intro rfl (And.intro rfl (And.intro rfl (And.intro rfl (And.intro rfl trivial))))))) ?_
              exact J_73_4 z (by first | rw [if_pos (by omega)] | rw [if_neg (by omega)]) (by omega)
            · refine V_iload X dX12_ask_67 rfl ?_
              refine V_goto X 73 dX12_ask_69 (by decide) ?_
              refine V_weak (lv' := [some (.ref (a 0)), some (.int (nI (canN (fun j => to (4 + j)) (to 0) (fun j => no j / 16) (fun j => no j % 16) nd 0 (2 ^ to 0)))), some (.int (iI z)), some (.int (nI y)), some (.int (nI p)), some (.int (nI (canN (fun j => to (4 + j)) (to 0) (fun j => no j / 16) (fun j => no j % 16) nd (2 ^ p) (2 ^ to 0)))), some (.int (nI g))]) (And.intro rfl (And.intro rfl (And.intro rfl (And.intro rfl (And.intro rfl (And.intro rfl (And.intro rfl trivial))))))) ?_
              exact J_73_4 (p : Nat) (by first | rw [if_pos (by omega)] | rw [if_neg (by omega)]) (by omega)
          refine V_icmp_leN X 55 dX12_ask_47 (by decide) (by omega) (by omega) (fun c_3 => ?_) (fun c_3 => ?_)
          · refine V_iload_n X dX12_ask_55 rfl ?_
            refine V_iload X dX12_ask_56 rfl ?_
            refine V_isubN X dX12_ask_58 (by omega) ?_
            refine V_weak (lv' := [some (.ref (a 0)), some (.int (nI (canN (fun j => to (4 + j)) (to 0) (fun j => no j / 16) (fun j => no j % 16) nd 0 (2 ^ to 0)))), some (.int (iI z)), some (.int (nI y)), some (.int (nI p)), some (.int (nI (canN (fun j => to (4 + j)) (to 0) (fun j => no j / 16) (fun j => no j % 16) nd (2 ^ p) (2 ^ to 0)))), none]) (And.intro rfl (And.intro rfl (And.intro rfl (And.intro rfl (And.intro rfl (And.intro rfl trivial)))))) ?_
            exact J_59_3 ((canN (fun j => to (4 + j)) (to 0) (fun j => no j / 16) (fun j => no j % 16) nd 0 (2 ^ to 0)) - (canN (fun j => to (4 + j)) (to 0) (fun j => no j / 16) (fun j => no j % 16) nd (2 ^ p) (2 ^ to 0))) (by omega) (by omega)
          · refine V_iload X dX12_ask_50 rfl ?_
            refine V_goto X 59 dX12_ask_52 (by decide) ?_
            refine V_weak (lv' := [some (.ref (a 0)), some (.int (nI (canN (fun j => to (4 + j)) (to 0) (fun j => no j / 16) (fun j => no j % 16) nd 0 (2 ^ to 0)))), some (.int (iI z)), some (.int (nI y)), some (.int (nI p)), some (.int (nI (canN (fun j => to (4 + j)) (to 0) (fun j => no j / 16) (fun j => no j % 16) nd (2 ^ p) (2 ^ to 0)))), none]) (And.intro rfl (And.intro rfl (And.intro rfl (And.intro rfl (And.intro rfl (And.intro rfl trivial)))))) ?_
            exact J_59_3 (canN (fun j => to (4 + j)) (to 0) (fun j => no j / 16) (fun j => no j % 16) nd (2 ^ p) (2 ^ to 0)) (by omega) (by omega)
  refine V_weak (lv' := [some (.ref (a 0)), some (.int (nI (canN (fun j => to (4 + j)) (to 0) (fun j => no j / 16) (fun j => no j % 16) nd 0 (2 ^ to 0)))), some (.int (-9)), some (.int (nI ((canN (fun j => to (4 + j)) (to 0) (fun j => no j / 16) (fun j => no j % 16) nd 0 (2 ^ to 0)) + 1))), some (.int (nI 0)), none, none]) (And.intro rfl (And.intro rfl (And.intro rfl (And.intro rfl (And.intro rfl trivial))))) ?_
  exact L_17 _ (-9) ((canN (fun j => to (4 + j)) (to 0) (fun j => no j / 16) (fun j => no j % 16) nd 0 (2 ^ to 0)) + 1) 0 (by omega) ⟨rfl, rfl⟩ (Nat.lt_succ_self _)
set_option maxHeartbeats 4000000 in
set_option maxRecDepth 100000 in
theorem c_X12_can (l : Launch) (G : mvG) (a : Nat → Nat) (tx : Nat → Nat) (to : Nat → Nat) (dr : Nat → Nat) (be : Nat → Nat) (s : Nat → Nat) (pa : Nat → Nat) (im : Nat → Nat) (ke : Nat → Nat) (no : Nat → Nat) (fa : Nat → Nat) (tr : Nat) (ty : Nat) (kn : Nat) (nd : Nat) (att : Nat) (so : Nat) (ss : Nat) (va : Int) (y : Int) (hn : to 0 ≤ 5) (hwt : ∀ j, j < 5 → to (4 + j) ≤ 4) (hno : ∀ j, j < nd → no j / 16 < 32 ∧ no j % 16 ≤ 9) (hnd : nd ≤ 6) (hy : -2147483648 ≤ y ∧ y < 2147483648) : KQ l yX12_can cX12_can 7 (some .int) (3, 69) G [.ref (a 0), .int (iI y)] [gMod G a (nF tx) (nF to) (nF dr) (nF be) (nF s) (nF pa) (nF im) (nF ke) (nF no) (nF fa) (lN tr) (nI ty) (nI kn) (nI nd) (nI att) (nI so) (nI ss) (iI va)] (fun (zz : Int) => some (.int (iI zz))) (fun (zz : Int) => ((y < 0 ∨ 2 < y) ∧ (zz : Int) = -1) ∨ (y = 0 ∧ (zz : Int) = ((canN (fun j => to (4 + j)) (to 0) (fun j => no j / 16) (fun j => no j % 16) nd 0 (2 ^ to 0)) : Nat)) ∨ (y = 2 ∧ (zz : Int) = (orS (fun p => 0 < canN (fun j => to (4 + j)) (to 0) (fun j => no j / 16) (fun j => no j % 16) nd (2 ^ p) (2 ^ to 0)) (to 0) : Nat)) ∨ (y = 1 ∧ (canN (fun j => to (4 + j)) (to 0) (fun j => no j / 16) (fun j => no j % 16) nd 0 (2 ^ to 0)) = 0 ∧ (zz : Int) = -9) ∨ (y = 1 ∧ ¬ (canN (fun j => to (4 + j)) (to 0) (fun j => no j / 16) (fun j => no j % 16) nd 0 (2 ^ to 0)) = 0 ∧ (zz : Int) = (orS (fun p => canN (fun j => to (4 + j)) (to 0) (fun j => no j / 16) (fun j => no j % 16) nd (2 ^ p) (2 ^ to 0) = (canN (fun j => to (4 + j)) (to 0) (fun j => no j / 16) (fun j => no j % 16) nd 0 (2 ^ to 0))) (to 0) : Nat))) (fun (zz : Int) => [gMod G a (nF tx) (nF to) (nF dr) (nF be) (nF s) (nF pa) (nF im) (nF ke) (nF no) (nF fa) (lN tr) (nI ty) (nI kn) (nI nd) (nI att) (nI so) (nI ss) (iI va)]) := by
  refine KQ.mk (by decide +kernel) (fun _ _ => rfl) [some (.ref (a 0)), some (.int (iI y)), none, none, none, none, none] (Nat.le_of_ble_eq_true rfl) rfl (fun C X Y hC => ?_)
  subst hC
  have hp5 := pow5 hn
  have hal := (canN_le (fun j => to (4 + j)) (to 0) (fun j => no j / 16) (fun j => no j % 16) nd 0 (2 ^ to 0)).2
  refine V_iload_n X dX12_can_0 rfl ?_
  refine V_iconst X (nI 0) dX12_can_1 (by decide) ?_
  refine V_iconst X (nI 2) dX12_can_2 (by decide) ?_
  refine V_callS (rest := []) X (c_X12_in (Cl C) G y ((0 : Nat) : Int) ((2 : Nat) : Int) (by first | assumption | omega) (by first | assumption | omega) (by first | assumption | omega)) mi_X12_in kw_3_235 kw_3_236 dX12_can_3 [] rfl (by decide) rfl rfl (by decide) (Nat.le_of_ble_eq_true rfl) ⟨rfl, rfl⟩ (fun u_ hu_2 => ?_)
  obtain ⟨b_1, rfl⟩ : ∃ z, z = u_ := ⟨_, rfl⟩
  have hu_2 : (b_1 = 1 ∧ ((0 : Nat) : Int) ≤ y ∧ y ≤ ((2 : Nat) : Int)) ∨ (b_1 = 0 ∧ (y < ((0 : Nat) : Int) ∨ ((2 : Nat) : Int) < y)) := hu_2
  show V C 0 0 [gMod G a (nF tx) (nF to) (nF dr) (nF be) (nF s) (nF pa) (nF im) (nF ke) (nF no) (nF fa) (lN tr) (nI ty) (nI kn) (nI nd) (nI att) (nI so) (nI ss) (iI va)] 6 [some (.ref (a 0)), some (.int (iI y)), none, none, none, none, none] [.int (nI b_1)]
  refine V_if_neN X 11 dX12_can_6 (by decide) (by omega) (fun c_3 => ?_) (fun c_3 => ?_)
  · refine V_aload_n X dX12_can_11 rfl ?_
    refine V_bipush X (-9) dX12_can_12 (by decide) ?_
    refine V_callV (rest := []) X (c_X12_manyWith (Cl C) G a tx to dr be s pa im ke no fa tr ty kn nd att so ss va (-9) 0 (by first | assumption | omega) (by first | assumption | omega) (by first | assumption | omega) (by first | assumption | omega) (Or.inl ⟨rfl, rfl⟩) (by first | assumption | omega)) mi_X12_manyWith kw_4_210 kw_4_212 kw_s_45 dX12_can_14 [0] rfl (by decide) 0 0 rfl rfl rfl rfl rfl rfl (by decide) (Nat.le_of_ble_eq_true rfl) ⟨rfl, rfl⟩ (fun _ _ => ?_)
    show V C 0 0 [gMod G a (nF tx) (nF to) (nF dr) (nF be) (nF s) (nF pa) (nF im) (nF ke) (nF no) (nF fa) (lN tr) (nI ty) (nI kn) (nI nd) (nI att) (nI so) (nI ss) (iI va)] 17 [some (.ref (a 0)), some (.int (iI y)), none, none, none, none, none] [.int (nI (canN (fun j => to (4 + j)) (to 0) (fun j => no j / 16) (fun j => no j % 16) nd 0 (2 ^ to 0)))]
    refine V_istore_n X dX12_can_17 (by decide) rfl ?_
    refine V_iconst X (nI 0) dX12_can_18 (by decide) ?_
    refine V_istore_n X dX12_can_19 (by decide) rfl ?_
    refine V_iconst X (nI 0) dX12_can_20 (by decide) ?_
    refine V_istore X dX12_can_21 (by decide) rfl ?_
    refine V_iconst X (nI 0) dX12_can_23 (by decide) ?_
    refine V_istore X dX12_can_24 (by decide) rfl ?_
    have L_26 : ∀ (fz_26 : Nat) (x : Nat) (z : Nat) (p : Nat) (hp : p ≤ to 0) (hx : x = orS (fun p => canN (fun j => to (4 + j)) (to 0) (fun j => no j / 16) (fun j => no j % 16) nd (2 ^ p) (2 ^ to 0) = (canN (fun j => to (4 + j)) (to 0) (fun j => no j / 16) (fun j => no j % 16) nd 0 (2 ^ to 0))) p) (hz : z = orS (fun p => 0 < canN (fun j => to (4 + j)) (to 0) (fun j => no j / 16) (fun j => no j % 16) nd (2 ^ p) (2 ^ to 0)) p), (to 0 - p) < fz_26 → V C 0 0 [gMod G a (nF tx) (nF to) (nF dr) (nF be) (nF s) (nF pa) (nF im) (nF ke) (nF no) (nF fa) (lN tr) (nI ty) (nI kn) (nI nd) (nI att) (nI so) (nI ss) (iI va)] 26 [some (.ref (a 0)), some (.int (iI y)), some (.int (nI (canN (fun j => to (4 + j)) (to 0) (fun j => no j / 16) (fun j => no j % 16) nd 0 (2 ^ to 0)))), some (.int (nI x)), some (.int (nI z)), some (.int (nI p)), none] [] := by
      intro fz_26
      induction fz_26 with
      | zero => intro x z p hp hx hz hf_26; exact absurd hf_26 (Nat.not_lt_zero _)
      | succ fz_26 ih_26 =>
        intro x z p hp hx hz hf_26
        refine V_iload X dX12_can_26 rfl ?_
        refine V_aload_n X dX12_can_28 rfl ?_
        refine V_get X fl_X12_13 0 0 rfl rfl rfl dX12_can_29 ?_
        refine V_iconst X (nI 0) dX12_can_32 (by decide) ?_
        refine V_ialdN X 0 2 rfl rfl (by decide) (by decide) dX12_can_33 ?_
        refine V_icmp_geN X 86 dX12_can_34 (by decide) (by omega) (by omega) (fun c_4 => ?_) (fun c_4 => ?_)
        · refine V_iload_n X dX12_can_86 rfl ?_
          refine V_if_neI (i := y) X 94 dX12_can_87 (by decide) (iI_toInt (by omega) (by omega)) (fun c_5 => ?_) (fun c_5 => ?_)
          · refine V_iload_n X dX12_can_94 rfl ?_
            refine V_iconst X (nI 2) dX12_can_95 (by decide) ?_
            refine V_icmp_neI (i := y) (j := 2) X 104 dX12_can_96 (by decide) (iI_toInt (by omega) (by omega)) (nI_toInt (by decide)) (fun c_6 => ?_) (fun c_6 => ?_)
            · refine V_iload_n X dX12_can_104 rfl ?_
              refine V_if_neN X 113 dX12_can_105 (by decide) (by omega) (fun c_7 => ?_) (fun c_7 => ?_)
              · refine V_iload_n X dX12_can_113 rfl ?_
                exact V_iret X Y ((x : Nat) : Int) (by rw [show p = to 0 by omega] at hx hz; first | exact Or.inr (Or.inl ⟨by omega, rfl⟩) | exact Or.inr (Or.inr (Or.inl ⟨by omega, by rw [hz]⟩)) | exact Or.inr (Or.inr (Or.inr (Or.inl ⟨by omega, by omega, rfl⟩))) | exact Or.inr (Or.inr (Or.inr (Or.inr ⟨by omega, by omega, by rw [hx]⟩)))) (mv_ri (by rfl)) rfl rfl dX12_can_114
              · refine V_bipush X (-9) dX12_can_108 (by decide) ?_
                refine V_goto X 114 dX12_can_110 (by decide) ?_
                exact V_iret X Y (-9) (by rw [show p = to 0 by omega] at hx hz; first | exact Or.inr (Or.inl ⟨by omega, rfl⟩) | exact Or.inr (Or.inr (Or.inl ⟨by omega, by rw [hz]⟩)) | exact Or.inr (Or.inr (Or.inr (Or.inl ⟨by omega, by omega, rfl⟩))) | exact Or.inr (Or.inr (Or.inr (Or.inr ⟨by omega, by omega, by rw [hx]⟩)))) (mv_ri (by rfl)) rfl rfl dX12_can_114
            · refine V_iload X dX12_can_99 rfl ?_
              refine V_goto X 114 dX12_can_101 (by decide) ?_
              exact V_iret X Y ((z : Nat) : Int) (by rw [show p = to 0 by omega] at hx hz; first | exact Or.inr (Or.inl ⟨by omega, rfl⟩) | exact Or.inr (Or.inr (Or.inl ⟨by omega, by rw [hz]⟩)) | exact Or.inr (Or.inr (Or.inr (Or.inl ⟨by omega, by omega, rfl⟩))) | exact Or.inr (Or.inr (Or.inr (Or.inr ⟨by omega, by omega, by rw [hx]⟩)))) (mv_ri (by rfl)) rfl rfl dX12_can_114
          · refine V_iload_n X dX12_can_90 rfl ?_
            refine V_goto X 114 dX12_can_91 (by decide) ?_
            exact V_iret X Y (((canN (fun j => to (4 + j)) (to 0) (fun j => no j / 16) (fun j => no j % 16) nd 0 (2 ^ to 0)) : Nat) : Int) (by rw [show p = to 0 by omega] at hx hz; first | exact Or.inr (Or.inl ⟨by omega, rfl⟩) | exact Or.inr (Or.inr (Or.inl ⟨by omega, by rw [hz]⟩)) | exact Or.inr (Or.inr (Or.inr (Or.inl ⟨by omega, by omega, rfl⟩))) | exact Or.inr (Or.inr (Or.inr (Or.inr ⟨by omega, by omega, by rw [hx]⟩)))) (mv_ri (by rfl)) rfl rfl dX12_can_114
        · have hcp := (canN_le (fun j => to (4 + j)) (to 0) (fun j => no j / 16) (fun j => no j % 16) nd (2 ^ p) (2 ^ to 0)).1
          refine V_aload_n X dX12_can_37 rfl ?_
          refine V_iload X dX12_can_38 rfl ?_
          refine V_callV (rest := []) X (c_X12_manyWith (Cl C) G a tx to dr be s pa im ke no fa tr ty kn nd att so ss va ((p : Nat) : Int) (2 ^ p) (by first | assumption | omega) (by first | assumption | omega) (by first | assumption | omega) (by first | assumption | omega) (Or.inr ⟨by omega, by rw [Int.toNat_natCast]⟩) (by first | assumption | omega)) mi_X12_manyWith kw_4_210 kw_4_212 kw_s_45 dX12_can_40 [0] rfl (by decide) 0 0 rfl rfl rfl rfl rfl rfl (by decide) (Nat.le_of_ble_eq_true rfl) ⟨rfl, rfl⟩ (fun _ _ => ?_)
          show V C 0 0 [gMod G a (nF tx) (nF to) (nF dr) (nF be) (nF s) (nF pa) (nF im) (nF ke) (nF no) (nF fa) (lN tr) (nI ty) (nI kn) (nI nd) (nI att) (nI so) (nI ss) (iI va)] 43 [some (.ref (a 0)), some (.int (iI y)), some (.int (nI (canN (fun j => to (4 + j)) (to 0) (fun j => no j / 16) (fun j => no j % 16) nd 0 (2 ^ to 0)))), some (.int (nI x)), some (.int (nI z)), some (.int (nI p)), none] [.int (nI (canN (fun j => to (4 + j)) (to 0) (fun j => no j / 16) (fun j => no j % 16) nd (2 ^ p) (2 ^ to 0)))]
          refine V_istore X dX12_can_43 (by decide) rfl ?_
          refine V_iload_n X dX12_can_45 rfl ?_
          refine V_iload X dX12_can_46 rfl ?_
          refine V_iload_n X dX12_can_48 rfl ?_
          have J_60_8 : ∀ (f : Nat) (hf : f = if canN (fun j => to (4 + j)) (to 0) (fun j => no j / 16) (fun j => no j % 16) nd (2 ^ p) (2 ^ to 0) = (canN (fun j => to (4 + j)) (to 0) (fun j => no j / 16) (fun j => no j % 16) nd 0 (2 ^ to 0)) then 2 ^ p else 0), V C 0 0 [gMod G a (nF tx) (nF to) (nF dr) (nF be) (nF s) (nF pa) (nF im) (nF ke) (nF no) (nF fa) (lN tr) (nI ty) (nI kn) (nI nd) (nI att) (nI so) (nI ss) (iI va)] 60 [some (.ref (a 0)), some (.int (iI y)), some (.int (nI (canN (fun j => to (4 + j)) (to 0) (fun j => no j / 16) (fun j => no j % 16) nd 0 (2 ^ to 0)))), some (.int (nI x)), some (.int (nI z)), some (.int (nI p)), some (.int (nI (canN (fun j => to (4 + j)) (to 0) (fun j => no j / 16) (fun j => no j % 16) nd (2 ^ p) (2 ^ to 0))))] [.int (nI f), .int (nI x)] := by
            intro f hf
            refine V_iorN X dX12_can_60 ?_
            refine V_istore_n X dX12_can_61 (by decide) rfl ?_
            refine V_iload X dX12_can_62 rfl ?_
            refine V_iload X dX12_can_64 rfl ?_
            have J_77_9 : ∀ (g : Nat) (hg : g = if 0 < canN (fun j => to (4 + j)) (to 0) (fun j => no j / 16) (fun j => no j % 16) nd (2 ^ p) (2 ^ to 0) then 2 ^ p else 0), V C 0 0 [gMod G a (nF tx) (nF to) (nF dr) (nF be) (nF s) (nF pa) (nF im) (nF ke) (nF no) (nF fa) (lN tr) (nI ty) (nI kn) (nI nd) (nI att) (nI so) (nI ss) (iI va)] 77 [some (.ref (a 0)), some (.int (iI y)), some (.int (nI (canN (fun j => to (4 + j)) (to 0) (fun j => no j / 16) (fun j => no j % 16) nd 0 (2 ^ to 0)))), some (.int (nI (x ||| f))), some (.int (nI z)), some (.int (nI p)), some (.int (nI (canN (fun j => to (4 + j)) (to 0) (fun j => no j / 16) (fun j => no j % 16) nd (2 ^ p) (2 ^ to 0))))] [.int (nI g), .int (nI z)] := by
              intro g hg
              refine V_iorN X dX12_can_77 ?_
              refine V_istore X dX12_can_78 (by decide) rfl ?_
              refine V_iincN X (c := 1) dX12_can_80 rfl (by decide) rfl ?_
              refine V_goto X 26 dX12_can_83 (by decide) ?_
              refine V_weak (lv' := [some (.ref (a 0)), some (.int (iI y)), some (.int (nI (canN (fun j => to (4 + j)) (to 0) (fun j => no j / 16) (fun j => no j % 16) nd 0 (2 ^ to 0)))), some (.int (nI (x ||| f))), some (.int (nI (z ||| g))), some (.int (nI (p + 1))), none]) (And.intro rfl (And.intro rfl (And.intro rfl (And.intro rfl (And.intro rfl (And.intro rfl trivial)))))) ?_
              exact ih_26 (x ||| f) (z ||| g) (p + 1) (by omega) (by rw [hx, hf]; rfl) (by rw [hz, hg]; rfl) (by omega)
            refine V_if_leN X 76 dX12_can_66 (by decide) (by omega) (fun c_9 => ?_) (fun c_9 => ?_)
            · refine V_iconst X (nI 0) dX12_can_76 (by decide) ?_
              refine V_weak (lv' := [some (.ref (a 0)), some (.int (iI y)), some (.int (nI (canN (fun j => to (4 + j)) (to 0) (fun j => no j / 16) (fun j => no j % 16) nd 0 (2 ^ to 0)))), some (.int (nI (x ||| f))), some (.int (nI z)), some (.int (nI p)), some (.int (nI (canN (fun j => to (4 + j)) (to 0) (fun j => no j / 16) (fun j => no j % 16) nd (2 ^ p) (2 ^ to 0))))]) (And.intro rfl (And.intro rfl (And.intro rfl (And.intro rfl (And.intro rfl (And.intro rfl (And.intro rfl trivial))))))) ?_
              exact J_77_9 0 (by first | rw [if_pos (by omega)] | rw [if_neg (by omega)])
            · refine V_iconst X (nI 1) dX12_can_69 (by decide) ?_
              refine V_iload X dX12_can_70 rfl ?_
              refine V_ishl1N X dX12_can_72 (by omega) ?_
              refine V_goto X 77 dX12_can_73 (by decide) ?_
              refine V_weak (lv' := [some (.ref (a 0)), some (.int (iI y)), some (.int (nI (canN (fun j => to (4 + j)) (to 0) (fun j => no j / 16) (fun j => no j % 16) nd 0 (2 ^ to 0)))), some (.int (nI (x ||| f))), some (.int (nI z)), some (.int (nI p)), some (.int (nI (canN (fun j => to (4 + j)) (to 0) (fun j => no j / 16) (fun j => no j % 16) nd (2 ^ p) (2 ^ to 0))))]) (And.intro rfl (And.intro rfl (And.intro rfl (And.intro rfl (And.intro rfl (And.intro rfl (And.intro rfl trivial))))))) ?_
              exact J_77_9 (2 ^ p) (by first | rw [if_pos (by omega)] | rw [if_neg (by omega)])
          refine V_icmp_neN X 59 dX12_can_49 (by decide) (by omega) (by omega) (fun c_8 => ?_) (fun c_8 => ?_)
          · refine V_iconst X (nI 0) dX12_can_59 (by decide) ?_
            refine V_weak (lv' := [some (.ref (a 0)), some (.int (iI y)), some (.int (nI (canN (fun j => to (4 + j)) (to 0) (fun j => no j / 16) (fun j => no j % 16) nd 0 (2 ^ to 0)))), some (.int (nI x)), some (.int (nI z)), some (.int (nI p)), some (.int (nI (canN (fun j => to (4 + j)) (to 0) (fun j => no j / 16) (fun j => no j % 16) nd (2 ^ p) (2 ^ to 0))))]) (And.intro rfl (And.intro rfl (And.intro rfl (And.intro rfl (And.intro rfl (And.intro rfl (And.intro rfl trivial))))))) ?_
            exact J_60_8 0 (by first | rw [if_pos (by omega)] | rw [if_neg (by omega)])
          · refine V_iconst X (nI 1) dX12_can_52 (by decide) ?_
            refine V_iload X dX12_can_53 rfl ?_
            refine V_ishl1N X dX12_can_55 (by omega) ?_
            refine V_goto X 60 dX12_can_56 (by decide) ?_
            refine V_weak (lv' := [some (.ref (a 0)), some (.int (iI y)), some (.int (nI (canN (fun j => to (4 + j)) (to 0) (fun j => no j / 16) (fun j => no j % 16) nd 0 (2 ^ to 0)))), some (.int (nI x)), some (.int (nI z)), some (.int (nI p)), some (.int (nI (canN (fun j => to (4 + j)) (to 0) (fun j => no j / 16) (fun j => no j % 16) nd (2 ^ p) (2 ^ to 0))))]) (And.intro rfl (And.intro rfl (And.intro rfl (And.intro rfl (And.intro rfl (And.intro rfl (And.intro rfl trivial))))))) ?_
            exact J_60_8 (2 ^ p) (by first | rw [if_pos (by omega)] | rw [if_neg (by omega)])
    refine V_weak (lv' := [some (.ref (a 0)), some (.int (iI y)), some (.int (nI (canN (fun j => to (4 + j)) (to 0) (fun j => no j / 16) (fun j => no j % 16) nd 0 (2 ^ to 0)))), some (.int (nI 0)), some (.int (nI 0)), some (.int (nI 0)), none]) (And.intro rfl (And.intro rfl (And.intro rfl (And.intro rfl (And.intro rfl (And.intro rfl trivial)))))) ?_
    exact L_26 _ 0 0 0 (by omega) rfl rfl (Nat.lt_succ_self _)
  · refine V_iconst X (-1) dX12_can_9 (by decide) ?_
    exact V_iret X Y (-1) (Or.inl ⟨by omega, rfl⟩) (mv_ri (by rfl)) rfl rfl dX12_can_10
