theorem mv_has (s k : Nat) : (s / 2 ^ k &&& 1 = 1 ∧ ¬ s &&& 2 ^ k = 0) ∨ (s / 2 ^ k &&& 1 = 0 ∧ s &&& 2 ^ k = 0) := by
  have h := Nat.testBit_eq_decide_div_mod_eq (x := s) (i := k)
  rw [Nat.and_one_is_mod]
  by_cases e : s / 2 ^ k % 2 = 1
  · left
    refine ⟨e, fun z => ?_⟩
    have h1 : (s &&& 2 ^ k).testBit k = true := by
      rw [Nat.testBit_and, Nat.testBit_two_pow_self, h]
      simp [e]
    rw [z] at h1
    simp at h1
  · right
    refine ⟨by omega, ?_⟩
    apply Nat.eq_of_testBit_eq
    intro j
    rw [Nat.testBit_and, Nat.testBit_two_pow]
    by_cases f : k = j
    · subst f
      rw [h]
      simp [e]
    · simp [f]
def onesN (s : Nat) : Nat → Nat
  | 0 => 0
  | k + 1 => onesN s k + (s / 2 ^ k &&& 1)
theorem onesN_le (s : Nat) : ∀ k, onesN s k ≤ k
  | 0 => Nat.le_refl _
  | k + 1 => by
    have := onesN_le s k
    have h := mv_has s k
    simp only [onesN]
    omega
def clsM (kd vv so : Nat) (va : Int) : Prop := (kd = 0 ∧ so = 0) ∨ (kd = 1 ∧ so = 2 ∧ va = vv ∧ vv ≤ 9) ∨ (kd = 2 ∧ (so = 4 ∨ (so = 2 ∧ 10 ≤ va))) ∨ ((kd = 112 ∨ kd = 115 ∨ kd = 102) ∧ so = 1 ∧ va = kd) ∨ (kd = 59 ∧ so = 3)
theorem tok_postM {T : Nat → Nat} {len p q at' so : Nat} {va : Int} (hs : skq T len p = q) (h : (len ≤ q ∧ at' = q ∧ so = 0) ∨ (q < len ∧ (48 ≤ T q ∧ T q ≤ 57) ∧ at' = dgq T len q ∧ so = 2 ∧ ((at' = q + 1 ∧ va = (T q : Int) - 48) ∨ (at' ≠ q + 1 ∧ 10 ≤ va))) ∨ (q < len ∧ ¬ (48 ≤ T q ∧ T q ≤ 57) ∧ at' = q + 1 ∧ (((T q = 112 ∨ T q = 115 ∨ T q = 102) ∧ so = 1 ∧ va = T q) ∨ (T q = 59 ∧ so = 3) ∨ (¬ (T q = 112 ∨ T q = 115 ∨ T q = 102 ∨ T q = 59) ∧ so = 4)))) :
    tokf T len p = (q, at', (tokf T len p).2.2.1, (tokf T len p).2.2.2) ∧ clsM (tokf T len p).2.2.1 (tokf T len p).2.2.2 so va := by
  have e : tokf T len p = if len ≤ q then (q, q, 0, 0) else if 48 ≤ T q ∧ T q ≤ 57 then (if dgq T len q = q + 1 then (q, q + 1, 1, T q - 48) else (q, dgq T len q, 2, 0)) else if T q = 112 ∨ T q = 115 ∨ T q = 102 ∨ T q = 59 then (q, q + 1, T q, 0) else (q, q + 1, 2, 0) := by
    subst hs
    rfl
  rw [e]
  rcases h with ⟨h1, rfl, rfl⟩ | ⟨h1, h2, h3, rfl, h4⟩ | ⟨h1, h2, rfl, h4⟩
  · rw [if_pos h1]
    exact ⟨rfl, Or.inl ⟨rfl, rfl⟩⟩
  · rw [if_neg (by omega), if_pos h2]
    rcases h4 with ⟨h4, rfl⟩ | ⟨h4, h5⟩
    · rw [if_pos (by omega)]
      exact ⟨by rw [h4], Or.inr (Or.inl ⟨rfl, rfl, by show (T q : Int) - 48 = ((T q - 48 : Nat) : Int); omega, by show T q - 48 ≤ 9; omega⟩)⟩
    · rw [if_neg (by omega)]
      exact ⟨by rw [h3], Or.inr (Or.inr (Or.inl ⟨rfl, Or.inr ⟨rfl, h5⟩⟩))⟩
  · rw [if_neg (by omega), if_neg h2]
    rcases h4 with ⟨h4, rfl, rfl⟩ | ⟨h4, rfl⟩ | ⟨h4, rfl⟩
    · rw [if_pos (by omega)]
      exact ⟨rfl, Or.inr (Or.inr (Or.inr (Or.inl ⟨h4, rfl, rfl⟩)))⟩
    · rw [if_pos (by omega)]
      exact ⟨rfl, Or.inr (Or.inr (Or.inr (Or.inr ⟨h4, rfl⟩)))⟩
    · rw [if_neg h4]
      exact ⟨rfl, Or.inr (Or.inr (Or.inl ⟨rfl, Or.inl rfl⟩))⟩
set_option maxHeartbeats 4000000 in
set_option maxRecDepth 100000 in
theorem c_X12_in (l : Launch) (G : mvG) (x : Int) (lo : Int) (hi : Int) (hx : -2147483648 ≤ x ∧ x < 2147483648) (hlo : -2147483648 ≤ lo ∧ lo < 2147483648) (hhi : -2147483648 ≤ hi ∧ hi < 2147483648) : KQ l yX12_in cX12_in 3 (some .boolean) (0, 0) G [.int (iI x), .int (iI lo), .int (iI hi)] [] (fun (zz : Nat) => some (.int (nI zz))) (fun (zz : Nat) => (zz = 1 ∧ lo ≤ x ∧ x ≤ hi) ∨ (zz = 0 ∧ (x < lo ∨ hi < x))) (fun (zz : Nat) => []) := by
  refine KQ.mk (by decide +kernel) (fun _ _ => rfl) [some (.int (iI x)), some (.int (iI lo)), some (.int (iI hi))] (Nat.le_of_ble_eq_true rfl) rfl (fun C X Y hC => ?_)
  subst hC
  refine V_iload_n X dX12_in_0 rfl ?_
  refine V_iload_n X dX12_in_1 rfl ?_
  refine V_icmp_ltI (i := x) (j := lo) X 14 dX12_in_2 (by decide) (iI_toInt (by omega) (by omega)) (iI_toInt (by omega) (by omega)) (fun c_1 => ?_) (fun c_1 => ?_)
  · refine V_iconst X (nI 0) dX12_in_14 (by decide) ?_
    exact V_iret X Y 0 (by omega) rfl rfl rfl dX12_in_15
  · refine V_iload_n X dX12_in_5 rfl ?_
    refine V_iload_n X dX12_in_6 rfl ?_
    refine V_icmp_gtI (i := x) (j := hi) X 14 dX12_in_7 (by decide) (iI_toInt (by omega) (by omega)) (iI_toInt (by omega) (by omega)) (fun c_2 => ?_) (fun c_2 => ?_)
    · refine V_iconst X (nI 0) dX12_in_14 (by decide) ?_
      exact V_iret X Y 0 (by omega) rfl rfl rfl dX12_in_15
    · refine V_iconst X (nI 1) dX12_in_10 (by decide) ?_
      refine V_goto X 15 dX12_in_11 (by decide) ?_
      exact V_iret X Y 1 (by omega) rfl rfl rfl dX12_in_15
set_option maxHeartbeats 4000000 in
set_option maxRecDepth 100000 in
theorem c_X12_has (l : Launch) (G : mvG) (e : Nat) (k : Nat) (he : e < 2 ^ 31) (hk : k < 31) : KQ l yX12_has cX12_has 2 (some .boolean) (0, 0) G [.int (nI e), .int (nI k)] [] (fun (zz : Nat) => some (.int (nI zz))) (fun (zz : Nat) => (zz = 1 ∧ ¬ e &&& 2 ^ k = 0) ∨ (zz = 0 ∧ e &&& 2 ^ k = 0)) (fun (zz : Nat) => []) := by
  refine KQ.mk (by decide +kernel) (fun _ _ => rfl) [some (.int (nI e)), some (.int (nI k))] (Nat.le_of_ble_eq_true rfl) rfl (fun C X Y hC => ?_)
  subst hC
  have hh := mv_has e k
  refine V_iload_n X dX12_has_0 rfl ?_
  refine V_iload_n X dX12_has_1 rfl ?_
  refine V_ishrN X dX12_has_2 (by omega) (by omega) ?_
  refine V_iconst X (nI 1) dX12_has_3 (by decide) ?_
  refine V_iandN X dX12_has_4 ?_
  refine V_iconst X (nI 1) dX12_has_5 (by decide) ?_
  refine V_icmp_neN X 13 dX12_has_6 (by decide) (by first | omega | exact Nat.lt_of_le_of_lt Nat.and_le_left (by omega)) (by decide) (fun c_1 => ?_) (fun c_1 => ?_)
  · refine V_iconst X (nI 0) dX12_has_13 (by decide) ?_
    exact V_iret X Y 0 (by omega) rfl rfl rfl dX12_has_14
  · refine V_iconst X (nI 1) dX12_has_9 (by decide) ?_
    refine V_goto X 14 dX12_has_10 (by decide) ?_
    exact V_iret X Y 1 (by omega) rfl rfl rfl dX12_has_14
set_option maxHeartbeats 4000000 in
set_option maxRecDepth 100000 in
theorem c_X12_isOne (l : Launch) (G : mvG) (a : Nat → Nat) (tx : Nat → Nat) (to : Nat → Nat) (dr : Nat → Nat) (be : Nat → Nat) (s : Nat → Nat) (pa : Nat → Nat) (im : Nat → Nat) (ke : Nat → Nat) (no : Nat → Nat) (fa : Nat → Nat) (tr : Nat) (ty : Nat) (kn : Nat) (nd : Nat) (att : Nat) (so : Nat) (ss : Nat) (va : Int) (p : Int) (hn : to 0 ≤ 5) (hp : -2147483648 ≤ p ∧ p < 2147483648) : KQ l yX12_isOne cX12_isOne 2 (some .boolean) (1, 22) G [.ref (a 0), .int (iI p)] [gMod G a (nF tx) (nF to) (nF dr) (nF be) (nF s) (nF pa) (nF im) (nF ke) (nF no) (nF fa) (lN tr) (nI ty) (nI kn) (nI nd) (nI att) (nI so) (nI ss) (iI va)] (fun (zz : Nat) => some (.int (nI zz))) (fun (zz : Nat) => (zz = 1 ∧ 0 ≤ p ∧ p < (to 0 : Int)) ∨ (zz = 0 ∧ (p < 0 ∨ (to 0 : Int) ≤ p))) (fun (zz : Nat) => [gMod G a (nF tx) (nF to) (nF dr) (nF be) (nF s) (nF pa) (nF im) (nF ke) (nF no) (nF fa) (lN tr) (nI ty) (nI kn) (nI nd) (nI att) (nI so) (nI ss) (iI va)]) := by
  refine KQ.mk (by decide +kernel) (fun _ _ => rfl) [some (.ref (a 0)), some (.int (iI p))] (Nat.le_of_ble_eq_true rfl) rfl (fun C X Y hC => ?_)
  subst hC
  refine V_iload_n X dX12_isOne_0 rfl ?_
  refine V_iconst X (nI 0) dX12_isOne_1 (by decide) ?_
  refine V_aload_n X dX12_isOne_2 rfl ?_
  refine V_get X fl_X12_13 0 0 rfl rfl rfl dX12_isOne_3 ?_
  refine V_iconst X (nI 0) dX12_isOne_6 (by decide) ?_
  refine V_ialdN X 0 2 rfl rfl (by decide) (by decide) dX12_isOne_7 ?_
  refine V_iconst X (nI 1) dX12_isOne_8 (by decide) ?_
  refine V_two (show (nI (to 0)) = iI ((to 0 : Nat) : Int) from rfl) (show (nI 1) = iI (1 : Int) from rfl) ?_
  refine V_isubS X dX12_isOne_9 ?_
  refine V_callS (rest := []) X (c_X12_in (Cl C) G p ((0 : Nat) : Int) (((to 0 : Nat) : Int) - (1 : Int)) (by first | assumption | omega) (by first | assumption | omega) (by first | assumption | omega)) mi_X12_in kw_3_235 kw_3_236 dX12_isOne_10 [] rfl (by decide) rfl rfl (by decide) (Nat.le_of_ble_eq_true rfl) ⟨rfl, rfl⟩ (fun u_ hu_2 => ?_)
  obtain ⟨b_1, rfl⟩ : ∃ z, z = u_ := ⟨_, rfl⟩
  have hu_2 : (b_1 = 1 ∧ ((0 : Nat) : Int) ≤ p ∧ p ≤ (((to 0 : Nat) : Int) - (1 : Int))) ∨ (b_1 = 0 ∧ (p < ((0 : Nat) : Int) ∨ (((to 0 : Nat) : Int) - (1 : Int)) < p)) := hu_2
  show V C 0 0 [gMod G a (nF tx) (nF to) (nF dr) (nF be) (nF s) (nF pa) (nF im) (nF ke) (nF no) (nF fa) (lN tr) (nI ty) (nI kn) (nI nd) (nI att) (nI so) (nI ss) (iI va)] 13 [some (.ref (a 0)), some (.int (iI p))] [.int (nI b_1)]
  exact V_iret X Y b_1 (by omega) rfl (mv_nz (by omega)) rfl dX12_isOne_13
set_option maxHeartbeats 4000000 in
set_option maxRecDepth 100000 in
theorem c_X12_isCell (l : Launch) (G : mvG) (c : Int) (hc : -2147483648 ≤ c ∧ c < 2147483648) : KQ l yX12_isCell cX12_isCell 1 (some .boolean) (1, 22) G [.int (iI c)] [] (fun (zz : Nat) => some (.int (nI zz))) (fun (zz : Nat) => (zz = 1 ∧ 0 ≤ c ∧ c / 10 < 6 ∧ c % 10 < 6) ∨ (zz = 0 ∧ (c < 0 ∨ 6 ≤ c / 10 ∨ 6 ≤ c % 10))) (fun (zz : Nat) => []) := by
  refine KQ.mk (by decide +kernel) (fun _ _ => rfl) [some (.int (iI c))] (Nat.le_of_ble_eq_true rfl) rfl (fun C X Y hC => ?_)
  subst hC
  refine V_iload_n X dX12_isCell_0 rfl ?_
  refine V_iconst X (nI 0) dX12_isCell_1 (by decide) ?_
  refine V_bipush X (nI 55) dX12_isCell_2 (by decide) ?_
  refine V_callS (rest := []) X (c_X12_in (Cl C) G c ((0 : Nat) : Int) ((55 : Nat) : Int) (by first | assumption | omega) (by first | assumption | omega) (by first | assumption | omega)) mi_X12_in kw_3_235 kw_3_236 dX12_isCell_4 [] rfl (by decide) rfl rfl (by decide) (Nat.le_of_ble_eq_true rfl) ⟨rfl, rfl⟩ (fun u_ hu_2 => ?_)
  obtain ⟨b_1, rfl⟩ : ∃ z, z = u_ := ⟨_, rfl⟩
  have hu_2 : (b_1 = 1 ∧ ((0 : Nat) : Int) ≤ c ∧ c ≤ ((55 : Nat) : Int)) ∨ (b_1 = 0 ∧ (c < ((0 : Nat) : Int) ∨ ((55 : Nat) : Int) < c)) := hu_2
  show V C 0 0 [] 7 [some (.int (iI c))] [.int (nI b_1)]
  refine V_if_eqN X 23 dX12_isCell_7 (by decide) (by omega) (fun c_3 => ?_) (fun c_3 => ?_)
  · refine V_iconst X (nI 0) dX12_isCell_23 (by decide) ?_
    exact V_iret X Y 0 (by omega) rfl rfl rfl dX12_isCell_24
  · refine V_loc (y := (nI c.toNat)) 0 rfl (mv_sn (by omega)) ?_
    refine V_iload_n X dX12_isCell_10 rfl ?_
    refine V_bipush X (nI 10) dX12_isCell_11 (by decide) ?_
    refine V_iremN X dX12_isCell_13 (by omega) (by omega) (by omega) ?_
    refine V_bipush X (nI 6) dX12_isCell_14 (by decide) ?_
    refine V_icmp_geN X 23 dX12_isCell_16 (by decide) (by omega) (by decide) (fun c_4 => ?_) (fun c_4 => ?_)
    · refine V_iconst X (nI 0) dX12_isCell_23 (by decide) ?_
      exact V_iret X Y 0 (by omega) rfl rfl rfl dX12_isCell_24
    · refine V_iconst X (nI 1) dX12_isCell_19 (by decide) ?_
      refine V_goto X 24 dX12_isCell_20 (by decide) ?_
      exact V_iret X Y 1 (by omega) rfl rfl rfl dX12_isCell_24
set_option maxHeartbeats 4000000 in
set_option maxRecDepth 100000 in
theorem c_X12_ones (l : Launch) (G : mvG) (e : Nat) (he : e < 2 ^ 31) : KQ l yX12_ones cX12_ones 3 (some .int) (0, 0) G [.int (nI e)] [] (fun (_ : Unit) => some (.int (nI (onesN e 8)))) (fun (_ : Unit) => True) (fun (_ : Unit) => []) := by
  refine KQ.mk (by decide +kernel) (fun _ _ => rfl) [some (.int (nI e)), none, none] (Nat.le_of_ble_eq_true rfl) rfl (fun C X Y hC => ?_)
  subst hC
  refine V_iconst X (nI 0) dX12_ones_0 (by decide) ?_
  refine V_istore_n X dX12_ones_1 (by decide) rfl ?_
  refine V_iconst X (nI 0) dX12_ones_2 (by decide) ?_
  refine V_istore_n X dX12_ones_3 (by decide) rfl ?_
  have L_4 : ∀ (fz_4 : Nat) (x : Nat) (k : Nat) (hk : k ≤ 8) (hx : x = onesN e k), (8 - k) < fz_4 → V C 0 0 [] 4 [some (.int (nI e)), some (.int (nI x)), some (.int (nI k))] [] := by
    intro fz_4
    induction fz_4 with
    | zero => intro x k hk hx hf_4; exact absurd hf_4 (Nat.not_lt_zero _)
    | succ fz_4 ih_4 =>
      intro x k hk hx hf_4
      refine V_iload_n X dX12_ones_4 rfl ?_
      refine V_bipush X (nI 8) dX12_ones_5 (by decide) ?_
      refine V_icmp_geN X 24 dX12_ones_7 (by decide) (by omega) (by decide) (fun c_1 => ?_) (fun c_1 => ?_)
      · refine V_iload_n X dX12_ones_24 rfl ?_
        exact V_iret X Y () trivial (mv_rn (by rw [hx, show k = 8 by omega])) rfl rfl dX12_ones_25
      · refine V_iload_n X dX12_ones_10 rfl ?_
        refine V_iload_n X dX12_ones_11 rfl ?_
        refine V_iload_n X dX12_ones_12 rfl ?_
        refine V_ishrN X dX12_ones_13 (by omega) (by omega) ?_
        refine V_iconst X (nI 1) dX12_ones_14 (by decide) ?_
        refine V_iandN X dX12_ones_15 ?_
        refine V_iaddN X dX12_ones_16 ?_
        refine V_istore_n X dX12_ones_17 (by decide) rfl ?_
        refine V_iincN X (c := 1) dX12_ones_18 rfl (by decide) rfl ?_
        refine V_goto X 4 dX12_ones_21 (by decide) ?_
        refine V_weak (lv' := [some (.int (nI e)), some (.int (nI (x + ((e / 2 ^ k) &&& 1)))), some (.int (nI (k + 1)))]) (And.intro rfl (And.intro rfl (And.intro rfl trivial))) ?_
        exact ih_4 (x + ((e / 2 ^ k) &&& 1)) (k + 1) (by omega) (by rw [hx]; rfl) (by omega)
  refine V_weak (lv' := [some (.int (nI e)), some (.int (nI 0)), some (.int (nI 0))]) (And.intro rfl (And.intro rfl (And.intro rfl trivial))) ?_
  exact L_4 _ 0 0 (by omega) rfl (Nat.lt_succ_self _)
set_option maxHeartbeats 4000000 in
set_option maxRecDepth 100000 in
theorem c_X12_type (l : Launch) (G : mvG) (a : Nat → Nat) (tx : Nat → Nat) (to : Nat → Nat) (dr : Nat → Nat) (be : Nat → Nat) (s : Nat → Nat) (pa : Nat → Nat) (im : Nat → Nat) (ke : Nat → Nat) (no : Nat → Nat) (fa : Nat → Nat) (tr : Nat) (ty : Nat) (kn : Nat) (nd : Nat) (att : Nat) (so : Nat) (ss : Nat) (va : Int) (x : Int) (hty : ty ≤ 100) (hx : -2147483648 ≤ x ∧ x < 2147483648) : KQ l yX12_type cX12_type 2 (some .int) (1, 22) G [.ref (a 0), .int (iI x)] [gMod G a (nF tx) (nF to) (nF dr) (nF be) (nF s) (nF pa) (nF im) (nF ke) (nF no) (nF fa) (lN tr) (nI ty) (nI kn) (nI nd) (nI att) (nI so) (nI ss) (iI va)] (fun (zz : Int × (Nat → Nat) × Nat) => some (.int (iI zz.1))) (fun (zz : Int × (Nat → Nat) × Nat) => (zz.1, zz.2.1, zz.2.2) = spType tx ty x) (fun (zz : Int × (Nat → Nat) × Nat) => [gMod G a (nF zz.2.1) (nF to) (nF dr) (nF be) (nF s) (nF pa) (nF im) (nF ke) (nF no) (nF fa) (lN tr) (nI zz.2.2) (nI kn) (nI nd) (nI att) (nI so) (nI ss) (iI va)]) := by
  refine KQ.mk (by decide +kernel) (fun _ _ => rfl) [some (.ref (a 0)), some (.int (iI x))] (Nat.le_of_ble_eq_true rfl) rfl (fun C X Y hC => ?_)
  subst hC
  refine V_iload_n X dX12_type_0 rfl ?_
  refine V_iconst X (nI 0) dX12_type_1 (by decide) ?_
  refine V_sipush X (nI 255) dX12_type_2 (by decide) ?_
  refine V_callS (rest := []) X (c_X12_in (Cl C) G x ((0 : Nat) : Int) ((255 : Nat) : Int) (by first | assumption | omega) (by first | assumption | omega) (by first | assumption | omega)) mi_X12_in kw_3_235 kw_3_236 dX12_type_5 [] rfl (by decide) rfl rfl (by decide) (Nat.le_of_ble_eq_true rfl) ⟨rfl, rfl⟩ (fun u_ hu_2 => ?_)
  obtain ⟨b_1, rfl⟩ : ∃ z, z = u_ := ⟨_, rfl⟩
  have hu_2 : (b_1 = 1 ∧ ((0 : Nat) : Int) ≤ x ∧ x ≤ ((255 : Nat) : Int)) ∨ (b_1 = 0 ∧ (x < ((0 : Nat) : Int) ∨ ((255 : Nat) : Int) < x)) := hu_2
  show V C 0 0 [gMod G a (nF tx) (nF to) (nF dr) (nF be) (nF s) (nF pa) (nF im) (nF ke) (nF no) (nF fa) (lN tr) (nI ty) (nI kn) (nI nd) (nI att) (nI so) (nI ss) (iI va)] 8 [some (.ref (a 0)), some (.int (iI x))] [.int (nI b_1)]
  refine V_if_neN X 13 dX12_type_8 (by decide) (by omega) (fun c_3 => ?_) (fun c_3 => ?_)
  · refine V_loc (y := (nI x.toNat)) 1 rfl (mv_sn (by omega)) ?_
    refine V_aload_n X dX12_type_13 rfl ?_
    refine V_get X fl_X12_52 0 0 rfl rfl rfl dX12_type_14 ?_
    refine V_bipush X (nI 100) dX12_type_17 (by decide) ?_
    refine V_icmp_neN X 25 dX12_type_19 (by decide) (by omega) (by decide) (fun c_4 => ?_) (fun c_4 => ?_)
    · refine V_aload_n X dX12_type_25 rfl ?_
      refine V_get X fl_X12_7 0 0 rfl rfl rfl dX12_type_26 ?_
      refine V_aload_n X dX12_type_29 rfl ?_
      refine V_get X fl_X12_52 0 0 rfl rfl rfl dX12_type_30 ?_
      refine V_iload_n X dX12_type_33 rfl ?_
      refine V_iastN X 0 1 rfl rfl (by omega) (by decide) dX12_type_34 ?_
      show V C 0 0 [gMod G a (nF (va_up tx ty x.toNat)) (nF to) (nF dr) (nF be) (nF s) (nF pa) (nF im) (nF ke) (nF no) (nF fa) (lN tr) (nI ty) (nI kn) (nI nd) (nI att) (nI so) (nI ss) (iI va)] 35 [some (.ref (a 0)), some (.int (nI x.toNat))] []
      refine V_aload_n X dX12_type_35 rfl ?_
      refine V_dup X dX12_type_36 rfl ?_
      refine V_get X fl_X12_52 0 0 rfl rfl rfl dX12_type_37 ?_
      refine V_iconst X (nI 1) dX12_type_40 (by decide) ?_
      refine V_iaddN X dX12_type_41 ?_
      refine V_put X fl_X12_52 0 0 rfl rfl rfl rfl (Nat.le_of_ble_eq_true rfl) dX12_type_42 ?_
      show V C 0 0 [gMod G a (nF (va_up tx ty x.toNat)) (nF to) (nF dr) (nF be) (nF s) (nF pa) (nF im) (nF ke) (nF no) (nF fa) (lN tr) (nI (ty + 1)) (nI kn) (nI nd) (nI att) (nI so) (nI ss) (iI va)] 45 [some (.ref (a 0)), some (.int (nI x.toNat))] []
      refine V_aload_n X dX12_type_45 rfl ?_
      refine V_get X fl_X12_52 0 0 rfl rfl rfl dX12_type_46 ?_
      exact V_iret X Y ⟨((ty + 1 : Nat) : Int), va_up tx ty x.toNat, ty + 1⟩ (show (((ty + 1 : Nat) : Int), (va_up tx ty x.toNat), (ty + 1)) = spType tx ty x from (by simp only [spType]; (repeat (first | rw [if_pos (by omega)] | rw [if_neg (by omega)])) <;> rfl)) (mv_ri (by rfl)) rfl rfl dX12_type_49
    · refine V_bipush X (-3) dX12_type_22 (by decide) ?_
      exact V_iret X Y ⟨-3, tx, ty⟩ (show ((-3), tx, ty) = spType tx ty x from (by simp only [spType]; (repeat (first | rw [if_pos (by omega)] | rw [if_neg (by omega)])) <;> rfl)) (mv_ri (by rfl)) rfl rfl dX12_type_24
  · refine V_iconst X (-1) dX12_type_11 (by decide) ?_
    exact V_iret X Y ⟨-1, tx, ty⟩ (show ((-1), tx, ty) = spType tx ty x from (by simp only [spType]; (repeat (first | rw [if_pos (by omega)] | rw [if_neg (by omega)])) <;> rfl)) (mv_ri (by rfl)) rfl rfl dX12_type_12
set_option maxHeartbeats 4000000 in
set_option maxRecDepth 100000 in
theorem c_X12_clear (l : Launch) (G : mvG) (a : Nat → Nat) (tx : Nat → Nat) (to : Nat → Nat) (dr : Nat → Nat) (be : Nat → Nat) (s : Nat → Nat) (pa : Nat → Nat) (im : Nat → Nat) (ke : Nat → Nat) (no : Nat → Nat) (fa : Nat → Nat) (tr : Nat) (ty : Nat) (kn : Nat) (nd : Nat) (att : Nat) (so : Nat) (ss : Nat) (va : Int) : KQ l yX12_clear cX12_clear 2 (some .int) (0, 0) G [.ref (a 0)] [gMod G a (nF tx) (nF to) (nF dr) (nF be) (nF s) (nF pa) (nF im) (nF ke) (nF no) (nF fa) (lN tr) (nI ty) (nI kn) (nI nd) (nI att) (nI so) (nI ss) (iI va)] (fun (_ : Unit) => some (.int (nI ty))) (fun (_ : Unit) => True) (fun (_ : Unit) => [gMod G a (nF tx) (nF to) (nF dr) (nF be) (nF s) (nF pa) (nF im) (nF ke) (nF no) (nF fa) (lN tr) (nI 0) (nI kn) (nI nd) (nI att) (nI so) (nI ss) (iI va)]) := by
  refine KQ.mk (by decide +kernel) (fun _ _ => rfl) [some (.ref (a 0)), none] (Nat.le_of_ble_eq_true rfl) rfl (fun C X Y hC => ?_)
  subst hC
  refine V_aload_n X dX12_clear_0 rfl ?_
  refine V_get X fl_X12_52 0 0 rfl rfl rfl dX12_clear_1 ?_
  refine V_istore_n X dX12_clear_4 (by decide) rfl ?_
  refine V_aload_n X dX12_clear_5 rfl ?_
  refine V_iconst X (nI 0) dX12_clear_6 (by decide) ?_
  refine V_put X fl_X12_52 0 0 rfl rfl rfl rfl (Nat.le_of_ble_eq_true rfl) dX12_clear_7 ?_
  show V C 0 0 [gMod G a (nF tx) (nF to) (nF dr) (nF be) (nF s) (nF pa) (nF im) (nF ke) (nF no) (nF fa) (lN tr) (nI 0) (nI kn) (nI nd) (nI att) (nI so) (nI ss) (iI va)] 10 [some (.ref (a 0)), some (.int (nI ty))] []
  refine V_iload_n X dX12_clear_10 rfl ?_
  exact V_iret X Y () trivial rfl rfl rfl dX12_clear_11
set_option maxHeartbeats 4000000 in
set_option maxRecDepth 100000 in
theorem c_X12_letterAt (l : Launch) (G : mvG) (a : Nat → Nat) (tx : Nat → Nat) (to : Nat → Nat) (dr : Nat → Nat) (be : Nat → Nat) (s : Nat → Nat) (pa : Nat → Nat) (im : Nat → Nat) (ke : Nat → Nat) (no : Nat → Nat) (fa : Nat → Nat) (tr : Nat) (ty : Nat) (kn : Nat) (nd : Nat) (att : Nat) (so : Nat) (ss : Nat) (va : Int) (k : Nat) (hty : ty ≤ 100) (htx : ∀ j, tx j < 256) (hk : k ≤ 1000) : KQ l yX12_letterAt cX12_letterAt 2 (some .int) (0, 0) G [.ref (a 0), .int (nI k)] [gMod G a (nF tx) (nF to) (nF dr) (nF be) (nF s) (nF pa) (nF im) (nF ke) (nF no) (nF fa) (lN tr) (nI ty) (nI kn) (nI nd) (nI att) (nI so) (nI ss) (iI va)] (fun (zz : Int) => some (.int (iI zz))) (fun (zz : Int) => (k < ty ∧ zz = (tx k : Int) ∧ tx k < 256) ∨ (ty ≤ k ∧ zz = -1)) (fun (zz : Int) => [gMod G a (nF tx) (nF to) (nF dr) (nF be) (nF s) (nF pa) (nF im) (nF ke) (nF no) (nF fa) (lN tr) (nI ty) (nI kn) (nI nd) (nI att) (nI so) (nI ss) (iI va)]) := by
  refine KQ.mk (by decide +kernel) (fun _ _ => rfl) [some (.ref (a 0)), some (.int (nI k))] (Nat.le_of_ble_eq_true rfl) rfl (fun C X Y hC => ?_)
  subst hC
  have hlp := htx k
  refine V_iload_n X dX12_letterAt_0 rfl ?_
  refine V_aload_n X dX12_letterAt_1 rfl ?_
  refine V_get X fl_X12_52 0 0 rfl rfl rfl dX12_letterAt_2 ?_
  refine V_icmp_geN X 17 dX12_letterAt_5 (by decide) (by omega) (by omega) (fun c_1 => ?_) (fun c_1 => ?_)
  · refine V_iconst X (-1) dX12_letterAt_17 (by decide) ?_
    exact V_iret X Y (-1) (by omega) (mv_ri (by rfl)) rfl rfl dX12_letterAt_18
  · refine V_aload_n X dX12_letterAt_8 rfl ?_
    refine V_get X fl_X12_7 0 0 rfl rfl rfl dX12_letterAt_9 ?_
    refine V_iload_n X dX12_letterAt_12 rfl ?_
    refine V_ialdN X 0 1 rfl rfl (by omega) (by decide) dX12_letterAt_13 ?_
    refine V_goto X 18 dX12_letterAt_14 (by decide) ?_
    exact V_iret X Y ((tx k : Nat) : Int) (by omega) (mv_ri (by rfl)) rfl rfl dX12_letterAt_18
set_option maxHeartbeats 4000000 in
set_option maxRecDepth 100000 in
theorem c_X12_isDigit (l : Launch) (G : mvG) (v : Int) (hv : -2147483648 ≤ v ∧ v < 2147483648) : KQ l yX12_isDigit cX12_isDigit 1 (some .boolean) (1, 22) G [.int (iI v)] [] (fun (zz : Nat) => some (.int (nI zz))) (fun (zz : Nat) => (zz = 1 ∧ 48 ≤ v ∧ v ≤ 57) ∨ (zz = 0 ∧ (v < 48 ∨ 57 < v))) (fun (zz : Nat) => []) := by
  refine KQ.mk (by decide +kernel) (fun _ _ => rfl) [some (.int (iI v))] (Nat.le_of_ble_eq_true rfl) rfl (fun C X Y hC => ?_)
  subst hC
  refine V_iload_n X dX12_isDigit_0 rfl ?_
  refine V_bipush X (nI 48) dX12_isDigit_1 (by decide) ?_
  refine V_bipush X (nI 57) dX12_isDigit_3 (by decide) ?_
  refine V_callS (rest := []) X (c_X12_in (Cl C) G v ((48 : Nat) : Int) ((57 : Nat) : Int) (by first | assumption | omega) (by first | assumption | omega) (by first | assumption | omega)) mi_X12_in kw_3_235 kw_3_236 dX12_isDigit_5 [] rfl (by decide) rfl rfl (by decide) (Nat.le_of_ble_eq_true rfl) ⟨rfl, rfl⟩ (fun u_ hu_2 => ?_)
  obtain ⟨b_1, rfl⟩ : ∃ z, z = u_ := ⟨_, rfl⟩
  have hu_2 : (b_1 = 1 ∧ ((48 : Nat) : Int) ≤ v ∧ v ≤ ((57 : Nat) : Int)) ∨ (b_1 = 0 ∧ (v < ((48 : Nat) : Int) ∨ ((57 : Nat) : Int) < v)) := hu_2
  show V C 0 0 [] 8 [some (.int (iI v))] [.int (nI b_1)]
  exact V_iret X Y b_1 (by omega) rfl (mv_nz (by omega)) rfl dX12_isDigit_8
set_option maxHeartbeats 4000000 in
set_option maxRecDepth 100000 in
theorem c_X12_isWord (l : Launch) (G : mvG) (v : Int) (hv : -2147483648 ≤ v ∧ v < 2147483648) : KQ l yX12_isWord cX12_isWord 1 (some .boolean) (0, 0) G [.int (iI v)] [] (fun (zz : Nat) => some (.int (nI zz))) (fun (zz : Nat) => (zz = 1 ∧ (v = 112 ∨ v = 115 ∨ v = 102)) ∨ (zz = 0 ∧ (¬ (v = 112 ∨ v = 115 ∨ v = 102)))) (fun (zz : Nat) => []) := by
  refine KQ.mk (by decide +kernel) (fun _ _ => rfl) [some (.int (iI v))] (Nat.le_of_ble_eq_true rfl) rfl (fun C X Y hC => ?_)
  subst hC
  refine V_iload_n X dX12_isWord_0 rfl ?_
  refine V_bipush X (nI 112) dX12_isWord_1 (by decide) ?_
  refine V_icmp_eqI (i := v) (j := 112) X 18 dX12_isWord_3 (by decide) (iI_toInt (by omega) (by omega)) (nI_toInt (by decide)) (fun c_1 => ?_) (fun c_1 => ?_)
  · refine V_iconst X (nI 1) dX12_isWord_18 (by decide) ?_
    refine V_goto X 23 dX12_isWord_19 (by decide) ?_
    exact V_iret X Y 1 (by omega) rfl rfl rfl dX12_isWord_23
  · refine V_iload_n X dX12_isWord_6 rfl ?_
    refine V_bipush X (nI 115) dX12_isWord_7 (by decide) ?_
    refine V_icmp_eqI (i := v) (j := 115) X 18 dX12_isWord_9 (by decide) (iI_toInt (by omega) (by omega)) (nI_toInt (by decide)) (fun c_2 => ?_) (fun c_2 => ?_)
    · refine V_iconst X (nI 1) dX12_isWord_18 (by decide) ?_
      refine V_goto X 23 dX12_isWord_19 (by decide) ?_
      exact V_iret X Y 1 (by omega) rfl rfl rfl dX12_isWord_23
    · refine V_iload_n X dX12_isWord_12 rfl ?_
      refine V_bipush X (nI 102) dX12_isWord_13 (by decide) ?_
      refine V_icmp_neI (i := v) (j := 102) X 22 dX12_isWord_15 (by decide) (iI_toInt (by omega) (by omega)) (nI_toInt (by decide)) (fun c_3 => ?_) (fun c_3 => ?_)
      · refine V_iconst X (nI 0) dX12_isWord_22 (by decide) ?_
        exact V_iret X Y 0 (by omega) rfl rfl rfl dX12_isWord_23
      · refine V_iconst X (nI 1) dX12_isWord_18 (by decide) ?_
        refine V_goto X 23 dX12_isWord_19 (by decide) ?_
        exact V_iret X Y 1 (by omega) rfl rfl rfl dX12_isWord_23
set_option maxHeartbeats 4000000 in
set_option maxRecDepth 100000 in
theorem c_X12_token (l : Launch) (G : mvG) (a : Nat → Nat) (tx : Nat → Nat) (to : Nat → Nat) (dr : Nat → Nat) (be : Nat → Nat) (s : Nat → Nat) (pa : Nat → Nat) (im : Nat → Nat) (ke : Nat → Nat) (no : Nat → Nat) (fa : Nat → Nat) (tr : Nat) (ty : Nat) (kn : Nat) (nd : Nat) (att : Nat) (so : Nat) (ss : Nat) (va : Int) (hty : ty ≤ 100) (htx : ∀ j, tx j < 256) (hat : att ≤ ty) : KQ l yX12_token cX12_token 2 none (2, 42) G [.ref (a 0)] [gMod G a (nF tx) (nF to) (nF dr) (nF be) (nF s) (nF pa) (nF im) (nF ke) (nF no) (nF fa) (lN tr) (nI ty) (nI kn) (nI nd) (nI att) (nI so) (nI ss) (iI va)] (fun (zz : Nat × Nat × Nat × Int × Nat × Nat) => none) (fun (zz : Nat × Nat × Nat × Int × Nat × Nat) => (tokf tx ty att = (zz.2.1, zz.1, zz.2.2.2.2.1, zz.2.2.2.2.2) ∧ clsM zz.2.2.2.2.1 zz.2.2.2.2.2 zz.2.2.1 zz.2.2.2.1) ∧ zz.2.2.2.1 ≤ 1000 ∧ zz.1 ≤ ty ∧ zz.2.1 ≤ ty ∧ att ≤ zz.1 ∧ (zz.2.2.1 = 0 ∨ att < zz.1) ∧ zz.2.2.1 ≤ 4 ∧ -1 ≤ zz.2.2.2.1) (fun (zz : Nat × Nat × Nat × Int × Nat × Nat) => [gMod G a (nF tx) (nF to) (nF dr) (nF be) (nF s) (nF pa) (nF im) (nF ke) (nF no) (nF fa) (lN tr) (nI ty) (nI kn) (nI nd) (nI zz.1) (nI zz.2.2.1) (nI zz.2.1) (iI zz.2.2.2.1)]) := by
  refine KQ.mk (by decide +kernel) (fun _ _ => rfl) [some (.ref (a 0)), none] (Nat.le_of_ble_eq_true rfl) rfl (fun C X Y hC => ?_)
  subst hC
  have L_0 : ∀ (fz_0 : Nat) (p : Nat) (hp : p ≤ ty ∧ att ≤ p) (hq : skq tx ty att = skq tx ty p), (ty - p) < fz_0 → V C 0 0 [gMod G a (nF tx) (nF to) (nF dr) (nF be) (nF s) (nF pa) (nF im) (nF ke) (nF no) (nF fa) (lN tr) (nI ty) (nI kn) (nI nd) (nI p) (nI so) (nI ss) (iI va)] 0 [some (.ref (a 0)), none] [] := by
    intro fz_0
    induction fz_0 with
    | zero => intro p hp hq hf_0; exact absurd hf_0 (Nat.not_lt_zero _)
    | succ fz_0 ih_0 =>
      intro p hp hq hf_0
      refine V_aload_n X dX12_token_0 rfl ?_
      refine V_aload_n X dX12_token_1 rfl ?_
      refine V_get X fl_X12_56 0 0 rfl rfl rfl dX12_token_2 ?_
      refine V_callV (rest := []) X (c_X12_letterAt (Cl C) G a tx to dr be s pa im ke no fa tr ty kn nd p so ss va p (by first | assumption | omega) (by first | assumption | omega) (by first | assumption | omega)) mi_X12_letterAt kw_3_225 kw_3_227 kw_s_29 dX12_token_5 [0] rfl (by decide) 0 0 rfl rfl rfl rfl rfl rfl (by decide) (Nat.le_of_ble_eq_true rfl) ⟨rfl, rfl⟩ (fun u_ hu_2 => ?_)
      obtain ⟨z_1, rfl⟩ : ∃ z, z = u_ := ⟨_, rfl⟩
      have hu_2 : (p < ty ∧ z_1 = (tx p : Int) ∧ tx p < 256) ∨ (ty ≤ p ∧ z_1 = -1) := hu_2
      show V C 0 0 [gMod G a (nF tx) (nF to) (nF dr) (nF be) (nF s) (nF pa) (nF im) (nF ke) (nF no) (nF fa) (lN tr) (nI ty) (nI kn) (nI nd) (nI p) (nI so) (nI ss) (iI va)] 8 [some (.ref (a 0)), none] [.int (iI z_1)]
      refine V_bipush X (nI 32) dX12_token_8 (by decide) ?_
      refine V_icmp_neI (i := z_1) (j := 32) X 26 dX12_token_10 (by decide) (iI_toInt (by omega) (by omega)) (nI_toInt (by decide)) (fun c_3 => ?_) (fun c_3 => ?_)
      · have hpe : skq tx ty p = p := skq_end (by omega)
        rw [hpe] at hq
        have hlp := htx p
        refine V_aload_n X dX12_token_26 rfl ?_
        refine V_aload_n X dX12_token_27 rfl ?_
        refine V_get X fl_X12_56 0 0 rfl rfl rfl dX12_token_28 ?_
        refine V_put X fl_X12_63 0 0 rfl rfl rfl rfl (Nat.le_of_ble_eq_true rfl) dX12_token_31 ?_
        show V C 0 0 [gMod G a (nF tx) (nF to) (nF dr) (nF be) (nF s) (nF pa) (nF im) (nF ke) (nF no) (nF fa) (lN tr) (nI ty) (nI kn) (nI nd) (nI p) (nI so) (nI p) (iI va)] 34 [some (.ref (a 0)), none] []
        refine V_aload_n X dX12_token_34 rfl ?_
        refine V_aload_n X dX12_token_35 rfl ?_
        refine V_get X fl_X12_56 0 0 rfl rfl rfl dX12_token_36 ?_
        refine V_callV (rest := []) X (c_X12_letterAt (Cl C) G a tx to dr be s pa im ke no fa tr ty kn nd p so p va p (by first | assumption | omega) (by first | assumption | omega) (by first | assumption | omega)) mi_X12_letterAt kw_3_225 kw_3_227 kw_s_29 dX12_token_39 [0] rfl (by decide) 0 0 rfl rfl rfl rfl rfl rfl (by decide) (Nat.le_of_ble_eq_true rfl) ⟨rfl, rfl⟩ (fun u_ hu_5 => ?_)
        obtain ⟨z_4, rfl⟩ : ∃ z, z = u_ := ⟨_, rfl⟩
        have hu_5 : (p < ty ∧ z_4 = (tx p : Int) ∧ tx p < 256) ∨ (ty ≤ p ∧ z_4 = -1) := hu_5
        show V C 0 0 [gMod G a (nF tx) (nF to) (nF dr) (nF be) (nF s) (nF pa) (nF im) (nF ke) (nF no) (nF fa) (lN tr) (nI ty) (nI kn) (nI nd) (nI p) (nI so) (nI p) (iI va)] 42 [some (.ref (a 0)), none] [.int (iI z_4)]
        refine V_istore_n X dX12_token_42 (by decide) rfl ?_
        refine V_aload_n X dX12_token_43 rfl ?_
        refine V_iload_n X dX12_token_44 rfl ?_
        have J_85_6 : ∀ (o : Nat) (ho : (o = 0 ∧ ty ≤ p) ∨ (p < ty ∧ ((o = 2 ∧ 48 ≤ tx p ∧ tx p ≤ 57) ∨ (¬ (48 ≤ tx p ∧ tx p ≤ 57) ∧ ((o = 1 ∧ (tx p = 112 ∨ tx p = 115 ∨ tx p = 102)) ∨ (¬ (tx p = 112 ∨ tx p = 115 ∨ tx p = 102) ∧ ((o = 3 ∧ tx p = 59) ∨ (o = 4 ∧ ¬ tx p = 59)))))))), V C 0 0 [gMod G a (nF tx) (nF to) (nF dr) (nF be) (nF s) (nF pa) (nF im) (nF ke) (nF no) (nF fa) (lN tr) (nI ty) (nI kn) (nI nd) (nI p) (nI so) (nI p) (iI va)] 85 [some (.ref (a 0)), some (.int (iI z_4))] [.int (nI o), .ref (a 0)] := by
          intro o ho
          refine V_put X fl_X12_73 0 0 rfl rfl rfl rfl (Nat.le_of_ble_eq_true rfl) dX12_token_85 ?_
          show V C 0 0 [gMod G a (nF tx) (nF to) (nF dr) (nF be) (nF s) (nF pa) (nF im) (nF ke) (nF no) (nF fa) (lN tr) (nI ty) (nI kn) (nI nd) (nI p) (nI o) (nI p) (iI va)] 88 [some (.ref (a 0)), some (.int (iI z_4))] []
          refine V_aload_n X dX12_token_88 rfl ?_
          refine V_iload_n X dX12_token_89 rfl ?_
          refine V_put X fl_X12_76 0 0 rfl rfl rfl rfl (Nat.le_of_ble_eq_true rfl) dX12_token_90 ?_
          show V C 0 0 [gMod G a (nF tx) (nF to) (nF dr) (nF be) (nF s) (nF pa) (nF im) (nF ke) (nF no) (nF fa) (lN tr) (nI ty) (nI kn) (nI nd) (nI p) (nI o) (nI p) (iI z_4)] 93 [some (.ref (a 0)), some (.int (iI z_4))] []
          refine V_aload_n X dX12_token_93 rfl ?_
          refine V_dup X dX12_token_94 rfl ?_
          refine V_get X fl_X12_56 0 0 rfl rfl rfl dX12_token_95 ?_
          refine V_aload_n X dX12_token_98 rfl ?_
          refine V_get X fl_X12_73 0 0 rfl rfl rfl dX12_token_99 ?_
          have J_110_7 : ∀ (e : Nat) (he : (o = 0 ∧ e = 0) ∨ (0 < o ∧ e = 1)), V C 0 0 [gMod G a (nF tx) (nF to) (nF dr) (nF be) (nF s) (nF pa) (nF im) (nF ke) (nF no) (nF fa) (lN tr) (nI ty) (nI kn) (nI nd) (nI p) (nI o) (nI p) (iI z_4)] 110 [some (.ref (a 0)), some (.int (iI z_4))] [.int (nI e), .int (nI p), .ref (a 0)] := by
            intro e he
            refine V_iaddN X dX12_token_110 ?_
            refine V_put X fl_X12_56 0 0 rfl rfl rfl rfl (Nat.le_of_ble_eq_true rfl) dX12_token_111 ?_
            show V C 0 0 [gMod G a (nF tx) (nF to) (nF dr) (nF be) (nF s) (nF pa) (nF im) (nF ke) (nF no) (nF fa) (lN tr) (nI ty) (nI kn) (nI nd) (nI (p + e)) (nI o) (nI p) (iI z_4)] 114 [some (.ref (a 0)), some (.int (iI z_4))] []
            refine V_aload_n X dX12_token_114 rfl ?_
            refine V_get X fl_X12_73 0 0 rfl rfl rfl dX12_token_115 ?_
            refine V_iconst X (nI 2) dX12_token_118 (by decide) ?_
            refine V_icmp_neN X 202 dX12_token_119 (by decide) (by omega) (by decide) (fun c_8 => ?_) (fun c_8 => ?_)
            · exact V_vret X Y ⟨p + e, p, o, z_4, (tokf tx ty att).2.2.1, (tokf tx ty att).2.2.2⟩ (show (tokf tx ty att = (p, (p + e), ((tokf tx ty att).2.2.1), ((tokf tx ty att).2.2.2)) ∧ clsM ((tokf tx ty att).2.2.1) ((tokf tx ty att).2.2.2) o z_4) ∧ z_4 ≤ 1000 ∧ (p + e) ≤ ty ∧ p ≤ ty ∧ att ≤ (p + e) ∧ (o = 0 ∨ att < (p + e)) ∧ o ≤ 4 ∧ -1 ≤ z_4 from ⟨tok_postM hq (by omega), by omega⟩) rfl rfl dX12_token_202
            · refine V_aload_n X dX12_token_122 rfl ?_
              refine V_iload_n X dX12_token_123 rfl ?_
              refine V_bipush X (nI 48) dX12_token_124 (by decide) ?_
              refine V_two (show (iI z_4) = iI (z_4 : Int) from rfl) (show (nI 48) = iI (48 : Int) from rfl) ?_
              refine V_isubS X dX12_token_126 ?_
              refine V_put X fl_X12_76 0 0 rfl rfl rfl rfl (Nat.le_of_ble_eq_true rfl) dX12_token_127 ?_
              show V C 0 0 [gMod G a (nF tx) (nF to) (nF dr) (nF be) (nF s) (nF pa) (nF im) (nF ke) (nF no) (nF fa) (lN tr) (nI ty) (nI kn) (nI nd) (nI (p + e)) (nI o) (nI p) (iI ((z_4 : Int) - (48 : Int)))] 130 [some (.ref (a 0)), some (.int (iI z_4))] []
              have L_130 : ∀ (fz_130 : Nat) (u : Nat) (y : Int) (w : Int) (hu : p + 1 ≤ u ∧ u ≤ ty) (hdq : dgq tx ty p = dgq tx ty u) (hy : (u = p + 1 ∧ y = (tx p : Int) - 48) ∨ (p + 2 ≤ u ∧ 10 ≤ y ∧ y ≤ 1000)) (hwp : w = (tx p : Int) ∧ 48 ≤ w ∧ w ≤ 57 ∧ o = 2), (ty - u) < fz_130 → V C 0 0 [gMod G a (nF tx) (nF to) (nF dr) (nF be) (nF s) (nF pa) (nF im) (nF ke) (nF no) (nF fa) (lN tr) (nI ty) (nI kn) (nI nd) (nI u) (nI o) (nI p) (iI y)] 130 [some (.ref (a 0)), some (.int (iI w))] [] := by
                intro fz_130
                induction fz_130 with
                | zero => intro u y w hu hdq hy hwp hf_130; exact absurd hf_130 (Nat.not_lt_zero _)
                | succ fz_130 ih_130 =>
                  intro u y w hu hdq hy hwp hf_130
                  refine V_aload_n X dX12_token_130 rfl ?_
                  have hde : (u < ty ∧ 48 ≤ tx u ∧ tx u ≤ 57) ∨ dgq tx ty u = u := (Classical.em (u < ty ∧ 48 ≤ tx u ∧ tx u ≤ 57)).imp id (fun hd => dgq_end (by omega))
                  refine V_aload_n X dX12_token_131 rfl ?_
                  refine V_get X fl_X12_56 0 0 rfl rfl rfl dX12_token_132 ?_
                  refine V_callV (rest := []) X (c_X12_letterAt (Cl C) G a tx to dr be s pa im ke no fa tr ty kn nd u o p y u (by first | assumption | omega) (by first | assumption | omega) (by first | assumption | omega)) mi_X12_letterAt kw_3_225 kw_3_227 kw_s_29 dX12_token_135 [0] rfl (by decide) 0 0 rfl rfl rfl rfl rfl rfl (by decide) (Nat.le_of_ble_eq_true rfl) ⟨rfl, rfl⟩ (fun u_ hu_10 => ?_)
                  obtain ⟨z_9, rfl⟩ : ∃ z, z = u_ := ⟨_, rfl⟩
                  have hu_10 : (u < ty ∧ z_9 = (tx u : Int) ∧ tx u < 256) ∨ (ty ≤ u ∧ z_9 = -1) := hu_10
                  show V C 0 0 [gMod G a (nF tx) (nF to) (nF dr) (nF be) (nF s) (nF pa) (nF im) (nF ke) (nF no) (nF fa) (lN tr) (nI ty) (nI kn) (nI nd) (nI u) (nI o) (nI p) (iI y)] 138 [some (.ref (a 0)), some (.int (iI w))] [.int (iI z_9)]
                  refine V_callS (rest := []) X (c_X12_isDigit (Cl C) G z_9 (by first | assumption | omega)) mi_X12_isDigit kw_3_232 kw_3_233 dX12_token_138 [] rfl (by decide) rfl rfl (by decide) (Nat.le_of_ble_eq_true rfl) ⟨rfl, rfl⟩ (fun u_ hu_12 => ?_)
                  obtain ⟨b_11, rfl⟩ : ∃ z, z = u_ := ⟨_, rfl⟩
                  have hu_12 : (b_11 = 1 ∧ 48 ≤ z_9 ∧ z_9 ≤ 57) ∨ (b_11 = 0 ∧ (z_9 < 48 ∨ 57 < z_9)) := hu_12
                  show V C 0 0 [gMod G a (nF tx) (nF to) (nF dr) (nF be) (nF s) (nF pa) (nF im) (nF ke) (nF no) (nF fa) (lN tr) (nI ty) (nI kn) (nI nd) (nI u) (nI o) (nI p) (iI y)] 141 [some (.ref (a 0)), some (.int (iI w))] [.int (nI b_11)]
                  refine V_if_eqN X 202 dX12_token_141 (by decide) (by omega) (fun c_13 => ?_) (fun c_13 => ?_)
                  · exact V_vret X Y ⟨u, p, o, y, (tokf tx ty att).2.2.1, (tokf tx ty att).2.2.2⟩ (show (tokf tx ty att = (p, u, ((tokf tx ty att).2.2.1), ((tokf tx ty att).2.2.2)) ∧ clsM ((tokf tx ty att).2.2.1) ((tokf tx ty att).2.2.2) o y) ∧ y ≤ 1000 ∧ u ≤ ty ∧ p ≤ ty ∧ att ≤ u ∧ (o = 0 ∨ att < u) ∧ o ≤ 4 ∧ -1 ≤ y from ⟨tok_postM hq (by omega), by omega⟩) rfl rfl dX12_token_202
                  · refine V_aload_n X dX12_token_144 rfl ?_
                    refine V_iload_n X dX12_token_145 rfl ?_
                    refine V_bipush X (nI 48) dX12_token_146 (by decide) ?_
                    refine V_icmp_eqI (i := w) (j := 48) X 160 dX12_token_148 (by decide) (iI_toInt (by omega) (by omega)) (nI_toInt (by decide)) (fun c_14 => ?_) (fun c_14 => ?_)
                    · refine V_sipush X (nI 1000) dX12_token_160 (by decide) ?_
                      refine V_goto X 186 dX12_token_163 (by decide) ?_
                      refine V_put X fl_X12_76 0 0 rfl rfl rfl rfl (Nat.le_of_ble_eq_true rfl) dX12_token_186 ?_
                      show V C 0 0 [gMod G a (nF tx) (nF to) (nF dr) (nF be) (nF s) (nF pa) (nF im) (nF ke) (nF no) (nF fa) (lN tr) (nI ty) (nI kn) (nI nd) (nI u) (nI o) (nI p) (nI 1000)] 189 [some (.ref (a 0)), some (.int (iI w))] []
                      refine V_aload_n X dX12_token_189 rfl ?_
                      refine V_dup X dX12_token_190 rfl ?_
                      refine V_get X fl_X12_56 0 0 rfl rfl rfl dX12_token_191 ?_
                      refine V_iconst X (nI 1) dX12_token_194 (by decide) ?_
                      refine V_iaddN X dX12_token_195 ?_
                      refine V_put X fl_X12_56 0 0 rfl rfl rfl rfl (Nat.le_of_ble_eq_true rfl) dX12_token_196 ?_
                      show V C 0 0 [gMod G a (nF tx) (nF to) (nF dr) (nF be) (nF s) (nF pa) (nF im) (nF ke) (nF no) (nF fa) (lN tr) (nI ty) (nI kn) (nI nd) (nI (u + 1)) (nI o) (nI p) (nI 1000)] 199 [some (.ref (a 0)), some (.int (iI w))] []
                      refine V_goto X 130 dX12_token_199 (by decide) ?_
                      refine V_weak (lv' := [some (.ref (a 0)), some (.int (iI w))]) (And.intro rfl (And.intro rfl trivial)) ?_
                      exact ih_130 (u + 1) 1000 w (by omega) (by rw [hdq, dgq_step (by omega) (by omega)]) (by omega) (by omega) (by omega)
                    · refine V_aload_n X dX12_token_151 rfl ?_
                      refine V_get X fl_X12_76 0 0 rfl rfl rfl dX12_token_152 ?_
                      refine V_bipush X (nI 99) dX12_token_155 (by decide) ?_
                      refine V_icmp_leI (i := y) (j := 99) X 166 dX12_token_157 (by decide) (iI_toInt (by omega) (by omega)) (nI_toInt (by decide)) (fun c_15 => ?_) (fun c_15 => ?_)
                      · refine V_bipush X (nI 10) dX12_token_166 (by decide) ?_
                        refine V_aload_n X dX12_token_168 rfl ?_
                        refine V_get X fl_X12_76 0 0 rfl rfl rfl dX12_token_169 ?_
                        refine V_two (show (nI 10) = iI (10 : Int) from rfl) (show (iI y) = iI (y : Int) from rfl) ?_
                        refine V_imulS X dX12_token_172 ?_
                        refine V_aload_n X dX12_token_173 rfl ?_
                        refine V_get X fl_X12_7 0 0 rfl rfl rfl dX12_token_174 ?_
                        refine V_aload_n X dX12_token_177 rfl ?_
                        refine V_get X fl_X12_56 0 0 rfl rfl rfl dX12_token_178 ?_
                        refine V_ialdN X 0 1 rfl rfl (by omega) (by decide) dX12_token_181 ?_
                        refine V_two (show (iI ((10 : Int) * (y : Int))) = iI ((10 : Int) * (y : Int) : Int) from rfl) (show (nI (tx u)) = iI ((tx u : Nat) : Int) from rfl) ?_
                        refine V_iaddS X dX12_token_182 ?_
                        refine V_bipush X (nI 48) dX12_token_183 (by decide) ?_
                        refine V_two (show (iI (((10 : Int) * (y : Int) : Int) + ((tx u : Nat) : Int))) = iI (((10 : Int) * (y : Int) : Int) + ((tx u : Nat) : Int) : Int) from rfl) (show (nI 48) = iI (48 : Int) from rfl) ?_
                        refine V_isubS X dX12_token_185 ?_
                        refine V_put X fl_X12_76 0 0 rfl rfl rfl rfl (Nat.le_of_ble_eq_true rfl) dX12_token_186 ?_
                        show V C 0 0 [gMod G a (nF tx) (nF to) (nF dr) (nF be) (nF s) (nF pa) (nF im) (nF ke) (nF no) (nF fa) (lN tr) (nI ty) (nI kn) (nI nd) (nI u) (nI o) (nI p) (iI ((((10 : Int) * (y : Int) : Int) + ((tx u : Nat) : Int) : Int) - (48 : Int)))] 189 [some (.ref (a 0)), some (.int (iI w))] []
                        refine V_aload_n X dX12_token_189 rfl ?_
                        refine V_dup X dX12_token_190 rfl ?_
                        refine V_get X fl_X12_56 0 0 rfl rfl rfl dX12_token_191 ?_
                        refine V_iconst X (nI 1) dX12_token_194 (by decide) ?_
                        refine V_iaddN X dX12_token_195 ?_
                        refine V_put X fl_X12_56 0 0 rfl rfl rfl rfl (Nat.le_of_ble_eq_true rfl) dX12_token_196 ?_
                        show V C 0 0 [gMod G a (nF tx) (nF to) (nF dr) (nF be) (nF s) (nF pa) (nF im) (nF ke) (nF no) (nF fa) (lN tr) (nI ty) (nI kn) (nI nd) (nI (u + 1)) (nI o) (nI p) (iI ((((10 : Int) * (y : Int) : Int) + ((tx u : Nat) : Int) : Int) - (48 : Int)))] 199 [some (.ref (a 0)), some (.int (iI w))] []
                        refine V_goto X 130 dX12_token_199 (by decide) ?_
                        refine V_weak (lv' := [some (.ref (a 0)), some (.int (iI w))]) (And.intro rfl (And.intro rfl trivial)) ?_
                        exact ih_130 (u + 1) ((((10 : Int) * (y : Int) : Int) + ((tx u : Nat) : Int) : Int) - (48 : Int)) w (by omega) (by rw [hdq, dgq_step (by omega) (by omega)]) (by omega) (by omega) (by omega)
                      · refine V_sipush X (nI 1000) dX12_token_160 (by decide) ?_
                        refine V_goto X 186 dX12_token_163 (by decide) ?_
                        refine V_put X fl_X12_76 0 0 rfl rfl rfl rfl (Nat.le_of_ble_eq_true rfl) dX12_token_186 ?_
                        show V C 0 0 [gMod G a (nF tx) (nF to) (nF dr) (nF be) (nF s) (nF pa) (nF im) (nF ke) (nF no) (nF fa) (lN tr) (nI ty) (nI kn) (nI nd) (nI u) (nI o) (nI p) (nI 1000)] 189 [some (.ref (a 0)), some (.int (iI w))] []
                        refine V_aload_n X dX12_token_189 rfl ?_
                        refine V_dup X dX12_token_190 rfl ?_
                        refine V_get X fl_X12_56 0 0 rfl rfl rfl dX12_token_191 ?_
                        refine V_iconst X (nI 1) dX12_token_194 (by decide) ?_
                        refine V_iaddN X dX12_token_195 ?_
                        refine V_put X fl_X12_56 0 0 rfl rfl rfl rfl (Nat.le_of_ble_eq_true rfl) dX12_token_196 ?_
                        show V C 0 0 [gMod G a (nF tx) (nF to) (nF dr) (nF be) (nF s) (nF pa) (nF im) (nF ke) (nF no) (nF fa) (lN tr) (nI ty) (nI kn) (nI nd) (nI (u + 1)) (nI o) (nI p) (nI 1000)] 199 [some (.ref (a 0)), some (.int (iI w))] []
                        refine V_goto X 130 dX12_token_199 (by decide) ?_
                        refine V_weak (lv' := [some (.ref (a 0)), some (.int (iI w))]) (And.intro rfl (And.intro rfl trivial)) ?_
                        exact ih_130 (u + 1) 1000 w (by omega) (by rw [hdq, dgq_step (by omega) (by omega)]) (by omega) (by omega) (by omega)
              refine V_weak (lv' := [some (.ref (a 0)), some (.int (iI z_4))]) (And.intro rfl (And.intro rfl trivial)) ?_
              exact L_130 _ (p + e) ((z_4 : Int) - (48 : Int)) z_4 (by omega) (by rw [show p + e = p + 1 by omega]; exact dgq_step (by omega) (by omega)) (by omega) (by omega) (Nat.lt_succ_self _)
          refine V_if_neN X 109 dX12_token_102 (by decide) (by omega) (fun c_7 => ?_) (fun c_7 => ?_)
          · refine V_iconst X (nI 1) dX12_token_109 (by decide) ?_
            refine V_weak (lv' := [some (.ref (a 0)), some (.int (iI z_4))]) (And.intro rfl (And.intro rfl trivial)) ?_
            exact J_110_7 1 (by omega)
          · refine V_iconst X (nI 0) dX12_token_105 (by decide) ?_
            refine V_goto X 110 dX12_token_106 (by decide) ?_
            refine V_weak (lv' := [some (.ref (a 0)), some (.int (iI z_4))]) (And.intro rfl (And.intro rfl trivial)) ?_
            exact J_110_7 0 (by omega)
        refine V_if_geI (i := z_4) X 52 dX12_token_45 (by decide) (iI_toInt (by omega) (by omega)) (fun c_6 => ?_) (fun c_6 => ?_)
        · refine V_iload_n X dX12_token_52 rfl ?_
          refine V_callS (rest := [.ref (a 0)]) X (c_X12_isWord (Cl C) G z_4 (by first | assumption | omega)) mi_X12_isWord kw_3_229 kw_3_230 dX12_token_53 [] rfl (by decide) rfl rfl (by decide) (Nat.le_of_ble_eq_true rfl) ⟨rfl, rfl⟩ (fun u_ hu_17 => ?_)
          obtain ⟨b_16, rfl⟩ : ∃ z, z = u_ := ⟨_, rfl⟩
          have hu_17 : (b_16 = 1 ∧ (z_4 = 112 ∨ z_4 = 115 ∨ z_4 = 102)) ∨ (b_16 = 0 ∧ (¬ (z_4 = 112 ∨ z_4 = 115 ∨ z_4 = 102))) := hu_17
          show V C 0 0 [gMod G a (nF tx) (nF to) (nF dr) (nF be) (nF s) (nF pa) (nF im) (nF ke) (nF no) (nF fa) (lN tr) (nI ty) (nI kn) (nI nd) (nI p) (nI so) (nI p) (iI va)] 56 [some (.ref (a 0)), some (.int (iI z_4))] [.int (nI b_16), .ref (a 0)]
          refine V_if_eqN X 63 dX12_token_56 (by decide) (by omega) (fun c_18 => ?_) (fun c_18 => ?_)
          · refine V_iload_n X dX12_token_63 rfl ?_
            refine V_callS (rest := [.ref (a 0)]) X (c_X12_isDigit (Cl C) G z_4 (by first | assumption | omega)) mi_X12_isDigit kw_3_232 kw_3_233 dX12_token_64 [] rfl (by decide) rfl rfl (by decide) (Nat.le_of_ble_eq_true rfl) ⟨rfl, rfl⟩ (fun u_ hu_20 => ?_)
            obtain ⟨b_19, rfl⟩ : ∃ z, z = u_ := ⟨_, rfl⟩
            have hu_20 : (b_19 = 1 ∧ 48 ≤ z_4 ∧ z_4 ≤ 57) ∨ (b_19 = 0 ∧ (z_4 < 48 ∨ 57 < z_4)) := hu_20
            show V C 0 0 [gMod G a (nF tx) (nF to) (nF dr) (nF be) (nF s) (nF pa) (nF im) (nF ke) (nF no) (nF fa) (lN tr) (nI ty) (nI kn) (nI nd) (nI p) (nI so) (nI p) (iI va)] 67 [some (.ref (a 0)), some (.int (iI z_4))] [.int (nI b_19), .ref (a 0)]
            refine V_if_eqN X 74 dX12_token_67 (by decide) (by omega) (fun c_21 => ?_) (fun c_21 => ?_)
            · refine V_iload_n X dX12_token_74 rfl ?_
              refine V_bipush X (nI 59) dX12_token_75 (by decide) ?_
              refine V_icmp_neI (i := z_4) (j := 59) X 84 dX12_token_77 (by decide) (iI_toInt (by omega) (by omega)) (nI_toInt (by decide)) (fun c_22 => ?_) (fun c_22 => ?_)
              · refine V_iconst X (nI 4) dX12_token_84 (by decide) ?_
                refine V_weak (lv' := [some (.ref (a 0)), some (.int (iI z_4))]) (And.intro rfl (And.intro rfl trivial)) ?_
                exact J_85_6 4 (by omega)
              · refine V_iconst X (nI 3) dX12_token_80 (by decide) ?_
                refine V_goto X 85 dX12_token_81 (by decide) ?_
                refine V_weak (lv' := [some (.ref (a 0)), some (.int (iI z_4))]) (And.intro rfl (And.intro rfl trivial)) ?_
                exact J_85_6 3 (by omega)
            · refine V_iconst X (nI 2) dX12_token_70 (by decide) ?_
              refine V_goto X 85 dX12_token_71 (by decide) ?_
              refine V_weak (lv' := [some (.ref (a 0)), some (.int (iI z_4))]) (And.intro rfl (And.intro rfl trivial)) ?_
              exact J_85_6 2 (by omega)
          · refine V_iconst X (nI 1) dX12_token_59 (by decide) ?_
            refine V_goto X 85 dX12_token_60 (by decide) ?_
            refine V_weak (lv' := [some (.ref (a 0)), some (.int (iI z_4))]) (And.intro rfl (And.intro rfl trivial)) ?_
            exact J_85_6 1 (by omega)
        · refine V_iconst X (nI 0) dX12_token_48 (by decide) ?_
          refine V_goto X 85 dX12_token_49 (by decide) ?_
          refine V_weak (lv' := [some (.ref (a 0)), some (.int (iI z_4))]) (And.intro rfl (And.intro rfl trivial)) ?_
          exact J_85_6 0 (by omega)
      · refine V_aload_n X dX12_token_13 rfl ?_
        refine V_dup X dX12_token_14 rfl ?_
        refine V_get X fl_X12_56 0 0 rfl rfl rfl dX12_token_15 ?_
        refine V_iconst X (nI 1) dX12_token_18 (by decide) ?_
        refine V_iaddN X dX12_token_19 ?_
        refine V_put X fl_X12_56 0 0 rfl rfl rfl rfl (Nat.le_of_ble_eq_true rfl) dX12_token_20 ?_
        show V C 0 0 [gMod G a (nF tx) (nF to) (nF dr) (nF be) (nF s) (nF pa) (nF im) (nF ke) (nF no) (nF fa) (lN tr) (nI ty) (nI kn) (nI nd) (nI (p + 1)) (nI so) (nI ss) (iI va)] 23 [some (.ref (a 0)), none] []
        refine V_goto X 0 dX12_token_23 (by decide) ?_
        refine V_weak (lv' := [some (.ref (a 0)), none]) (And.intro rfl trivial) ?_
        exact ih_0 (p + 1) (by omega) (by rw [hq, skq_step (by omega) (by omega)]) (by omega)
  refine V_weak (lv' := [some (.ref (a 0)), none]) (And.intro rfl trivial) ?_
  exact L_0 _ att (by omega) rfl (Nat.lt_succ_self _)
