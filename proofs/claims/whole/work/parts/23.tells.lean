def toeM (s : Nat → Nat) : Nat → Int32 := fun c => if s (5 + c) < 16 then -9 else nI (s (5 + c) / 16 - 1)
def orS (c : Nat → Prop) [DecidablePred c] : Nat → Nat
  | 0 => 0
  | p + 1 => orS c p ||| (if c p then 2 ^ p else 0)
theorem bit_iff (x p : Nat) : x &&& 2 ^ p = 0 ↔ x.testBit p = false := by
  constructor
  · intro h
    have h1 : (x &&& 2 ^ p).testBit p = false := by rw [h]; exact Nat.zero_testBit p
    rw [Nat.testBit_and, Nat.testBit_two_pow_self] at h1
    simpa using h1
  · intro h
    apply Nat.eq_of_testBit_eq
    intro j
    rw [Nat.testBit_and, Nat.testBit_two_pow]
    by_cases f : p = j
    · subst f
      rw [h]
      simp
    · simp [f]
theorem orS_bit (c : Nat → Prop) [DecidablePred c] (j : Nat) : ∀ n, (orS c n).testBit j = decide (j < n ∧ c j)
  | 0 => by simp [orS]
  | n + 1 => by
    simp only [orS]
    rw [Nat.testBit_or, orS_bit c j n]
    by_cases h : c n
    · rw [if_pos h, Nat.testBit_two_pow]
      by_cases e : n = j
      · subst e
        simp [h]
      · by_cases hc : c j <;> by_cases hj : j < n <;> simp [hc, hj, e] <;> omega
    · rw [if_neg h, Nat.zero_testBit]
      by_cases e : n = j
      · subst e
        simp [h]
      · by_cases hc : c j <;> by_cases hj : j < n <;> simp [hc, hj] <;> omega
theorem orS_lt (c : Nat → Prop) [DecidablePred c] : ∀ n, orS c n < 2 ^ n
  | 0 => by simp [orS]
  | n + 1 => by
    have h := orS_lt c n
    have h2 : 2 ^ n < 2 ^ (n + 1) := Nat.pow_lt_pow_right (by decide) (by omega)
    simp only [orS]
    apply Nat.or_lt_two_pow
    · omega
    · split
      · exact h2
      · exact Nat.pow_pos (by decide)
theorem orS_le5 (c : Nat → Prop) [DecidablePred c] {n : Nat} (h : n ≤ 5) : orS c n < 32 := Nat.lt_of_lt_of_le (orS_lt c n) (pow5 h)
theorem bSum_for (wh v : Nat → Nat) (ln n : Nat) : ∀ m, m ≤ n → bSum v (orS (fun p => wh p / 6 < ln) n) m = vFor wh v ln m
  | 0, _ => rfl
  | m + 1, h => by
    simp only [bSum, vFor]
    rw [bSum_for wh v ln n m (by omega)]
    have hb := bit_iff (orS (fun p => wh p / 6 < ln) n) m
    rw [orS_bit] at hb
    by_cases hc : wh m / 6 < ln
    · rw [if_pos hc, if_neg (fun z => by have := hb.mp z; simp at this; omega)]
    · rw [if_neg hc, if_pos (hb.mpr (by simp; omega))]
theorem bSum_ag (wh v : Nat → Nat) (ln n : Nat) : ∀ m, m ≤ n → bSum v (orS (fun p => ln < wh p / 6) n) m = vAg wh v ln m
  | 0, _ => rfl
  | m + 1, h => by
    simp only [bSum, vAg]
    rw [bSum_ag wh v ln n m (by omega)]
    have hb := bit_iff (orS (fun p => ln < wh p / 6) n) m
    rw [orS_bit] at hb
    by_cases hc : ln < wh m / 6
    · rw [if_pos hc, if_neg (fun z => by have := hb.mp z; simp at this; omega)]
    · rw [if_neg hc, if_pos (hb.mpr (by simp; omega))]
set_option maxHeartbeats 4000000 in
set_option maxRecDepth 100000 in
theorem c_X12_deep (l : Launch) (G : mvG) (a : Nat → Nat) (tx : Nat → Nat) (to : Nat → Nat) (dr : Nat → Nat) (be : Nat → Nat) (s : Nat → Nat) (pa : Nat → Nat) (im : Nat → Nat) (ke : Nat → Nat) (no : Nat → Nat) (fa : Nat → Nat) (tr : Nat) (ty : Nat) (kn : Nat) (nd : Nat) (att : Nat) (so : Nat) (ss : Nat) (va : Int) (c : Nat) (hc : c < 36) (hde : ∀ c, c < 36 → s (5 + c) < 80 ∧ s (5 + c) % 16 ≤ 9) : KQ l yX12_deep cX12_deep 2 (some .int) (0, 0) G [.ref (a 0), .int (nI c)] [gMod G a (nF tx) (nF to) (nF dr) (nF be) (nF s) (nF pa) (nF im) (nF ke) (nF no) (nF fa) (lN tr) (nI ty) (nI kn) (nI nd) (nI att) (nI so) (nI ss) (iI va)] (fun (_ : Unit) => some (.int (nI (s (5 + c) % 16)))) (fun (_ : Unit) => True) (fun (_ : Unit) => [gMod G a (nF tx) (nF to) (nF dr) (nF be) (nF s) (nF pa) (nF im) (nF ke) (nF no) (nF fa) (lN tr) (nI ty) (nI kn) (nI nd) (nI att) (nI so) (nI ss) (iI va)]) := by
  refine KQ.mk (by decide +kernel) (fun _ _ => rfl) [some (.ref (a 0)), some (.int (nI c))] (Nat.le_of_ble_eq_true rfl) rfl (fun C X Y hC => ?_)
  subst hC
  have hdc := hde c hc
  refine V_aload_n X dX12_deep_0 rfl ?_
  refine V_get X fl_X12_22 0 0 rfl rfl rfl dX12_deep_1 ?_
  refine V_iconst X (nI 5) dX12_deep_4 (by decide) ?_
  refine V_iload_n X dX12_deep_5 rfl ?_
  refine V_iaddN X dX12_deep_6 ?_
  refine V_ialdN X 0 5 rfl rfl (by omega) (by decide) dX12_deep_7 ?_
  refine V_bipush X (nI 16) dX12_deep_8 (by decide) ?_
  refine V_iremN X dX12_deep_10 (by omega) (by omega) (by omega) ?_
  exact V_iret X Y () trivial (mv_rn (by rfl)) rfl rfl dX12_deep_11
set_option maxHeartbeats 4000000 in
set_option maxRecDepth 100000 in
theorem c_X12_peopleAt (l : Launch) (G : mvG) (a : Nat → Nat) (tx : Nat → Nat) (to : Nat → Nat) (dr : Nat → Nat) (be : Nat → Nat) (s : Nat → Nat) (pa : Nat → Nat) (im : Nat → Nat) (ke : Nat → Nat) (no : Nat → Nat) (fa : Nat → Nat) (tr : Nat) (ty : Nat) (kn : Nat) (nd : Nat) (att : Nat) (so : Nat) (ss : Nat) (va : Int) (c : Nat) (hn : to 0 ≤ 5) (hs : ∀ j, j < 5 → s j < 36) (hc : c < 36) : KQ l yX12_peopleAt cX12_peopleAt 4 (some .int) (0, 0) G [.ref (a 0), .int (nI c)] [gMod G a (nF tx) (nF to) (nF dr) (nF be) (nF s) (nF pa) (nF im) (nF ke) (nF no) (nF fa) (lN tr) (nI ty) (nI kn) (nI nd) (nI att) (nI so) (nI ss) (iI va)] (fun (_ : Unit) => some (.int (nI (pAt s c (to 0))))) (fun (_ : Unit) => True) (fun (_ : Unit) => [gMod G a (nF tx) (nF to) (nF dr) (nF be) (nF s) (nF pa) (nF im) (nF ke) (nF no) (nF fa) (lN tr) (nI ty) (nI kn) (nI nd) (nI att) (nI so) (nI ss) (iI va)]) := by
  refine KQ.mk (by decide +kernel) (fun _ _ => rfl) [some (.ref (a 0)), some (.int (nI c)), none, none] (Nat.le_of_ble_eq_true rfl) rfl (fun C X Y hC => ?_)
  subst hC
  refine V_iconst X (nI 0) dX12_peopleAt_0 (by decide) ?_
  refine V_istore_n X dX12_peopleAt_1 (by decide) rfl ?_
  refine V_iconst X (nI 0) dX12_peopleAt_2 (by decide) ?_
  refine V_istore_n X dX12_peopleAt_3 (by decide) rfl ?_
  have L_4 : ∀ (fz_4 : Nat) (y : Nat) (p : Nat) (hp : p ≤ to 0) (hy : y = pAt s c p), (to 0 - p) < fz_4 → V C 0 0 [gMod G a (nF tx) (nF to) (nF dr) (nF be) (nF s) (nF pa) (nF im) (nF ke) (nF no) (nF fa) (lN tr) (nI ty) (nI kn) (nI nd) (nI att) (nI so) (nI ss) (iI va)] 4 [some (.ref (a 0)), some (.int (nI c)), some (.int (nI y)), some (.int (nI p))] [] := by
    intro fz_4
    induction fz_4 with
    | zero => intro y p hp hy hf_4; exact absurd hf_4 (Nat.not_lt_zero _)
    | succ fz_4 ih_4 =>
      intro y p hp hy hf_4
      refine V_iload_n X dX12_peopleAt_4 rfl ?_
      refine V_aload_n X dX12_peopleAt_5 rfl ?_
      refine V_get X fl_X12_13 0 0 rfl rfl rfl dX12_peopleAt_6 ?_
      refine V_iconst X (nI 0) dX12_peopleAt_9 (by decide) ?_
      refine V_ialdN X 0 2 rfl rfl (by decide) (by decide) dX12_peopleAt_10 ?_
      refine V_icmp_geN X 40 dX12_peopleAt_11 (by decide) (by omega) (by omega) (fun c_1 => ?_) (fun c_1 => ?_)
      · refine V_iload_n X dX12_peopleAt_40 rfl ?_
        exact V_iret X Y () trivial (mv_rn (by rw [hy, show p = to 0 by omega])) rfl rfl dX12_peopleAt_41
      · have hsp := hs p (by omega)
        refine V_iload_n X dX12_peopleAt_14 rfl ?_
        refine V_aload_n X dX12_peopleAt_15 rfl ?_
        refine V_get X fl_X12_22 0 0 rfl rfl rfl dX12_peopleAt_16 ?_
        refine V_iload_n X dX12_peopleAt_19 rfl ?_
        refine V_ialdN X 0 5 rfl rfl (by omega) (by decide) dX12_peopleAt_20 ?_
        refine V_iload_n X dX12_peopleAt_21 rfl ?_
        have J_32_2 : ∀ (e : Nat) (he : e = if s p = c then 2 ^ p else 0), V C 0 0 [gMod G a (nF tx) (nF to) (nF dr) (nF be) (nF s) (nF pa) (nF im) (nF ke) (nF no) (nF fa) (lN tr) (nI ty) (nI kn) (nI nd) (nI att) (nI so) (nI ss) (iI va)] 32 [some (.ref (a 0)), some (.int (nI c)), some (.int (nI y)), some (.int (nI p))] [.int (nI e), .int (nI y)] := by
          intro e he
          refine V_iorN X dX12_peopleAt_32 ?_
          refine V_istore_n X dX12_peopleAt_33 (by decide) rfl ?_
          refine V_iincN X (c := 1) dX12_peopleAt_34 rfl (by decide) rfl ?_
          refine V_goto X 4 dX12_peopleAt_37 (by decide) ?_
          refine V_weak (lv' := [some (.ref (a 0)), some (.int (nI c)), some (.int (nI (y ||| e))), some (.int (nI (p + 1)))]) (And.intro rfl (And.intro rfl (And.intro rfl (And.intro rfl trivial)))) ?_
          exact ih_4 (y ||| e) (p + 1) (by omega) (by rw [hy, he]; rfl) (by omega)
        refine V_icmp_neN X 31 dX12_peopleAt_22 (by decide) (by omega) (by omega) (fun c_2 => ?_) (fun c_2 => ?_)
        · refine V_iconst X (nI 0) dX12_peopleAt_31 (by decide) ?_
          refine V_weak (lv' := [some (.ref (a 0)), some (.int (nI c)), some (.int (nI y)), some (.int (nI p))]) (And.intro rfl (And.intro rfl (And.intro rfl (And.intro rfl trivial)))) ?_
          exact J_32_2 0 (by first | rw [if_pos (by omega)] | rw [if_neg (by omega)])
        · refine V_iconst X (nI 1) dX12_peopleAt_25 (by decide) ?_
          refine V_iload_n X dX12_peopleAt_26 rfl ?_
          refine V_ishl1N X dX12_peopleAt_27 (by omega) ?_
          refine V_goto X 32 dX12_peopleAt_28 (by decide) ?_
          refine V_weak (lv' := [some (.ref (a 0)), some (.int (nI c)), some (.int (nI y)), some (.int (nI p))]) (And.intro rfl (And.intro rfl (And.intro rfl (And.intro rfl trivial)))) ?_
          exact J_32_2 (2 ^ p) (by first | rw [if_pos (by omega)] | rw [if_neg (by omega)])
  refine V_weak (lv' := [some (.ref (a 0)), some (.int (nI c)), some (.int (nI 0)), some (.int (nI 0))]) (And.intro rfl (And.intro rfl (And.intro rfl (And.intro rfl trivial)))) ?_
  exact L_4 _ 0 0 (by omega) rfl (Nat.lt_succ_self _)
set_option maxHeartbeats 4000000 in
set_option maxRecDepth 100000 in
theorem c_X12_gone (l : Launch) (G : mvG) (a : Nat → Nat) (tx : Nat → Nat) (to : Nat → Nat) (dr : Nat → Nat) (be : Nat → Nat) (s : Nat → Nat) (pa : Nat → Nat) (im : Nat → Nat) (ke : Nat → Nat) (no : Nat → Nat) (fa : Nat → Nat) (tr : Nat) (ty : Nat) (kn : Nat) (nd : Nat) (att : Nat) (so : Nat) (ss : Nat) (va : Int) (c : Nat) (hc : c < 36) (hde : ∀ c, c < 36 → s (5 + c) < 80 ∧ s (5 + c) % 16 ≤ 9) (hk : 1 ≤ to 1 ∧ to 1 ≤ 9) : KQ l yX12_gone cX12_gone 2 (some .int) (1, 21) G [.ref (a 0), .int (nI c)] [gMod G a (nF tx) (nF to) (nF dr) (nF be) (nF s) (nF pa) (nF im) (nF ke) (nF no) (nF fa) (lN tr) (nI ty) (nI kn) (nI nd) (nI att) (nI so) (nI ss) (iI va)] (fun (_ : Unit) => some (.int (nI ((s (5 + c) % 16 + to 1 - 1) / to 1)))) (fun (_ : Unit) => True) (fun (_ : Unit) => [gMod G a (nF tx) (nF to) (nF dr) (nF be) (nF s) (nF pa) (nF im) (nF ke) (nF no) (nF fa) (lN tr) (nI ty) (nI kn) (nI nd) (nI att) (nI so) (nI ss) (iI va)]) := by
  refine KQ.mk (by decide +kernel) (fun _ _ => rfl) [some (.ref (a 0)), some (.int (nI c))] (Nat.le_of_ble_eq_true rfl) rfl (fun C X Y hC => ?_)
  subst hC
  have hdc := hde c hc
  refine V_aload_n X dX12_gone_0 rfl ?_
  refine V_iload_n X dX12_gone_1 rfl ?_
  refine V_callV (rest := []) X (c_X12_deep (Cl C) G a tx to dr be s pa im ke no fa tr ty kn nd att so ss va c (by first | assumption | omega) (by first | assumption | omega)) mi_X12_deep kw_4_84 kw_4_86 kw_s_33 dX12_gone_2 [0] rfl (by decide) 0 0 rfl rfl rfl rfl rfl rfl (by decide) (Nat.le_of_ble_eq_true rfl) ⟨rfl, rfl⟩ (fun _ _ => ?_)
  show V C 0 0 [gMod G a (nF tx) (nF to) (nF dr) (nF be) (nF s) (nF pa) (nF im) (nF ke) (nF no) (nF fa) (lN tr) (nI ty) (nI kn) (nI nd) (nI att) (nI so) (nI ss) (iI va)] 5 [some (.ref (a 0)), some (.int (nI c))] [.int (nI (s (5 + c) % 16))]
  refine V_aload_n X dX12_gone_5 rfl ?_
  refine V_get X fl_X12_13 0 0 rfl rfl rfl dX12_gone_6 ?_
  refine V_iconst X (nI 1) dX12_gone_9 (by decide) ?_
  refine V_ialdN X 0 2 rfl rfl (by decide) (by decide) dX12_gone_10 ?_
  refine V_iaddN X dX12_gone_11 ?_
  refine V_iconst X (nI 1) dX12_gone_12 (by decide) ?_
  refine V_isubN X dX12_gone_13 (by omega) ?_
  refine V_aload_n X dX12_gone_14 rfl ?_
  refine V_get X fl_X12_13 0 0 rfl rfl rfl dX12_gone_15 ?_
  refine V_iconst X (nI 1) dX12_gone_18 (by decide) ?_
  refine V_ialdN X 0 2 rfl rfl (by decide) (by decide) dX12_gone_19 ?_
  refine V_idivN X dX12_gone_20 (by omega) (by omega) (by omega) ?_
  exact V_iret X Y () trivial (mv_rn (by rfl)) rfl rfl dX12_gone_21
set_option maxHeartbeats 4000000 in
set_option maxRecDepth 100000 in
theorem c_X12_named (l : Launch) (G : mvG) (c : Nat) (hc : c < 36) : KQ l yX12_named cX12_named 1 (some .int) (0, 0) G [.int (nI c)] [] (fun (_ : Unit) => some (.int (nI (10 * (c / 6) + c % 6)))) (fun (_ : Unit) => True) (fun (_ : Unit) => []) := by
  refine KQ.mk (by decide +kernel) (fun _ _ => rfl) [some (.int (nI c))] (Nat.le_of_ble_eq_true rfl) rfl (fun C X Y hC => ?_)
  subst hC
  refine V_bipush X (nI 10) dX12_named_0 (by decide) ?_
  refine V_iload_n X dX12_named_2 rfl ?_
  refine V_bipush X (nI 6) dX12_named_3 (by decide) ?_
  refine V_idivN X dX12_named_5 (by omega) (by omega) (by omega) ?_
  refine V_imulN X dX12_named_6 ?_
  refine V_iload_n X dX12_named_7 rfl ?_
  refine V_bipush X (nI 6) dX12_named_8 (by decide) ?_
  refine V_iremN X dX12_named_10 (by omega) (by omega) (by omega) ?_
  refine V_iaddN X dX12_named_11 ?_
  exact V_iret X Y () trivial (mv_rn (by rfl)) rfl rfl dX12_named_12
set_option maxHeartbeats 4000000 in
set_option maxRecDepth 100000 in
theorem c_X12_cell (l : Launch) (G : mvG) (a : Nat → Nat) (tx : Nat → Nat) (to : Nat → Nat) (dr : Nat → Nat) (be : Nat → Nat) (s : Nat → Nat) (pa : Nat → Nat) (im : Nat → Nat) (ke : Nat → Nat) (no : Nat → Nat) (fa : Nat → Nat) (tr : Nat) (ty : Nat) (kn : Nat) (nd : Nat) (att : Nat) (so : Nat) (ss : Nat) (va : Int) (x : Int) (y : Int) (hn : to 0 ≤ 5) (hs : ∀ j, j < 5 → s j < 36) (hde : ∀ c, c < 36 → s (5 + c) < 80 ∧ s (5 + c) % 16 ≤ 9) (hk : 1 ≤ to 1 ∧ to 1 ≤ 9) (hx : -2147483648 ≤ x ∧ x < 2147483648) (hy : -2147483648 ≤ y ∧ y < 2147483648) : KQ l yX12_cell cX12_cell 4 (some .int) (2, 42) G [.ref (a 0), .int (iI x), .int (iI y)] [gMod G a (nF tx) (nF to) (nF dr) (nF be) (nF s) (nF pa) (nF im) (nF ke) (nF no) (nF fa) (lN tr) (nI ty) (nI kn) (nI nd) (nI att) (nI so) (nI ss) (iI va)] (fun (_ : Unit) => some (.int (spCell s (fun c => s (5 + c) % 16) (toeM s) (to 0) (to 1) x y))) (fun (_ : Unit) => True) (fun (_ : Unit) => [gMod G a (nF tx) (nF to) (nF dr) (nF be) (nF s) (nF pa) (nF im) (nF ke) (nF no) (nF fa) (lN tr) (nI ty) (nI kn) (nI nd) (nI att) (nI so) (nI ss) (iI va)]) := by
  refine KQ.mk (by decide +kernel) (fun _ _ => rfl) [some (.ref (a 0)), some (.int (iI x)), some (.int (iI y)), none] (Nat.le_of_ble_eq_true rfl) rfl (fun C X Y hC => ?_)
  subst hC
  refine V_iload_n X dX12_cell_0 rfl ?_
  refine V_callS (rest := []) X (c_X12_isCell (Cl C) G x (by first | assumption | omega)) mi_X12_isCell kw_4_81 kw_4_82 dX12_cell_1 [] rfl (by decide) rfl rfl (by decide) (Nat.le_of_ble_eq_true rfl) ⟨rfl, rfl⟩ (fun u_ hu_2 => ?_)
  obtain ⟨b_1, rfl⟩ : ∃ z, z = u_ := ⟨_, rfl⟩
  have hu_2 : (b_1 = 1 ∧ 0 ≤ x ∧ x / 10 < 6 ∧ x % 10 < 6) ∨ (b_1 = 0 ∧ (x < 0 ∨ 6 ≤ x / 10 ∨ 6 ≤ x % 10)) := hu_2
  show V C 0 0 [gMod G a (nF tx) (nF to) (nF dr) (nF be) (nF s) (nF pa) (nF im) (nF ke) (nF no) (nF fa) (lN tr) (nI ty) (nI kn) (nI nd) (nI att) (nI so) (nI ss) (iI va)] 4 [some (.ref (a 0)), some (.int (iI x)), some (.int (iI y)), none] [.int (nI b_1)]
  refine V_if_neN X 9 dX12_cell_4 (by decide) (by omega) (fun c_3 => ?_) (fun c_3 => ?_)
  · refine V_loc (y := (nI x.toNat)) 1 rfl (mv_sn (by omega)) ?_
    refine V_bipush X (nI 6) dX12_cell_9 (by decide) ?_
    refine V_iload_n X dX12_cell_11 rfl ?_
    refine V_bipush X (nI 10) dX12_cell_12 (by decide) ?_
    refine V_idivN X dX12_cell_14 (by omega) (by omega) (by omega) ?_
    refine V_imulN X dX12_cell_15 ?_
    refine V_iload_n X dX12_cell_16 rfl ?_
    refine V_bipush X (nI 10) dX12_cell_17 (by decide) ?_
    refine V_iremN X dX12_cell_19 (by omega) (by omega) (by omega) ?_
    refine V_iaddN X dX12_cell_20 ?_
    refine V_istore_n X dX12_cell_21 (by decide) rfl ?_
    refine V_iload_n X dX12_cell_22 rfl ?_
    by_cases c_4 : y = 0
    · refine V_tableInI (i := y) (off := 29) X 52 dX12_cell_23 0 (iI_toInt (by omega) (by omega)) c_4 (by decide) (by decide) (by decide) ?_
      refine V_aload_n X dX12_cell_52 rfl ?_
      refine V_iload_n X dX12_cell_53 rfl ?_
      refine V_callV (rest := []) X (c_X12_deep (Cl C) G a tx to dr be s pa im ke no fa tr ty kn nd att so ss va ((6 * (x.toNat / 10)) + (x.toNat % 10)) (by first | assumption | omega) (by first | assumption | omega)) mi_X12_deep kw_4_84 kw_4_86 kw_s_33 dX12_cell_54 [0] rfl (by decide) 0 0 rfl rfl rfl rfl rfl rfl (by decide) (Nat.le_of_ble_eq_true rfl) ⟨rfl, rfl⟩ (fun _ _ => ?_)
      show V C 0 0 [gMod G a (nF tx) (nF to) (nF dr) (nF be) (nF s) (nF pa) (nF im) (nF ke) (nF no) (nF fa) (lN tr) (nI ty) (nI kn) (nI nd) (nI att) (nI so) (nI ss) (iI va)] 57 [some (.ref (a 0)), some (.int (nI x.toNat)), some (.int (iI y)), some (.int (nI ((6 * (x.toNat / 10)) + (x.toNat % 10))))] [.int (nI (s (5 + ((6 * (x.toNat / 10)) + (x.toNat % 10))) % 16))]
      exact V_iret X Y () trivial (mv_ri (by simp only [spCell, toeM]; first | (rw [show (6 * (x / 10) + x % 10).toNat = 6 * (x.toNat / 10) + x.toNat % 10 by omega]; repeat (first | rw [if_pos (by omega)] | rw [if_neg (by omega)])) | (repeat (first | rw [if_pos (by omega)] | rw [if_neg (by omega)])))) rfl rfl dX12_cell_57
    · by_cases c_5 : y = 1
      · refine V_tableInI (i := y) (off := 35) X 58 dX12_cell_23 1 (iI_toInt (by omega) (by omega)) c_5 (by decide) (by decide) (by decide) ?_
        have hdc := hde (6 * (x.toNat / 10) + x.toNat % 10) (by omega)
        refine V_aload_n X dX12_cell_58 rfl ?_
        refine V_get X fl_X12_22 0 0 rfl rfl rfl dX12_cell_59 ?_
        refine V_iconst X (nI 5) dX12_cell_62 (by decide) ?_
        refine V_iload_n X dX12_cell_63 rfl ?_
        refine V_iaddN X dX12_cell_64 ?_
        refine V_ialdN X 0 5 rfl rfl (by omega) (by decide) dX12_cell_65 ?_
        refine V_bipush X (nI 16) dX12_cell_66 (by decide) ?_
        refine V_icmp_geN X 76 dX12_cell_68 (by decide) (by omega) (by decide) (fun c_8 => ?_) (fun c_8 => ?_)
        · refine V_aload_n X dX12_cell_76 rfl ?_
          refine V_get X fl_X12_22 0 0 rfl rfl rfl dX12_cell_77 ?_
          refine V_iconst X (nI 5) dX12_cell_80 (by decide) ?_
          refine V_iload_n X dX12_cell_81 rfl ?_
          refine V_iaddN X dX12_cell_82 ?_
          refine V_ialdN X 0 5 rfl rfl (by omega) (by decide) dX12_cell_83 ?_
          refine V_bipush X (nI 16) dX12_cell_84 (by decide) ?_
          refine V_idivN X dX12_cell_86 (by omega) (by omega) (by omega) ?_
          refine V_iconst X (nI 1) dX12_cell_87 (by decide) ?_
          refine V_isubN X dX12_cell_88 (by omega) ?_
          exact V_iret X Y () trivial (mv_ri (by simp only [spCell, toeM]; first | (rw [show (6 * (x / 10) + x % 10).toNat = 6 * (x.toNat / 10) + x.toNat % 10 by omega]; repeat (first | rw [if_pos (by omega)] | rw [if_neg (by omega)])) | (repeat (first | rw [if_pos (by omega)] | rw [if_neg (by omega)])))) rfl rfl dX12_cell_89
        · refine V_bipush X (-9) dX12_cell_71 (by decide) ?_
          refine V_goto X 89 dX12_cell_73 (by decide) ?_
          exact V_iret X Y () trivial (mv_ri (by simp only [spCell, toeM]; first | (rw [show (6 * (x / 10) + x % 10).toNat = 6 * (x.toNat / 10) + x.toNat % 10 by omega]; repeat (first | rw [if_pos (by omega)] | rw [if_neg (by omega)])) | (repeat (first | rw [if_pos (by omega)] | rw [if_neg (by omega)])))) rfl rfl dX12_cell_89
      · by_cases c_6 : y = 2
        · refine V_tableInI (i := y) (off := 67) X 90 dX12_cell_23 2 (iI_toInt (by omega) (by omega)) c_6 (by decide) (by decide) (by decide) ?_
          refine V_aload_n X dX12_cell_90 rfl ?_
          refine V_iload_n X dX12_cell_91 rfl ?_
          refine V_callV (rest := []) X (c_X12_peopleAt (Cl C) G a tx to dr be s pa im ke no fa tr ty kn nd att so ss va ((6 * (x.toNat / 10)) + (x.toNat % 10)) (by first | assumption | omega) (by first | assumption | omega) (by first | assumption | omega)) mi_X12_peopleAt kw_4_88 kw_4_90 kw_s_34 dX12_cell_92 [0] rfl (by decide) 0 0 rfl rfl rfl rfl rfl rfl (by decide) (Nat.le_of_ble_eq_true rfl) ⟨rfl, rfl⟩ (fun _ _ => ?_)
          show V C 0 0 [gMod G a (nF tx) (nF to) (nF dr) (nF be) (nF s) (nF pa) (nF im) (nF ke) (nF no) (nF fa) (lN tr) (nI ty) (nI kn) (nI nd) (nI att) (nI so) (nI ss) (iI va)] 95 [some (.ref (a 0)), some (.int (nI x.toNat)), some (.int (iI y)), some (.int (nI ((6 * (x.toNat / 10)) + (x.toNat % 10))))] [.int (nI (pAt s ((6 * (x.toNat / 10)) + (x.toNat % 10)) (to 0)))]
          exact V_iret X Y () trivial (mv_ri (by simp only [spCell, toeM]; first | (rw [show (6 * (x / 10) + x % 10).toNat = 6 * (x.toNat / 10) + x.toNat % 10 by omega]; repeat (first | rw [if_pos (by omega)] | rw [if_neg (by omega)])) | (repeat (first | rw [if_pos (by omega)] | rw [if_neg (by omega)])))) rfl rfl dX12_cell_95
        · by_cases c_7 : y = 3
          · refine V_tableInI (i := y) (off := 73) X 96 dX12_cell_23 3 (iI_toInt (by omega) (by omega)) c_7 (by decide) (by decide) (by decide) ?_
            refine V_aload_n X dX12_cell_96 rfl ?_
            refine V_iload_n X dX12_cell_97 rfl ?_
            refine V_callV (rest := []) X (c_X12_gone (Cl C) G a tx to dr be s pa im ke no fa tr ty kn nd att so ss va ((6 * (x.toNat / 10)) + (x.toNat % 10)) (by first | assumption | omega) (by first | assumption | omega) (by first | assumption | omega)) mi_X12_gone kw_4_92 kw_4_94 kw_s_35 dX12_cell_98 [0] rfl (by decide) 0 0 rfl rfl rfl rfl rfl rfl (by decide) (Nat.le_of_ble_eq_true rfl) ⟨rfl, rfl⟩ (fun _ _ => ?_)
            show V C 0 0 [gMod G a (nF tx) (nF to) (nF dr) (nF be) (nF s) (nF pa) (nF im) (nF ke) (nF no) (nF fa) (lN tr) (nI ty) (nI kn) (nI nd) (nI att) (nI so) (nI ss) (iI va)] 101 [some (.ref (a 0)), some (.int (nI x.toNat)), some (.int (iI y)), some (.int (nI ((6 * (x.toNat / 10)) + (x.toNat % 10))))] [.int (nI ((s (5 + ((6 * (x.toNat / 10)) + (x.toNat % 10))) % 16 + to 1 - 1) / to 1))]
            exact V_iret X Y () trivial (mv_ri (by simp only [spCell, toeM]; first | (rw [show (6 * (x / 10) + x % 10).toNat = 6 * (x.toNat / 10) + x.toNat % 10 by omega]; repeat (first | rw [if_pos (by omega)] | rw [if_neg (by omega)])) | (repeat (first | rw [if_pos (by omega)] | rw [if_neg (by omega)])))) rfl rfl dX12_cell_101
          · refine V_tableOutI (i := y) X 102 dX12_cell_23 (iI_toInt (by omega) (by omega)) (by omega) (by decide) ?_
            refine V_iconst X (-1) dX12_cell_102 (by decide) ?_
            exact V_iret X Y () trivial (mv_ri (by simp only [spCell, toeM]; first | (rw [show (6 * (x / 10) + x % 10).toNat = 6 * (x.toNat / 10) + x.toNat % 10 by omega]; repeat (first | rw [if_pos (by omega)] | rw [if_neg (by omega)])) | (repeat (first | rw [if_pos (by omega)] | rw [if_neg (by omega)])))) rfl rfl dX12_cell_103
  · refine V_iconst X (-1) dX12_cell_7 (by decide) ?_
    exact V_iret X Y () trivial (mv_ri (by simp only [spCell, toeM]; first | (rw [show (6 * (x / 10) + x % 10).toNat = 6 * (x.toNat / 10) + x.toNat % 10 by omega]; repeat (first | rw [if_pos (by omega)] | rw [if_neg (by omega)])) | (repeat (first | rw [if_pos (by omega)] | rw [if_neg (by omega)])))) rfl rfl dX12_cell_8
set_option maxHeartbeats 4000000 in
set_option maxRecDepth 100000 in
theorem c_X12_person (l : Launch) (G : mvG) (a : Nat → Nat) (tx : Nat → Nat) (to : Nat → Nat) (dr : Nat → Nat) (be : Nat → Nat) (s : Nat → Nat) (pa : Nat → Nat) (im : Nat → Nat) (ke : Nat → Nat) (no : Nat → Nat) (fa : Nat → Nat) (tr : Nat) (ty : Nat) (kn : Nat) (nd : Nat) (att : Nat) (so : Nat) (ss : Nat) (va : Int) (p : Int) (y : Int) (hn : to 0 ≤ 5) (hs : ∀ j, j < 5 → s j < 36) (hp : -2147483648 ≤ p ∧ p < 2147483648) (hy : -2147483648 ≤ y ∧ y < 2147483648) : KQ l yX12_person cX12_person 3 (some .int) (2, 43) G [.ref (a 0), .int (iI p), .int (iI y)] [gMod G a (nF tx) (nF to) (nF dr) (nF be) (nF s) (nF pa) (nF im) (nF ke) (nF no) (nF fa) (lN tr) (nI ty) (nI kn) (nI nd) (nI att) (nI so) (nI ss) (iI va)] (fun (_ : Unit) => some (.int (iI (spPerson (fun j => to (4 + j)) (fun j => to (9 + j)) s (to 0) p y)))) (fun (_ : Unit) => True) (fun (_ : Unit) => [gMod G a (nF tx) (nF to) (nF dr) (nF be) (nF s) (nF pa) (nF im) (nF ke) (nF no) (nF fa) (lN tr) (nI ty) (nI kn) (nI nd) (nI att) (nI so) (nI ss) (iI va)]) := by
  refine KQ.mk (by decide +kernel) (fun _ _ => rfl) [some (.ref (a 0)), some (.int (iI p)), some (.int (iI y))] (Nat.le_of_ble_eq_true rfl) rfl (fun C X Y hC => ?_)
  subst hC
  refine V_aload_n X dX12_person_0 rfl ?_
  refine V_iload_n X dX12_person_1 rfl ?_
  refine V_callV (rest := []) X (c_X12_isOne (Cl C) G a tx to dr be s pa im ke no fa tr ty kn nd att so ss va p (by first | assumption | omega) (by first | assumption | omega)) mi_X12_isOne kw_4_100 kw_4_102 kw_s_36 dX12_person_2 [0] rfl (by decide) 0 0 rfl rfl rfl rfl rfl rfl (by decide) (Nat.le_of_ble_eq_true rfl) ⟨rfl, rfl⟩ (fun u_ hu_2 => ?_)
  obtain ⟨b_1, rfl⟩ : ∃ z, z = u_ := ⟨_, rfl⟩
  have hu_2 : (b_1 = 1 ∧ 0 ≤ p ∧ p < (to 0 : Int)) ∨ (b_1 = 0 ∧ (p < 0 ∨ (to 0 : Int) ≤ p)) := hu_2
  show V C 0 0 [gMod G a (nF tx) (nF to) (nF dr) (nF be) (nF s) (nF pa) (nF im) (nF ke) (nF no) (nF fa) (lN tr) (nI ty) (nI kn) (nI nd) (nI att) (nI so) (nI ss) (iI va)] 5 [some (.ref (a 0)), some (.int (iI p)), some (.int (iI y))] [.int (nI b_1)]
  refine V_if_neN X 10 dX12_person_5 (by decide) (by omega) (fun c_3 => ?_) (fun c_3 => ?_)
  · refine V_loc (y := (nI p.toNat)) 1 rfl (mv_sn (by omega)) ?_
    have hsp := hs p.toNat (by omega)
    refine V_iload_n X dX12_person_10 rfl ?_
    by_cases c_4 : y = 0
    · refine V_tableInI (i := y) (off := 25) X 36 dX12_person_11 0 (iI_toInt (by omega) (by omega)) c_4 (by decide) (by decide) (by decide) ?_
      refine V_aload_n X dX12_person_36 rfl ?_
      refine V_get X fl_X12_22 0 0 rfl rfl rfl dX12_person_37 ?_
      refine V_iload_n X dX12_person_40 rfl ?_
      refine V_ialdN X 0 5 rfl rfl (by omega) (by decide) dX12_person_41 ?_
      refine V_callS (rest := []) X (c_X12_named (Cl C) G (s p.toNat) (by first | assumption | omega)) mi_X12_named kw_4_104 kw_4_105 dX12_person_42 [] rfl (by decide) rfl rfl (by decide) (Nat.le_of_ble_eq_true rfl) ⟨rfl, rfl⟩ (fun _ _ => ?_)
      show V C 0 0 [gMod G a (nF tx) (nF to) (nF dr) (nF be) (nF s) (nF pa) (nF im) (nF ke) (nF no) (nF fa) (lN tr) (nI ty) (nI kn) (nI nd) (nI att) (nI so) (nI ss) (iI va)] 45 [some (.ref (a 0)), some (.int (nI p.toNat)), some (.int (iI y))] [.int (nI (10 * ((s p.toNat) / 6) + (s p.toNat) % 6))]
      exact V_iret X Y () trivial (mv_ri (by simp only [spPerson]; (repeat (first | rw [if_pos (by omega)] | rw [if_neg (by omega)])) <;> rfl)) rfl rfl dX12_person_45
    · by_cases c_5 : y = 1
      · refine V_tableInI (i := y) (off := 35) X 46 dX12_person_11 1 (iI_toInt (by omega) (by omega)) c_5 (by decide) (by decide) (by decide) ?_
        refine V_aload_n X dX12_person_46 rfl ?_
        refine V_get X fl_X12_13 0 0 rfl rfl rfl dX12_person_47 ?_
        refine V_iconst X (nI 4) dX12_person_50 (by decide) ?_
        refine V_iload_n X dX12_person_51 rfl ?_
        refine V_iaddN X dX12_person_52 ?_
        refine V_ialdN X 0 2 rfl rfl (by omega) (by decide) dX12_person_53 ?_
        exact V_iret X Y () trivial (mv_ri (by simp only [spPerson]; (repeat (first | rw [if_pos (by omega)] | rw [if_neg (by omega)])) <;> rfl)) rfl rfl dX12_person_54
      · by_cases c_6 : y = 2
        · refine V_tableInI (i := y) (off := 44) X 55 dX12_person_11 2 (iI_toInt (by omega) (by omega)) c_6 (by decide) (by decide) (by decide) ?_
          refine V_aload_n X dX12_person_55 rfl ?_
          refine V_get X fl_X12_13 0 0 rfl rfl rfl dX12_person_56 ?_
          refine V_bipush X (nI 9) dX12_person_59 (by decide) ?_
          refine V_iload_n X dX12_person_61 rfl ?_
          refine V_iaddN X dX12_person_62 ?_
          refine V_ialdN X 0 2 rfl rfl (by omega) (by decide) dX12_person_63 ?_
          exact V_iret X Y () trivial (mv_ri (by simp only [spPerson]; (repeat (first | rw [if_pos (by omega)] | rw [if_neg (by omega)])) <;> rfl)) rfl rfl dX12_person_64
        · refine V_tableOutI (i := y) X 65 dX12_person_11 (iI_toInt (by omega) (by omega)) (by omega) (by decide) ?_
          refine V_iconst X (-1) dX12_person_65 (by decide) ?_
          exact V_iret X Y () trivial (mv_ri (by simp only [spPerson]; (repeat (first | rw [if_pos (by omega)] | rw [if_neg (by omega)])) <;> rfl)) rfl rfl dX12_person_66
  · refine V_iconst X (-1) dX12_person_8 (by decide) ?_
    exact V_iret X Y () trivial (mv_ri (by simp only [spPerson]; (repeat (first | rw [if_pos (by omega)] | rw [if_neg (by omega)])) <;> rfl)) rfl rfl dX12_person_9
set_option maxHeartbeats 4000000 in
set_option maxRecDepth 100000 in
theorem c_X12_voices (l : Launch) (G : mvG) (a : Nat → Nat) (tx : Nat → Nat) (to : Nat → Nat) (dr : Nat → Nat) (be : Nat → Nat) (s : Nat → Nat) (pa : Nat → Nat) (im : Nat → Nat) (ke : Nat → Nat) (no : Nat → Nat) (fa : Nat → Nat) (tr : Nat) (ty : Nat) (kn : Nat) (nd : Nat) (att : Nat) (so : Nat) (ss : Nat) (va : Int) (e : Nat) (hn : to 0 ≤ 5) (hvo : ∀ j, j < 5 → to (9 + j) ≤ 9) (he : e < 2 ^ 31) : KQ l yX12_voices cX12_voices 4 (some .int) (1, 21) G [.ref (a 0), .int (nI e)] [gMod G a (nF tx) (nF to) (nF dr) (nF be) (nF s) (nF pa) (nF im) (nF ke) (nF no) (nF fa) (lN tr) (nI ty) (nI kn) (nI nd) (nI att) (nI so) (nI ss) (iI va)] (fun (_ : Unit) => some (.int (nI (bSum (fun j => to (9 + j)) e (to 0))))) (fun (_ : Unit) => True) (fun (_ : Unit) => [gMod G a (nF tx) (nF to) (nF dr) (nF be) (nF s) (nF pa) (nF im) (nF ke) (nF no) (nF fa) (lN tr) (nI ty) (nI kn) (nI nd) (nI att) (nI so) (nI ss) (iI va)]) := by
  refine KQ.mk (by decide +kernel) (fun _ _ => rfl) [some (.ref (a 0)), some (.int (nI e)), none, none] (Nat.le_of_ble_eq_true rfl) rfl (fun C X Y hC => ?_)
  subst hC
  refine V_iconst X (nI 0) dX12_voices_0 (by decide) ?_
  refine V_istore_n X dX12_voices_1 (by decide) rfl ?_
  refine V_iconst X (nI 0) dX12_voices_2 (by decide) ?_
  refine V_istore_n X dX12_voices_3 (by decide) rfl ?_
  have L_4 : ∀ (fz_4 : Nat) (y : Nat) (p : Nat) (hp : p ≤ to 0) (hy : y = bSum (fun j => to (9 + j)) e p), (to 0 - p) < fz_4 → V C 0 0 [gMod G a (nF tx) (nF to) (nF dr) (nF be) (nF s) (nF pa) (nF im) (nF ke) (nF no) (nF fa) (lN tr) (nI ty) (nI kn) (nI nd) (nI att) (nI so) (nI ss) (iI va)] 4 [some (.ref (a 0)), some (.int (nI e)), some (.int (nI y)), some (.int (nI p))] [] := by
    intro fz_4
    induction fz_4 with
    | zero => intro y p hp hy hf_4; exact absurd hf_4 (Nat.not_lt_zero _)
    | succ fz_4 ih_4 =>
      intro y p hp hy hf_4
      refine V_iload_n X dX12_voices_4 rfl ?_
      refine V_aload_n X dX12_voices_5 rfl ?_
      refine V_get X fl_X12_13 0 0 rfl rfl rfl dX12_voices_6 ?_
      refine V_iconst X (nI 0) dX12_voices_9 (by decide) ?_
      refine V_ialdN X 0 2 rfl rfl (by decide) (by decide) dX12_voices_10 ?_
      refine V_icmp_geN X 44 dX12_voices_11 (by decide) (by omega) (by omega) (fun c_1 => ?_) (fun c_1 => ?_)
      · refine V_iload_n X dX12_voices_44 rfl ?_
        exact V_iret X Y () trivial (mv_rn (by rw [hy, show p = to 0 by omega])) rfl rfl dX12_voices_45
      · refine V_iload_n X dX12_voices_14 rfl ?_
        refine V_iload_n X dX12_voices_15 rfl ?_
        refine V_iload_n X dX12_voices_16 rfl ?_
        refine V_callS (rest := [.int (nI y)]) X (c_X12_has (Cl C) G e p (by first | assumption | omega) (by first | assumption | omega)) mi_X12_has kw_4_123 kw_4_124 dX12_voices_17 [] rfl (by decide) rfl rfl (by decide) (Nat.le_of_ble_eq_true rfl) ⟨rfl, rfl⟩ (fun u_ hu_3 => ?_)
        obtain ⟨b_2, rfl⟩ : ∃ z, z = u_ := ⟨_, rfl⟩
        have hu_3 : (b_2 = 1 ∧ ¬ e &&& 2 ^ p = 0) ∨ (b_2 = 0 ∧ e &&& 2 ^ p = 0) := hu_3
        show V C 0 0 [gMod G a (nF tx) (nF to) (nF dr) (nF be) (nF s) (nF pa) (nF im) (nF ke) (nF no) (nF fa) (lN tr) (nI ty) (nI kn) (nI nd) (nI att) (nI so) (nI ss) (iI va)] 20 [some (.ref (a 0)), some (.int (nI e)), some (.int (nI y)), some (.int (nI p))] [.int (nI b_2), .int (nI y)]
        have J_36_4 : ∀ (z : Nat) (hz : z = if e &&& 2 ^ p = 0 then 0 else to (9 + p)), V C 0 0 [gMod G a (nF tx) (nF to) (nF dr) (nF be) (nF s) (nF pa) (nF im) (nF ke) (nF no) (nF fa) (lN tr) (nI ty) (nI kn) (nI nd) (nI att) (nI so) (nI ss) (iI va)] 36 [some (.ref (a 0)), some (.int (nI e)), some (.int (nI y)), some (.int (nI p))] [.int (nI z), .int (nI y)] := by
          intro z hz
          refine V_iaddN X dX12_voices_36 ?_
          refine V_istore_n X dX12_voices_37 (by decide) rfl ?_
          refine V_iincN X (c := 1) dX12_voices_38 rfl (by decide) rfl ?_
          refine V_goto X 4 dX12_voices_41 (by decide) ?_
          refine V_weak (lv' := [some (.ref (a 0)), some (.int (nI e)), some (.int (nI (y + z))), some (.int (nI (p + 1)))]) (And.intro rfl (And.intro rfl (And.intro rfl (And.intro rfl trivial)))) ?_
          exact ih_4 (y + z) (p + 1) (by omega) (by rw [hy, hz]; rfl) (by omega)
        refine V_if_eqN X 35 dX12_voices_20 (by decide) (by omega) (fun c_4 => ?_) (fun c_4 => ?_)
        · refine V_iconst X (nI 0) dX12_voices_35 (by decide) ?_
          refine V_weak (lv' := [some (.ref (a 0)), some (.int (nI e)), some (.int (nI y)), some (.int (nI p))]) (And.intro rfl (And.intro rfl (And.intro rfl (And.intro rfl trivial)))) ?_
          exact J_36_4 0 (by first | rw [if_pos (by omega)] | rw [if_neg (by omega)])
        · refine V_aload_n X dX12_voices_23 rfl ?_
          refine V_get X fl_X12_13 0 0 rfl rfl rfl dX12_voices_24 ?_
          refine V_bipush X (nI 9) dX12_voices_27 (by decide) ?_
          refine V_iload_n X dX12_voices_29 rfl ?_
          refine V_iaddN X dX12_voices_30 ?_
          refine V_ialdN X 0 2 rfl rfl (by omega) (by decide) dX12_voices_31 ?_
          refine V_goto X 36 dX12_voices_32 (by decide) ?_
          refine V_weak (lv' := [some (.ref (a 0)), some (.int (nI e)), some (.int (nI y)), some (.int (nI p))]) (And.intro rfl (And.intro rfl (And.intro rfl (And.intro rfl trivial)))) ?_
          exact J_36_4 (to (9 + p)) (by first | rw [if_pos (by omega)] | rw [if_neg (by omega)])
  refine V_weak (lv' := [some (.ref (a 0)), some (.int (nI e)), some (.int (nI 0)), some (.int (nI 0))]) (And.intro rfl (And.intro rfl (And.intro rfl (And.intro rfl trivial)))) ?_
  exact L_4 _ 0 0 (by omega) rfl (Nat.lt_succ_self _)
set_option maxHeartbeats 4000000 in
set_option maxRecDepth 100000 in
theorem c_X12_isPassed (l : Launch) (G : mvG) (a : Nat → Nat) (tx : Nat → Nat) (to : Nat → Nat) (dr : Nat → Nat) (be : Nat → Nat) (s : Nat → Nat) (pa : Nat → Nat) (im : Nat → Nat) (ke : Nat → Nat) (no : Nat → Nat) (fa : Nat → Nat) (tr : Nat) (ty : Nat) (kn : Nat) (nd : Nat) (att : Nat) (so : Nat) (ss : Nat) (va : Int) (ln : Nat) (hn : to 0 ≤ 5) (hvo : ∀ j, j < 5 → to (9 + j) ≤ 9) (hs : ∀ j, j < 5 → s j < 36) (hln : ln < 6) : KQ l yX12_isPassed cX12_isPassed 5 (some .boolean) (2, 44) G [.ref (a 0), .int (nI ln)] [gMod G a (nF tx) (nF to) (nF dr) (nF be) (nF s) (nF pa) (nF im) (nF ke) (nF no) (nF fa) (lN tr) (nI ty) (nI kn) (nI nd) (nI att) (nI so) (nI ss) (iI va)] (fun (zz : Nat) => some (.int (nI zz))) (fun (zz : Nat) => (zz = 1 ∧ vAg s (fun j => to (9 + j)) ln (to 0) < vFor s (fun j => to (9 + j)) ln (to 0)) ∨ (zz = 0 ∧ ¬ vAg s (fun j => to (9 + j)) ln (to 0) < vFor s (fun j => to (9 + j)) ln (to 0))) (fun (zz : Nat) => [gMod G a (nF tx) (nF to) (nF dr) (nF be) (nF s) (nF pa) (nF im) (nF ke) (nF no) (nF fa) (lN tr) (nI ty) (nI kn) (nI nd) (nI att) (nI so) (nI ss) (iI va)]) := by
  refine KQ.mk (by decide +kernel) (fun _ _ => rfl) [some (.ref (a 0)), some (.int (nI ln)), none, none, none] (Nat.le_of_ble_eq_true rfl) rfl (fun C X Y hC => ?_)
  subst hC
  refine V_iconst X (nI 0) dX12_isPassed_0 (by decide) ?_
  refine V_istore_n X dX12_isPassed_1 (by decide) rfl ?_
  refine V_iconst X (nI 0) dX12_isPassed_2 (by decide) ?_
  refine V_istore_n X dX12_isPassed_3 (by decide) rfl ?_
  refine V_iconst X (nI 0) dX12_isPassed_4 (by decide) ?_
  refine V_istore X dX12_isPassed_5 (by decide) rfl ?_
  have L_7 : ∀ (fz_7 : Nat) (x : Nat) (z : Nat) (p : Nat) (hp : p ≤ to 0) (hx : x = orS (fun q => s q / 6 < ln) p) (hz : z = orS (fun q => ln < s q / 6) p), (to 0 - p) < fz_7 → V C 0 0 [gMod G a (nF tx) (nF to) (nF dr) (nF be) (nF s) (nF pa) (nF im) (nF ke) (nF no) (nF fa) (lN tr) (nI ty) (nI kn) (nI nd) (nI att) (nI so) (nI ss) (iI va)] 7 [some (.ref (a 0)), some (.int (nI ln)), some (.int (nI x)), some (.int (nI z)), some (.int (nI p))] [] := by
    intro fz_7
    induction fz_7 with
    | zero => intro x z p hp hx hz hf_7; exact absurd hf_7 (Nat.not_lt_zero _)
    | succ fz_7 ih_7 =>
      intro x z p hp hx hz hf_7
      refine V_iload X dX12_isPassed_7 rfl ?_
      refine V_aload_n X dX12_isPassed_9 rfl ?_
      refine V_get X fl_X12_13 0 0 rfl rfl rfl dX12_isPassed_10 ?_
      refine V_iconst X (nI 0) dX12_isPassed_13 (by decide) ?_
      refine V_ialdN X 0 2 rfl rfl (by decide) (by decide) dX12_isPassed_14 ?_
      refine V_icmp_geN X 74 dX12_isPassed_15 (by decide) (by omega) (by omega) (fun c_1 => ?_) (fun c_1 => ?_)
      · have hA : bSum (fun j => to (9 + j)) x (to 0) = vFor s (fun j => to (9 + j)) ln (to 0) := by rw [hx, show p = to 0 by omega]; exact bSum_for _ _ _ _ _ (Nat.le_refl _)
        have hB : bSum (fun j => to (9 + j)) z (to 0) = vAg s (fun j => to (9 + j)) ln (to 0) := by rw [hz, show p = to 0 by omega]; exact bSum_ag _ _ _ _ _ (Nat.le_refl _)
        have hA9 := bSum_le (f := (fun j => to (9 + j))) x (to 0) (fun j hj => hvo j (by omega))
        have hB9 := bSum_le (f := (fun j => to (9 + j))) z (to 0) (fun j hj => hvo j (by omega))
        have hx5 : x < 32 := by rw [hx]; exact orS_le5 _ (by omega)
        have hz5 : z < 32 := by rw [hz]; exact orS_le5 _ (by omega)
        refine V_aload_n X dX12_isPassed_74 rfl ?_
        refine V_iload_n X dX12_isPassed_75 rfl ?_
        refine V_callV (rest := []) X (c_X12_voices (Cl C) G a tx to dr be s pa im ke no fa tr ty kn nd att so ss va x (by first | assumption | omega) (by first | assumption | omega) (by first | assumption | omega)) mi_X12_voices kw_4_119 kw_4_121 kw_s_39 dX12_isPassed_76 [0] rfl (by decide) 0 0 rfl rfl rfl rfl rfl rfl (by decide) (Nat.le_of_ble_eq_true rfl) ⟨rfl, rfl⟩ (fun _ _ => ?_)
        show V C 0 0 [gMod G a (nF tx) (nF to) (nF dr) (nF be) (nF s) (nF pa) (nF im) (nF ke) (nF no) (nF fa) (lN tr) (nI ty) (nI kn) (nI nd) (nI att) (nI so) (nI ss) (iI va)] 79 [some (.ref (a 0)), some (.int (nI ln)), some (.int (nI x)), some (.int (nI z)), some (.int (nI p))] [.int (nI (bSum (fun j => to (9 + j)) x (to 0)))]
        refine V_aload_n X dX12_isPassed_79 rfl ?_
        refine V_iload_n X dX12_isPassed_80 rfl ?_
        refine V_callV (rest := [.int (nI (bSum (fun j => to (9 + j)) x (to 0)))]) X (c_X12_voices (Cl C) G a tx to dr be s pa im ke no fa tr ty kn nd att so ss va z (by first | assumption | omega) (by first | assumption | omega) (by first | assumption | omega)) mi_X12_voices kw_4_119 kw_4_121 kw_s_39 dX12_isPassed_81 [0] rfl (by decide) 0 0 rfl rfl rfl rfl rfl rfl (by decide) (Nat.le_of_ble_eq_true rfl) ⟨rfl, rfl⟩ (fun _ _ => ?_)
        show V C 0 0 [gMod G a (nF tx) (nF to) (nF dr) (nF be) (nF s) (nF pa) (nF im) (nF ke) (nF no) (nF fa) (lN tr) (nI ty) (nI kn) (nI nd) (nI att) (nI so) (nI ss) (iI va)] 84 [some (.ref (a 0)), some (.int (nI ln)), some (.int (nI x)), some (.int (nI z)), some (.int (nI p))] [.int (nI (bSum (fun j => to (9 + j)) z (to 0))), .int (nI (bSum (fun j => to (9 + j)) x (to 0)))]
        refine V_icmp_leN X 91 dX12_isPassed_84 (by decide) (by omega) (by omega) (fun c_2 => ?_) (fun c_2 => ?_)
        · refine V_iconst X (nI 0) dX12_isPassed_91 (by decide) ?_
          exact V_iret X Y 0 (by omega) rfl rfl rfl dX12_isPassed_92
        · refine V_iconst X (nI 1) dX12_isPassed_87 (by decide) ?_
          refine V_goto X 92 dX12_isPassed_88 (by decide) ?_
          exact V_iret X Y 1 (by omega) rfl rfl rfl dX12_isPassed_92
      · have hsp := hs p (by omega)
        refine V_iload_n X dX12_isPassed_18 rfl ?_
        refine V_aload_n X dX12_isPassed_19 rfl ?_
        refine V_get X fl_X12_22 0 0 rfl rfl rfl dX12_isPassed_20 ?_
        refine V_iload X dX12_isPassed_23 rfl ?_
        refine V_ialdN X 0 5 rfl rfl (by omega) (by decide) dX12_isPassed_25 ?_
        refine V_bipush X (nI 6) dX12_isPassed_26 (by decide) ?_
        refine V_idivN X dX12_isPassed_28 (by omega) (by omega) (by omega) ?_
        refine V_iload_n X dX12_isPassed_29 rfl ?_
        have J_41_3 : ∀ (e : Nat) (he : e = if s p / 6 < ln then 2 ^ p else 0), V C 0 0 [gMod G a (nF tx) (nF to) (nF dr) (nF be) (nF s) (nF pa) (nF im) (nF ke) (nF no) (nF fa) (lN tr) (nI ty) (nI kn) (nI nd) (nI att) (nI so) (nI ss) (iI va)] 41 [some (.ref (a 0)), some (.int (nI ln)), some (.int (nI x)), some (.int (nI z)), some (.int (nI p))] [.int (nI e), .int (nI x)] := by
          intro e he
          refine V_iorN X dX12_isPassed_41 ?_
          refine V_istore_n X dX12_isPassed_42 (by decide) rfl ?_
          refine V_iload_n X dX12_isPassed_43 rfl ?_
          refine V_aload_n X dX12_isPassed_44 rfl ?_
          refine V_get X fl_X12_22 0 0 rfl rfl rfl dX12_isPassed_45 ?_
          refine V_iload X dX12_isPassed_48 rfl ?_
          refine V_ialdN X 0 5 rfl rfl (by omega) (by decide) dX12_isPassed_50 ?_
          refine V_bipush X (nI 6) dX12_isPassed_51 (by decide) ?_
          refine V_idivN X dX12_isPassed_53 (by omega) (by omega) (by omega) ?_
          refine V_iload_n X dX12_isPassed_54 rfl ?_
          have J_66_4 : ∀ (f : Nat) (hf : f = if ln < s p / 6 then 2 ^ p else 0), V C 0 0 [gMod G a (nF tx) (nF to) (nF dr) (nF be) (nF s) (nF pa) (nF im) (nF ke) (nF no) (nF fa) (lN tr) (nI ty) (nI kn) (nI nd) (nI att) (nI so) (nI ss) (iI va)] 66 [some (.ref (a 0)), some (.int (nI ln)), some (.int (nI (x ||| e))), some (.int (nI z)), some (.int (nI p))] [.int (nI f), .int (nI z)] := by
            intro f hf
            refine V_iorN X dX12_isPassed_66 ?_
            refine V_istore_n X dX12_isPassed_67 (by decide) rfl ?_
            refine V_iincN X (c := 1) dX12_isPassed_68 rfl (by decide) rfl ?_
            refine V_goto X 7 dX12_isPassed_71 (by decide) ?_
            refine V_weak (lv' := [some (.ref (a 0)), some (.int (nI ln)), some (.int (nI (x ||| e))), some (.int (nI (z ||| f))), some (.int (nI (p + 1)))]) (And.intro rfl (And.intro rfl (And.intro rfl (And.intro rfl (And.intro rfl trivial))))) ?_
            exact ih_7 (x ||| e) (z ||| f) (p + 1) (by omega) (by rw [hx, he]; rfl) (by rw [hz, hf]; rfl) (by omega)
          refine V_icmp_leN X 65 dX12_isPassed_55 (by decide) (by omega) (by omega) (fun c_4 => ?_) (fun c_4 => ?_)
          · refine V_iconst X (nI 0) dX12_isPassed_65 (by decide) ?_
            refine V_weak (lv' := [some (.ref (a 0)), some (.int (nI ln)), some (.int (nI (x ||| e))), some (.int (nI z)), some (.int (nI p))]) (And.intro rfl (And.intro rfl (And.intro rfl (And.intro rfl (And.intro rfl trivial))))) ?_
            exact J_66_4 0 (by first | rw [if_pos (by omega)] | rw [if_neg (by omega)])
          · refine V_iconst X (nI 1) dX12_isPassed_58 (by decide) ?_
            refine V_iload X dX12_isPassed_59 rfl ?_
            refine V_ishl1N X dX12_isPassed_61 (by omega) ?_
            refine V_goto X 66 dX12_isPassed_62 (by decide) ?_
            refine V_weak (lv' := [some (.ref (a 0)), some (.int (nI ln)), some (.int (nI (x ||| e))), some (.int (nI z)), some (.int (nI p))]) (And.intro rfl (And.intro rfl (And.intro rfl (And.intro rfl (And.intro rfl trivial))))) ?_
            exact J_66_4 (2 ^ p) (by first | rw [if_pos (by omega)] | rw [if_neg (by omega)])
        refine V_icmp_geN X 40 dX12_isPassed_30 (by decide) (by omega) (by omega) (fun c_3 => ?_) (fun c_3 => ?_)
        · refine V_iconst X (nI 0) dX12_isPassed_40 (by decide) ?_
          refine V_weak (lv' := [some (.ref (a 0)), some (.int (nI ln)), some (.int (nI x)), some (.int (nI z)), some (.int (nI p))]) (And.intro rfl (And.intro rfl (And.intro rfl (And.intro rfl (And.intro rfl trivial))))) ?_
          exact J_41_3 0 (by first | rw [if_pos (by omega)] | rw [if_neg (by omega)])
        · refine V_iconst X (nI 1) dX12_isPassed_33 (by decide) ?_
          refine V_iload X dX12_isPassed_34 rfl ?_
          refine V_ishl1N X dX12_isPassed_36 (by omega) ?_
          refine V_goto X 41 dX12_isPassed_37 (by decide) ?_
          refine V_weak (lv' := [some (.ref (a 0)), some (.int (nI ln)), some (.int (nI x)), some (.int (nI z)), some (.int (nI p))]) (And.intro rfl (And.intro rfl (And.intro rfl (And.intro rfl (And.intro rfl trivial))))) ?_
          exact J_41_3 (2 ^ p) (by first | rw [if_pos (by omega)] | rw [if_neg (by omega)])
  refine V_weak (lv' := [some (.ref (a 0)), some (.int (nI ln)), some (.int (nI 0)), some (.int (nI 0)), some (.int (nI 0))]) (And.intro rfl (And.intro rfl (And.intro rfl (And.intro rfl (And.intro rfl trivial))))) ?_
  exact L_7 _ 0 0 0 (by omega) rfl rfl (Nat.lt_succ_self _)
set_option maxHeartbeats 4000000 in
set_option maxRecDepth 100000 in
theorem c_X12_lines (l : Launch) (G : mvG) (a : Nat → Nat) (tx : Nat → Nat) (to : Nat → Nat) (dr : Nat → Nat) (be : Nat → Nat) (s : Nat → Nat) (pa : Nat → Nat) (im : Nat → Nat) (ke : Nat → Nat) (no : Nat → Nat) (fa : Nat → Nat) (tr : Nat) (ty : Nat) (kn : Nat) (nd : Nat) (att : Nat) (so : Nat) (ss : Nat) (va : Int) (hn : to 0 ≤ 5) (hvo : ∀ j, j < 5 → to (9 + j) ≤ 9) (hs : ∀ j, j < 5 → s j < 36) : KQ l yX12_lines cX12_lines 3 (some .int) (3, 68) G [.ref (a 0)] [gMod G a (nF tx) (nF to) (nF dr) (nF be) (nF s) (nF pa) (nF im) (nF ke) (nF no) (nF fa) (lN tr) (nI ty) (nI kn) (nI nd) (nI att) (nI so) (nI ss) (iI va)] (fun (_ : Unit) => some (.int (nI (lns s (fun j => to (9 + j)) (to 0) 6)))) (fun (_ : Unit) => True) (fun (_ : Unit) => [gMod G a (nF tx) (nF to) (nF dr) (nF be) (nF s) (nF pa) (nF im) (nF ke) (nF no) (nF fa) (lN tr) (nI ty) (nI kn) (nI nd) (nI att) (nI so) (nI ss) (iI va)]) := by
  refine KQ.mk (by decide +kernel) (fun _ _ => rfl) [some (.ref (a 0)), none, none] (Nat.le_of_ble_eq_true rfl) rfl (fun C X Y hC => ?_)
  subst hC
  refine V_iconst X (nI 0) dX12_lines_0 (by decide) ?_
  refine V_istore_n X dX12_lines_1 (by decide) rfl ?_
  refine V_iconst X (nI 0) dX12_lines_2 (by decide) ?_
  refine V_istore_n X dX12_lines_3 (by decide) rfl ?_
  have L_4 : ∀ (fz_4 : Nat) (y : Nat) (ln : Nat) (hp : ln ≤ 6) (hy : y = lns s (fun j => to (9 + j)) (to 0) ln), (6 - ln) < fz_4 → V C 0 0 [gMod G a (nF tx) (nF to) (nF dr) (nF be) (nF s) (nF pa) (nF im) (nF ke) (nF no) (nF fa) (lN tr) (nI ty) (nI kn) (nI nd) (nI att) (nI so) (nI ss) (iI va)] 4 [some (.ref (a 0)), some (.int (nI y)), some (.int (nI ln))] [] := by
    intro fz_4
    induction fz_4 with
    | zero => intro y ln hp hy hf_4; exact absurd hf_4 (Nat.not_lt_zero _)
    | succ fz_4 ih_4 =>
      intro y ln hp hy hf_4
      refine V_iload_n X dX12_lines_4 rfl ?_
      refine V_bipush X (nI 6) dX12_lines_5 (by decide) ?_
      refine V_icmp_geN X 34 dX12_lines_7 (by decide) (by omega) (by decide) (fun c_1 => ?_) (fun c_1 => ?_)
      · refine V_iload_n X dX12_lines_34 rfl ?_
        exact V_iret X Y () trivial (mv_rn (by rw [hy, show ln = 6 by omega])) rfl rfl dX12_lines_35
      · refine V_iload_n X dX12_lines_10 rfl ?_
        refine V_aload_n X dX12_lines_11 rfl ?_
        refine V_iload_n X dX12_lines_12 rfl ?_
        refine V_callV (rest := [.int (nI y)]) X (c_X12_isPassed (Cl C) G a tx to dr be s pa im ke no fa tr ty kn nd att so ss va ln (by first | assumption | omega) (by first | assumption | omega) (by first | assumption | omega) (by first | assumption | omega)) mi_X12_isPassed kw_4_115 kw_4_117 kw_s_38 dX12_lines_13 [0] rfl (by decide) 0 0 rfl rfl rfl rfl rfl rfl (by decide) (Nat.le_of_ble_eq_true rfl) ⟨rfl, rfl⟩ (fun u_ hu_3 => ?_)
        obtain ⟨b_2, rfl⟩ : ∃ z, z = u_ := ⟨_, rfl⟩
        have hu_3 : (b_2 = 1 ∧ vAg s (fun j => to (9 + j)) ln (to 0) < vFor s (fun j => to (9 + j)) ln (to 0)) ∨ (b_2 = 0 ∧ ¬ vAg s (fun j => to (9 + j)) ln (to 0) < vFor s (fun j => to (9 + j)) ln (to 0)) := hu_3
        show V C 0 0 [gMod G a (nF tx) (nF to) (nF dr) (nF be) (nF s) (nF pa) (nF im) (nF ke) (nF no) (nF fa) (lN tr) (nI ty) (nI kn) (nI nd) (nI att) (nI so) (nI ss) (iI va)] 16 [some (.ref (a 0)), some (.int (nI y)), some (.int (nI ln))] [.int (nI b_2), .int (nI y)]
        have J_26_4 : ∀ (e : Nat) (he : e = if vAg s (fun j => to (9 + j)) ln (to 0) < vFor s (fun j => to (9 + j)) ln (to 0) then 2 ^ ln else 0), V C 0 0 [gMod G a (nF tx) (nF to) (nF dr) (nF be) (nF s) (nF pa) (nF im) (nF ke) (nF no) (nF fa) (lN tr) (nI ty) (nI kn) (nI nd) (nI att) (nI so) (nI ss) (iI va)] 26 [some (.ref (a 0)), some (.int (nI y)), some (.int (nI ln))] [.int (nI e), .int (nI y)] := by
          intro e he
          refine V_iorN X dX12_lines_26 ?_
          refine V_istore_n X dX12_lines_27 (by decide) rfl ?_
          refine V_iincN X (c := 1) dX12_lines_28 rfl (by decide) rfl ?_
          refine V_goto X 4 dX12_lines_31 (by decide) ?_
          refine V_weak (lv' := [some (.ref (a 0)), some (.int (nI (y ||| e))), some (.int (nI (ln + 1)))]) (And.intro rfl (And.intro rfl (And.intro rfl trivial))) ?_
          exact ih_4 (y ||| e) (ln + 1) (by omega) (by rw [hy, he]; rfl) (by omega)
        refine V_if_eqN X 25 dX12_lines_16 (by decide) (by omega) (fun c_4 => ?_) (fun c_4 => ?_)
        · refine V_iconst X (nI 0) dX12_lines_25 (by decide) ?_
          refine V_weak (lv' := [some (.ref (a 0)), some (.int (nI y)), some (.int (nI ln))]) (And.intro rfl (And.intro rfl (And.intro rfl trivial))) ?_
          exact J_26_4 0 (by first | rw [if_pos (by omega)] | rw [if_neg (by omega)])
        · refine V_iconst X (nI 1) dX12_lines_19 (by decide) ?_
          refine V_iload_n X dX12_lines_20 rfl ?_
          refine V_ishl1N X dX12_lines_21 (by omega) ?_
          refine V_goto X 26 dX12_lines_22 (by decide) ?_
          refine V_weak (lv' := [some (.ref (a 0)), some (.int (nI y)), some (.int (nI ln))]) (And.intro rfl (And.intro rfl (And.intro rfl trivial))) ?_
          exact J_26_4 (2 ^ ln) (by first | rw [if_pos (by omega)] | rw [if_neg (by omega)])
  refine V_weak (lv' := [some (.ref (a 0)), some (.int (nI 0)), some (.int (nI 0))]) (And.intro rfl (And.intro rfl (And.intro rfl trivial))) ?_
  exact L_4 _ 0 0 (by omega) rfl (Nat.lt_succ_self _)
