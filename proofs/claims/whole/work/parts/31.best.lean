def hiM (k t : Nat) : Nat := if t < k then 25 else 26
def loM (k t a : Nat) : Nat := if t < k then a + 1 else 25
def tvM (k t : Nat) (T : Nat → Nat) (b : Nat) : Nat := if t < k then T b else 0
theorem hiM_c (k t : Nat) : (t < k ∧ hiM k t = 25) ∨ (k ≤ t ∧ hiM k t = 26) := by
  unfold hiM
  split <;> omega
theorem loM_c (k t a : Nat) : (t < k ∧ loM k t a = a + 1) ∨ (k ≤ t ∧ loM k t a = 25) := by
  unfold loM
  split <;> omega
def mayB (k a b c : Nat) : Bool := (decide (k < 2) || aprB a b) && (decide (k < 3) || (aprB a c && aprB b c))
def mayP (k a b c : Nat) : Prop := (k < 2 ∨ a / 5 + 1 < b / 5 ∨ b / 5 + 1 < a / 5 ∨ a % 5 + 1 < b % 5 ∨ b % 5 + 1 < a % 5) ∧ (k < 3 ∨ ((a / 5 + 1 < c / 5 ∨ c / 5 + 1 < a / 5 ∨ a % 5 + 1 < c % 5 ∨ c % 5 + 1 < a % 5) ∧ (b / 5 + 1 < c / 5 ∨ c / 5 + 1 < b / 5 ∨ b % 5 + 1 < c % 5 ∨ c % 5 + 1 < b % 5)))
theorem mayB_iff (k a b c : Nat) : mayB k a b c = true ↔ mayP k a b c := by
  simp only [mayB, aprB, mayP, Bool.and_eq_true, Bool.or_eq_true, decide_eq_true_eq]
theorem mayB_f {k a b c : Nat} (h : ¬ mayP k a b c) : ¬ mayB k a b c = true := fun z => h ((mayB_iff k a b c).mp z)
def sumM (T : Nat → Nat) (k a b c : Nat) : Int := if mayB k a b c = true then ((T a + tvM k 1 T b + tvM k 2 T c : Nat) : Int) else -1
theorem tvM_le {T : Nat → Nat} {k t b : Nat} (h : t < k → T b ≤ 36) : tvM k t T b ≤ 36 := by
  unfold tvM
  split
  · rename_i e
    exact h e
  · omega
theorem sumM_le {T : Nat → Nat} {k a b c : Nat} (ha : T a ≤ 36) (hb : 1 < k → T b ≤ 36) (hc : 2 < k → T c ≤ 36) : -1 ≤ sumM T k a b c ∧ sumM T k a b c ≤ 108 := by
  have h1 := tvM_le hb
  have h2 := tvM_le hc
  unfold sumM
  split <;> omega
def itM (i : Int) (a b c : Nat) : Nat := if i = 0 then a else if i = 1 then b else c
def stM (T : Nat → Nat) (k : Nat) (i : Int) (a b c : Nat) (X : Int × Int) : Int × Int := if X.1 < sumM T k a b c then (sumM T k a b c, (itM i a b c : Int)) else X
theorem stM_eq {T : Nat → Nat} {k : Nat} {i : Int} {a b c : Nat} {m z m' z' sm : Int} {its : Nat} (hs : sm = sumM T k a b c) (hi : its = itM i a b c) (hz : z' = if m < sm then (its : Int) else z) (hm : m' = if m < sm then sm else m) : (m', z') = stM T k i a b c (m, z) := by
  subst hs hi hz hm
  unfold stM
  dsimp only
  split <;> rfl
def mC (T : Nat → Nat) (k : Nat) (i : Int) (a b : Nat) (X : Int × Int) : Int × Int := lpU (stM T k i a b) (hiM k 2 - loM k 2 b) (loM k 2 b) X
def mB (T : Nat → Nat) (k : Nat) (i : Int) (a : Nat) (X : Int × Int) : Int × Int := lpU (mC T k i a) (hiM k 1 - loM k 1 a) (loM k 1 a) X
def mA (T : Nat → Nat) (k : Nat) (i : Int) : Int × Int := lpU (mB T k i) (25 - 0) 0 (-1, -9)
def mBest (T : Nat → Nat) (k i : Int) : Int := if 1 ≤ k ∧ k ≤ 3 ∧ -1 ≤ i ∧ i < 3 then (if k ≤ i then -9 else if i < 0 then (mA T k.toNat i).1 else 10 * ((mA T k.toNat i).2 / 5) + (mA T k.toNat i).2 % 5) else -1
/-- two loops side by side -/
theorem lpU_rel {σ τ : Type} {R : σ → τ → Prop} {f : Nat → σ → σ} {g : Nat → τ → τ} {N : Nat} (h : ∀ j x y, j < N → R x y → R (f j x) (g j y)) : ∀ c lo x y, lo + c ≤ N → R x y → R (lpU f c lo x) (lpU g c lo y)
  | 0, _, _, _, _, hx => hx
  | c + 1, lo, x, y, hl, hx => lpU_rel h c (lo + 1) _ _ (by omega) (h lo x y (by omega) hx)
def bR (k : Nat) (i : Int) (x : BSt) (y : Int × Int) : Prop := x.1 = y.1 ∧ ((x.1 = -1 ∧ y.2 = -9) ∨ (0 ≤ x.1 ∧ 0 ≤ y.2 ∧ y.2 < 26 ∧ (0 ≤ i → i < (k : Int) → y.2 = x.2 i.toNat)))
theorem sv25_nat (T : Nat → Nat) {f : Nat} (h : f < 25) : sv25 T (f : Int) = T f := by
  unfold sv25
  rw [if_pos (by omega)]
  rfl
theorem sv25_9 (T : Nat → Nat) : sv25 T (-9) = 0 := rfl
theorem bR_step {T : Nat → Nat} {k : Nat} {i f s t : Int} {a b c : Nat} {x : BSt} {y : Int × Int} (hx : bR k i x y) (hm : mayB k a b c = true) (hs : sv25 T f + sv25 T s + sv25 T t = T a + tvM k 1 T b + tvM k 2 T c) (hl : a < 26 ∧ b < 26 ∧ c < 26) (h0 : f = (a : Int)) (h1 : 1 < k → s = (b : Int)) (h2 : 2 < k → t = (c : Int)) (hk : k ≤ 3) : bR k i (wst T x f s t) (stM T k i a b c y) := by
  obtain ⟨e, h⟩ := hx
  unfold wst stM sumM
  rw [if_pos hm, hs, ← e]
  by_cases g : x.1 < ((T a + tvM k 1 T b + tvM k 2 T c : Nat) : Int)
  · rw [if_pos g, if_pos g]
    have hi : itM i a b c < 26 := by
      unfold itM
      (repeat' split) <;> omega
    refine ⟨rfl, Or.inr ⟨by dsimp only; omega, by dsimp only; omega, by dsimp only; omega, fun i1 i2 => ?_⟩⟩
    dsimp only
    simp only [va_up, itM]
    rcases (show i = 0 ∨ i = 1 ∨ i = 2 by omega) with rfl | rfl | rfl
    · simp [h0]
    · simp [h1 (by omega)]
    · simp [h2 (by omega)]
  · rw [if_neg g, if_neg g]
    exact ⟨e, h⟩
theorem bR_no {T : Nat → Nat} {k : Nat} {i : Int} {a b c : Nat} {x : BSt} {y : Int × Int} (hx : bR k i x y) (hm : ¬ mayB k a b c = true) : bR k i x (stM T k i a b c y) := by
  have h : -1 ≤ y.1 := by
    rcases hx.2 with h | h
    · have := hx.1
      omega
    · have := hx.1
      omega
  unfold stM sumM
  rw [if_neg hm, if_neg (by omega)]
  exact hx
theorem lpU_1 {σ : Type} (f : Nat → σ → σ) (lo : Nat) (x : σ) : lpU f 1 lo x = f lo x := rfl
theorem mC_lo {T : Nat → Nat} {k : Nat} {i : Int} {a b : Nat} {X : Int × Int} (hk : k ≤ 2) : mC T k i a b X = stM T k i a b 25 X := by
  have h1 := hiM_c k 2
  have h2 := loM_c k 2 b
  unfold mC
  rw [show loM k 2 b = 25 by omega, show hiM k 2 = 26 by omega]
  rfl
theorem mB_lo {T : Nat → Nat} {i : Int} {a : Nat} {X : Int × Int} : mB T 1 i a X = stM T 1 i a 25 25 X := by
  show mC T 1 i a 25 X = _
  exact mC_lo (by omega)
theorem mC_hi {T : Nat → Nat} {i : Int} {a b : Nat} {X : Int × Int} : mC T 3 i a b X = lpU (stM T 3 i a b) (25 - (b + 1)) (b + 1) X := rfl
theorem mB_hi {T : Nat → Nat} {k : Nat} {i : Int} {a : Nat} {X : Int × Int} (hk : 1 < k) : mB T k i a X = lpU (mC T k i a) (25 - (a + 1)) (a + 1) X := by
  have h1 := hiM_c k 1
  have h2 := loM_c k 1 a
  unfold mB
  rw [show loM k 1 a = a + 1 by omega, show hiM k 1 = 25 by omega]
theorem bR_1 {T : Nat → Nat} {i : Int} {a : Nat} {x : BSt} {y : Int × Int} (ha : a < 25) (hx : bR 1 i x y) : bR 1 i (row1 T 1 a x) (mB T 1 i a y) := by
  rw [mB_lo]
  unfold row1
  rw [if_pos rfl]
  exact bR_step hx rfl (by rw [sv25_nat T ha, sv25_9]; rfl) (by omega) rfl (fun h => by omega) (fun h => by omega) (by omega)
theorem bR_2 {T : Nat → Nat} {i : Int} {a b : Nat} {x : BSt} {y : Int × Int} (ha : a < 25) (hb : b < 25) (hx : bR 2 i x y) : bR 2 i (row2 T 2 a b x) (mC T 2 i a b y) := by
  rw [mC_lo (by omega)]
  unfold row2
  by_cases e : aprB a b = true
  · rw [if_pos e, if_pos rfl]
    exact bR_step hx (by simp [mayB, e]) (by rw [sv25_nat T ha, sv25_nat T hb, sv25_9]; rfl) (by omega) rfl (fun h => rfl) (fun h => by omega) (by omega)
  · rw [if_neg e]
    exact bR_no hx (by simp [mayB, e])
theorem bR_3 {T : Nat → Nat} {i : Int} {a b : Nat} {x : BSt} {y : Int × Int} (ha : a < 25) (hb : b < 25) (hx : bR 3 i x y) : bR 3 i (row2 T 3 a b x) (mC T 3 i a b y) := by
  rw [mC_hi]
  unfold row2
  by_cases e : aprB a b = true
  · rw [if_pos e, if_neg (by omega)]
    refine lpU_rel (N := 25) (fun c x y hc hx => ?_) _ _ _ _ (by omega) hx
    unfold row3
    by_cases g : (aprB a c && aprB b c) = true
    · rw [if_pos g]
      exact bR_step hx (by simp [mayB, e, g]) (by rw [sv25_nat T ha, sv25_nat T hb, sv25_nat T hc]; rfl) (by omega) rfl (fun h => rfl) (fun h => rfl) (by omega)
    · rw [if_neg g]
      exact bR_no hx (by simp only [mayB, e]; simpa using g)
  · rw [if_neg e]
    have hno : ∀ c lo y, bR 3 i x y → bR 3 i x (lpU (stM T 3 i a b) c lo y) := fun c => by
      induction c with
      | zero => exact fun _ _ h => h
      | succ c ih => exact fun lo y h => ih (lo + 1) _ (bR_no h (by simp [mayB, e]))
    exact hno _ _ _ hx
theorem bR_all {T : Nat → Nat} {k : Nat} {i : Int} {B : Nat → Int} (hk : 1 ≤ k ∧ k ≤ 3) : bR k i (seek1 T k (-1, B)) (mA T k i) := by
  unfold seek1 mA
  refine lpU_rel (N := 25) (fun a x y ha hx => ?_) _ _ _ _ (by omega) ⟨rfl, Or.inl ⟨rfl, rfl⟩⟩
  rcases (show k = 1 ∨ k = 2 ∨ k = 3 by omega) with rfl | rfl | rfl
  · exact bR_1 ha hx
  · rw [mB_hi (by omega)]
    unfold row1
    rw [if_neg (by omega)]
    exact lpU_rel (R := bR 2 i) (f := row2 T 2 a) (g := mC T 2 i a) (N := 25) (fun b x y hb hx => bR_2 ha hb hx) (25 - (a + 1)) (a + 1) x y (by omega) hx
  · rw [mB_hi (by omega)]
    unfold row1
    rw [if_neg (by omega)]
    exact lpU_rel (R := bR 3 i) (f := row2 T 3 a) (g := mC T 3 i a) (N := 25) (fun b x y hb hx => bR_3 ha hb hx) (25 - (a + 1)) (a + 1) x y (by omega) hx
theorem mA_ok (T : Nat → Nat) {k : Nat} (i : Int) (hk : 1 ≤ k ∧ k ≤ 3) : 0 ≤ (mA T k i).1 ∧ 0 ≤ (mA T k i).2 ∧ (mA T k i).2 < 26 := by
  have h1 := bR_all (T := T) (i := i) (B := fun _ => 0) hk
  have h2 := (seek1_ok (T := T) (B := fun _ => 0) hk).1
  have h3 := h1.1
  rcases h1.2 with h | h
  · omega
  · exact ⟨by omega, h.2.1, h.2.2.1⟩
theorem mBest_eq (d : Nat → Nat) (B : Nat → Int) (k i : Int) : spBest d B k i = mBest (trT d) k i := by
  unfold spBest mBest
  by_cases e : 1 ≤ k ∧ k ≤ 3 ∧ -1 ≤ i ∧ i < 3
  · rw [if_pos e, if_pos e]
    have h := bR_all (T := trT d) (k := k.toNat) (i := i) (B := B) (by omega)
    by_cases f : k ≤ i
    · rw [if_pos f, if_pos f]
    · rw [if_neg f, if_neg f]
      by_cases g : i < 0
      · rw [if_pos g, if_pos g]
        exact h.1
      · rw [if_neg g, if_neg g]
        have h2 := (seek1_ok (T := trT d) (k := k.toNat) (B := B) (by omega)).1
        rw [(h.2.resolve_left (by omega)).2.2.2 (by omega) (by omega)]
  · rw [if_neg e, if_neg e]
set_option maxHeartbeats 4000000 in
set_option maxRecDepth 100000 in
theorem c_X12_areApart (l : Launch) (G : mvG) (t : Nat) (o : Nat) (ht : t < 25) (ho : o < 25) : KQ l yX12_areApart cX12_areApart 4 (some .boolean) (1, 22) G [.int (nI t), .int (nI o)] [] (fun (zz : Nat) => some (.int (nI zz))) (fun (zz : Nat) => (zz = 1 ∧ (t / 5 + 1 < o / 5 ∨ o / 5 + 1 < t / 5 ∨ t % 5 + 1 < o % 5 ∨ o % 5 + 1 < t % 5)) ∨ (zz = 0 ∧ (t / 5 ≤ o / 5 + 1 ∧ o / 5 ≤ t / 5 + 1 ∧ t % 5 ≤ o % 5 + 1 ∧ o % 5 ≤ t % 5 + 1))) (fun (zz : Nat) => []) := by
  refine KQ.mk (by decide +kernel) (fun _ _ => rfl) [some (.int (nI t)), some (.int (nI o)), none, none] (Nat.le_of_ble_eq_true rfl) rfl (fun C X Y hC => ?_)
  subst hC
  refine V_iload_n X dX12_areApart_0 rfl ?_
  refine V_iconst X (nI 5) dX12_areApart_1 (by decide) ?_
  refine V_idivN X dX12_areApart_2 (by omega) (by omega) (by omega) ?_
  refine V_iload_n X dX12_areApart_3 rfl ?_
  refine V_iconst X (nI 5) dX12_areApart_4 (by decide) ?_
  refine V_idivN X dX12_areApart_5 (by omega) (by omega) (by omega) ?_
  refine V_two (show (nI (t / 5)) = iI ((t / 5 : Nat) : Int) from rfl) (show (nI (o / 5)) = iI ((o / 5 : Nat) : Int) from rfl) ?_
  refine V_isubS X dX12_areApart_6 ?_
  refine V_istore_n X dX12_areApart_7 (by decide) rfl ?_
  refine V_iload_n X dX12_areApart_8 rfl ?_
  refine V_iconst X (nI 5) dX12_areApart_9 (by decide) ?_
  refine V_iremN X dX12_areApart_10 (by omega) (by omega) (by omega) ?_
  refine V_iload_n X dX12_areApart_11 rfl ?_
  refine V_iconst X (nI 5) dX12_areApart_12 (by decide) ?_
  refine V_iremN X dX12_areApart_13 (by omega) (by omega) (by omega) ?_
  refine V_two (show (nI (t % 5)) = iI ((t % 5 : Nat) : Int) from rfl) (show (nI (o % 5)) = iI ((o % 5 : Nat) : Int) from rfl) ?_
  refine V_isubS X dX12_areApart_14 ?_
  refine V_istore_n X dX12_areApart_15 (by decide) rfl ?_
  refine V_iload_n X dX12_areApart_16 rfl ?_
  refine V_iconst X (-1) dX12_areApart_17 (by decide) ?_
  refine V_iconst X (nI 1) dX12_areApart_18 (by decide) ?_
  refine V_callS (rest := []) X (c_X12_in (Cl C) G (((t / 5 : Nat) : Int) - ((o / 5 : Nat) : Int)) (-1) ((1 : Nat) : Int) (by first | assumption | omega) (by first | assumption | omega) (by first | assumption | omega)) mi_X12_in kw_3_235 kw_3_236 dX12_areApart_19 [] rfl (by decide) rfl rfl (by decide) (Nat.le_of_ble_eq_true rfl) ⟨rfl, rfl⟩ (fun u_ hu_2 => ?_)
  obtain ⟨b_1, rfl⟩ : ∃ z, z = u_ := ⟨_, rfl⟩
  have hu_2 : (b_1 = 1 ∧ (-1) ≤ (((t / 5 : Nat) : Int) - ((o / 5 : Nat) : Int)) ∧ (((t / 5 : Nat) : Int) - ((o / 5 : Nat) : Int)) ≤ ((1 : Nat) : Int)) ∨ (b_1 = 0 ∧ ((((t / 5 : Nat) : Int) - ((o / 5 : Nat) : Int)) < (-1) ∨ ((1 : Nat) : Int) < (((t / 5 : Nat) : Int) - ((o / 5 : Nat) : Int)))) := hu_2
  show V C 0 0 [] 22 [some (.int (nI t)), some (.int (nI o)), some (.int (iI (((t / 5 : Nat) : Int) - ((o / 5 : Nat) : Int)))), some (.int (iI (((t % 5 : Nat) : Int) - ((o % 5 : Nat) : Int))))] [.int (nI b_1)]
  refine V_if_eqN X 34 dX12_areApart_22 (by decide) (by omega) (fun c_3 => ?_) (fun c_3 => ?_)
  · refine V_iconst X (nI 1) dX12_areApart_34 (by decide) ?_
    refine V_goto X 39 dX12_areApart_35 (by decide) ?_
    exact V_iret X Y 1 (by omega) rfl rfl rfl dX12_areApart_39
  · refine V_iload_n X dX12_areApart_25 rfl ?_
    refine V_iconst X (-1) dX12_areApart_26 (by decide) ?_
    refine V_iconst X (nI 1) dX12_areApart_27 (by decide) ?_
    refine V_callS (rest := []) X (c_X12_in (Cl C) G (((t % 5 : Nat) : Int) - ((o % 5 : Nat) : Int)) (-1) ((1 : Nat) : Int) (by first | assumption | omega) (by first | assumption | omega) (by first | assumption | omega)) mi_X12_in kw_3_235 kw_3_236 dX12_areApart_28 [] rfl (by decide) rfl rfl (by decide) (Nat.le_of_ble_eq_true rfl) ⟨rfl, rfl⟩ (fun u_ hu_5 => ?_)
    obtain ⟨b_4, rfl⟩ : ∃ z, z = u_ := ⟨_, rfl⟩
    have hu_5 : (b_4 = 1 ∧ (-1) ≤ (((t % 5 : Nat) : Int) - ((o % 5 : Nat) : Int)) ∧ (((t % 5 : Nat) : Int) - ((o % 5 : Nat) : Int)) ≤ ((1 : Nat) : Int)) ∨ (b_4 = 0 ∧ ((((t % 5 : Nat) : Int) - ((o % 5 : Nat) : Int)) < (-1) ∨ ((1 : Nat) : Int) < (((t % 5 : Nat) : Int) - ((o % 5 : Nat) : Int)))) := hu_5
    show V C 0 0 [] 31 [some (.int (nI t)), some (.int (nI o)), some (.int (iI (((t / 5 : Nat) : Int) - ((o / 5 : Nat) : Int)))), some (.int (iI (((t % 5 : Nat) : Int) - ((o % 5 : Nat) : Int))))] [.int (nI b_4)]
    refine V_if_neN X 38 dX12_areApart_31 (by decide) (by omega) (fun c_6 => ?_) (fun c_6 => ?_)
    · refine V_iconst X (nI 0) dX12_areApart_38 (by decide) ?_
      exact V_iret X Y 0 (by omega) rfl rfl rfl dX12_areApart_39
    · refine V_iconst X (nI 1) dX12_areApart_34 (by decide) ?_
      refine V_goto X 39 dX12_areApart_35 (by decide) ?_
      exact V_iret X Y 1 (by omega) rfl rfl rfl dX12_areApart_39
set_option maxHeartbeats 4000000 in
set_option maxRecDepth 100000 in
theorem c_X12_best (l : Launch) (G : mvG) (a : Nat → Nat) (tx : Nat → Nat) (to : Nat → Nat) (dr : Nat → Nat) (be : Nat → Nat) (s : Nat → Nat) (pa : Nat → Nat) (im : Nat → Nat) (ke : Nat → Nat) (no : Nat → Nat) (fa : Nat → Nat) (tr : Nat) (ty : Nat) (kn : Nat) (nd : Nat) (att : Nat) (so : Nat) (ss : Nat) (va : Int) (x : Int) (y : Int) (hde : ∀ c, c < 36 → s (5 + c) < 80 ∧ s (5 + c) % 16 ≤ 9) (hx : -2147483648 ≤ x ∧ x < 2147483648) (hy : -2147483648 ≤ y ∧ y < 2147483648) : KQ l yX12_best cX12_best 11 (some .int) (2, 45) G [.ref (a 0), .int (iI x), .int (iI y)] [gMod G a (nF tx) (nF to) (nF dr) (nF be) (nF s) (nF pa) (nF im) (nF ke) (nF no) (nF fa) (lN tr) (nI ty) (nI kn) (nI nd) (nI att) (nI so) (nI ss) (iI va)] (fun (_ : Unit) => some (.int (iI (mBest (trT (fun c => s (5 + c) % 16)) x y)))) (fun (_ : Unit) => True) (fun (_ : Unit) => [gMod G a (nF tx) (nF to) (nF dr) (nF be) (nF s) (nF pa) (nF im) (nF ke) (nF no) (nF fa) (lN tr) (nI ty) (nI kn) (nI nd) (nI att) (nI so) (nI ss) (iI va)]) := by
  refine KQ.mk (by decide +kernel) (fun _ _ => rfl) [some (.ref (a 0)), some (.int (iI x)), some (.int (iI y)), none, none, none, none, none, none, none, none] (Nat.le_of_ble_eq_true rfl) rfl (fun C X Y hC => ?_)
  subst hC
  refine V_iload_n X dX12_best_0 rfl ?_
  refine V_iconst X (nI 1) dX12_best_1 (by decide) ?_
  refine V_iconst X (nI 3) dX12_best_2 (by decide) ?_
  refine V_callS (rest := []) X (c_X12_in (Cl C) G x ((1 : Nat) : Int) ((3 : Nat) : Int) (by first | assumption | omega) (by first | assumption | omega) (by first | assumption | omega)) mi_X12_in kw_3_235 kw_3_236 dX12_best_3 [] rfl (by decide) rfl rfl (by decide) (Nat.le_of_ble_eq_true rfl) ⟨rfl, rfl⟩ (fun u_ hu_2 => ?_)
  obtain ⟨b_1, rfl⟩ : ∃ z, z = u_ := ⟨_, rfl⟩
  have hu_2 : (b_1 = 1 ∧ ((1 : Nat) : Int) ≤ x ∧ x ≤ ((3 : Nat) : Int)) ∨ (b_1 = 0 ∧ (x < ((1 : Nat) : Int) ∨ ((3 : Nat) : Int) < x)) := hu_2
  show V C 0 0 [gMod G a (nF tx) (nF to) (nF dr) (nF be) (nF s) (nF pa) (nF im) (nF ke) (nF no) (nF fa) (lN tr) (nI ty) (nI kn) (nI nd) (nI att) (nI so) (nI ss) (iI va)] 6 [some (.ref (a 0)), some (.int (iI x)), some (.int (iI y)), none, none, none, none, none, none, none, none] [.int (nI b_1)]
  refine V_if_eqN X 18 dX12_best_6 (by decide) (by omega) (fun c_3 => ?_) (fun c_3 => ?_)
  · refine V_iconst X (-1) dX12_best_18 (by decide) ?_
    exact V_iret X Y () trivial (mv_ri (by unfold mBest; rw [if_neg (by omega)]; rfl)) rfl rfl dX12_best_19
  · refine V_iload_n X dX12_best_9 rfl ?_
    refine V_iconst X (-1) dX12_best_10 (by decide) ?_
    refine V_iconst X (nI 2) dX12_best_11 (by decide) ?_
    refine V_callS (rest := []) X (c_X12_in (Cl C) G y (-1) ((2 : Nat) : Int) (by first | assumption | omega) (by first | assumption | omega) (by first | assumption | omega)) mi_X12_in kw_3_235 kw_3_236 dX12_best_12 [] rfl (by decide) rfl rfl (by decide) (Nat.le_of_ble_eq_true rfl) ⟨rfl, rfl⟩ (fun u_ hu_5 => ?_)
    obtain ⟨b_4, rfl⟩ : ∃ z, z = u_ := ⟨_, rfl⟩
    have hu_5 : (b_4 = 1 ∧ (-1) ≤ y ∧ y ≤ ((2 : Nat) : Int)) ∨ (b_4 = 0 ∧ (y < (-1) ∨ ((2 : Nat) : Int) < y)) := hu_5
    show V C 0 0 [gMod G a (nF tx) (nF to) (nF dr) (nF be) (nF s) (nF pa) (nF im) (nF ke) (nF no) (nF fa) (lN tr) (nI ty) (nI kn) (nI nd) (nI att) (nI so) (nI ss) (iI va)] 15 [some (.ref (a 0)), some (.int (iI x)), some (.int (iI y)), none, none, none, none, none, none, none, none] [.int (nI b_4)]
    refine V_if_neN X 20 dX12_best_15 (by decide) (by omega) (fun c_6 => ?_) (fun c_6 => ?_)
    · refine V_loc (y := (nI x.toNat)) 1 rfl (mv_sn (by omega)) ?_
      have hH1 := hiM_c x.toNat 1
      have hH2 := hiM_c x.toNat 2
      refine V_iconst X (-1) dX12_best_20 (by decide) ?_
      refine V_istore_n X dX12_best_21 (by decide) rfl ?_
      refine V_bipush X (-9) dX12_best_22 (by decide) ?_
      refine V_istore X dX12_best_24 (by decide) rfl ?_
      refine V_iconst X (nI 0) dX12_best_26 (by decide) ?_
      refine V_istore X dX12_best_27 (by decide) rfl ?_
      have L_29 : ∀ (fz_29 : Nat) (m1 : Int) (z1 : Int) (q1 : Nat) (hq1 : q1 ≤ 25) (hm1 : -1 ≤ m1 ∧ m1 ≤ 108 ∧ -9 ≤ z1 ∧ z1 ≤ 25) (he1 : lpU (mB (trT (fun c => s (5 + c) % 16)) x.toNat y) (25 - q1) q1 (m1, z1) = mA (trT (fun c => s (5 + c) % 16)) x.toNat y), (25 - q1) < fz_29 → V C 0 0 [gMod G a (nF tx) (nF to) (nF dr) (nF be) (nF s) (nF pa) (nF im) (nF ke) (nF no) (nF fa) (lN tr) (nI ty) (nI kn) (nI nd) (nI att) (nI so) (nI ss) (iI va)] 29 [some (.ref (a 0)), some (.int (nI x.toNat)), some (.int (iI y)), some (.int (iI m1)), some (.int (iI z1)), some (.int (nI q1)), none, none, none, none, none] [] := by
        intro fz_29
        induction fz_29 with
        | zero => intro m1 z1 q1 hq1 hm1 he1 hf_29; exact absurd hf_29 (Nat.not_lt_zero _)
        | succ fz_29 ih_29 =>
          intro m1 z1 q1 hq1 hm1 he1 hf_29
          refine V_iload X dX12_best_29 rfl ?_
          refine V_bipush X (nI 25) dX12_best_31 (by decide) ?_
          refine V_icmp_geN X 267 dX12_best_33 (by decide) (by omega) (by decide) (fun c_7 => ?_) (fun c_7 => ?_)
          · have hfin : (m1, z1) = mA (trT (fun c => s (5 + c) % 16)) x.toNat y := by rw [← he1, show 25 - q1 = 0 by omega]; rfl
            have hA9 := mA_ok (trT (fun c => s (5 + c) % 16)) y (show 1 ≤ x.toNat ∧ x.toNat ≤ 3 by omega)
            rw [← hfin] at hA9
            dsimp only at hA9
            refine V_iload_n X dX12_best_267 rfl ?_
            refine V_iconst X (-1) dX12_best_268 (by decide) ?_
            refine V_icmp_neI (i := y) (j := -1) X 276 dX12_best_269 (by decide) (iI_toInt (by omega) (by omega)) (by rfl) (fun c_8 => ?_) (fun c_8 => ?_)
            · refine V_iload_n X dX12_best_276 rfl ?_
              refine V_iload_n X dX12_best_277 rfl ?_
              refine V_icmp_ltI (i := y) (j := ((x.toNat : Nat) : Int)) X 286 dX12_best_278 (by decide) (iI_toInt (by omega) (by omega)) (nI_toInt (by omega)) (fun c_9 => ?_) (fun c_9 => ?_)
              · refine V_loc (y := (nI z1.toNat)) 4 rfl (mv_sn (by omega)) ?_
                refine V_bipush X (nI 10) dX12_best_286 (by decide) ?_
                refine V_iload X dX12_best_288 rfl ?_
                refine V_iconst X (nI 5) dX12_best_290 (by decide) ?_
                refine V_idivN X dX12_best_291 (by omega) (by omega) (by omega) ?_
                refine V_imulN X dX12_best_292 ?_
                refine V_iload X dX12_best_293 rfl ?_
                refine V_iconst X (nI 5) dX12_best_295 (by decide) ?_
                refine V_iremN X dX12_best_296 (by omega) (by omega) (by omega) ?_
                refine V_iaddN X dX12_best_297 ?_
                exact V_iret X Y () trivial (mv_ri (by unfold mBest; rw [if_pos (by omega)]; first | (rw [if_neg (by omega), if_pos (by omega), ← hfin]) | (rw [if_pos (by omega)]; rfl) | (rw [if_neg (by omega), if_neg (by omega), ← hfin]; exact mv_zn (by dsimp only; omega)))) rfl rfl dX12_best_298
              · refine V_bipush X (-9) dX12_best_281 (by decide) ?_
                refine V_goto X 298 dX12_best_283 (by decide) ?_
                exact V_iret X Y () trivial (mv_ri (by unfold mBest; rw [if_pos (by omega)]; first | (rw [if_neg (by omega), if_pos (by omega), ← hfin]) | (rw [if_pos (by omega)]; rfl) | (rw [if_neg (by omega), if_neg (by omega), ← hfin]; exact mv_zn (by dsimp only; omega)))) rfl rfl dX12_best_298
            · refine V_iload_n X dX12_best_272 rfl ?_
              refine V_goto X 298 dX12_best_273 (by decide) ?_
              exact V_iret X Y () trivial (mv_si (by unfold mBest; rw [if_pos (by omega)]; first | (rw [if_neg (by omega), if_pos (by omega), ← hfin]) | (rw [if_pos (by omega)]; rfl) | (rw [if_neg (by omega), if_neg (by omega), ← hfin]; exact mv_zn (by dsimp only; omega)))) rfl rfl dX12_best_298
          · have hL1 := loM_c x.toNat 1 q1
            have ht1 := trT_le36 hde (t := q1) (by omega)
            refine V_iload_n X dX12_best_36 rfl ?_
            refine V_iconst X (nI 1) dX12_best_37 (by decide) ?_
            have J_50_10 : ∀ (lo : Nat) (hlo : lo = loM x.toNat 1 q1), V C 0 0 [gMod G a (nF tx) (nF to) (nF dr) (nF be) (nF s) (nF pa) (nF im) (nF ke) (nF no) (nF fa) (lN tr) (nI ty) (nI kn) (nI nd) (nI att) (nI so) (nI ss) (iI va)] 50 [some (.ref (a 0)), some (.int (nI x.toNat)), some (.int (iI y)), some (.int (iI m1)), some (.int (iI z1)), some (.int (nI q1)), none, none, none, none, none] [.int (nI lo)] := by
              intro lo hlo
              refine V_istore X dX12_best_50 (by decide) rfl ?_
              have L_52 : ∀ (fz_52 : Nat) (m2 : Int) (z2 : Int) (q2 : Nat) (hq2 : loM x.toNat 1 q1 ≤ q2 ∧ q2 ≤ hiM x.toNat 1) (hm2 : -1 ≤ m2 ∧ m2 ≤ 108 ∧ -9 ≤ z2 ∧ z2 ≤ 25) (he2 : lpU (mC (trT (fun c => s (5 + c) % 16)) x.toNat y q1) (hiM x.toNat 1 - q2) q2 (m2, z2) = lpU (mC (trT (fun c => s (5 + c) % 16)) x.toNat y q1) (hiM x.toNat 1 - loM x.toNat 1 q1) (loM x.toNat 1 q1) (m1, z1)), (26 - q2) < fz_52 → V C 0 0 [gMod G a (nF tx) (nF to) (nF dr) (nF be) (nF s) (nF pa) (nF im) (nF ke) (nF no) (nF fa) (lN tr) (nI ty) (nI kn) (nI nd) (nI att) (nI so) (nI ss) (iI va)] 52 [some (.ref (a 0)), some (.int (nI x.toNat)), some (.int (iI y)), some (.int (iI m2)), some (.int (iI z2)), some (.int (nI q1)), some (.int (nI q2)), none, none, none, none] [] := by
                intro fz_52
                induction fz_52 with
                | zero => intro m2 z2 q2 hq2 hm2 he2 hf_52; exact absurd hf_52 (Nat.not_lt_zero _)
                | succ fz_52 ih_52 =>
                  intro m2 z2 q2 hq2 hm2 he2 hf_52
                  refine V_iload X dX12_best_52 rfl ?_
                  refine V_iload_n X dX12_best_54 rfl ?_
                  refine V_iconst X (nI 1) dX12_best_55 (by decide) ?_
                  have J_66_11 : ∀ (h2 : Nat) (hh2 : h2 = hiM x.toNat 1), V C 0 0 [gMod G a (nF tx) (nF to) (nF dr) (nF be) (nF s) (nF pa) (nF im) (nF ke) (nF no) (nF fa) (lN tr) (nI ty) (nI kn) (nI nd) (nI att) (nI so) (nI ss) (iI va)] 66 [some (.ref (a 0)), some (.int (nI x.toNat)), some (.int (iI y)), some (.int (iI m2)), some (.int (iI z2)), some (.int (nI q1)), some (.int (nI q2)), none, none, none, none] [.int (nI h2), .int (nI q2)] := by
                    intro h2 hh2
                    refine V_icmp_geN X 261 dX12_best_66 (by decide) (by omega) (by omega) (fun c_12 => ?_) (fun c_12 => ?_)
                    · refine V_iincN X (c := 1) dX12_best_261 rfl (by decide) rfl ?_
                      refine V_goto X 29 dX12_best_264 (by decide) ?_
                      refine V_weak (lv' := [some (.ref (a 0)), some (.int (nI x.toNat)), some (.int (iI y)), some (.int (iI m2)), some (.int (iI z2)), some (.int (nI (q1 + 1))), none, none, none, none, none]) (And.intro rfl (And.intro rfl (And.intro rfl (And.intro rfl (And.intro rfl (And.intro rfl trivial)))))) ?_
                      exact ih_29 m2 z2 (q1 + 1) (by omega) (by omega) (by rw [← he1, lpU_step _ (show q1 < 25 by omega)]; refine congrArg _ ?_; unfold mB; rw [← he2, show hiM x.toNat 1 - q2 = 0 by omega]; rfl) (by omega)
                    · have hL2 := loM_c x.toNat 2 q2
                      refine V_iload_n X dX12_best_69 rfl ?_
                      refine V_iconst X (nI 2) dX12_best_70 (by decide) ?_
                      have J_83_13 : ∀ (lo3 : Nat) (hlo3 : lo3 = loM x.toNat 2 q2), V C 0 0 [gMod G a (nF tx) (nF to) (nF dr) (nF be) (nF s) (nF pa) (nF im) (nF ke) (nF no) (nF fa) (lN tr) (nI ty) (nI kn) (nI nd) (nI att) (nI so) (nI ss) (iI va)] 83 [some (.ref (a 0)), some (.int (nI x.toNat)), some (.int (iI y)), some (.int (iI m2)), some (.int (iI z2)), some (.int (nI q1)), some (.int (nI q2)), none, none, none, none] [.int (nI lo3)] := by
                        intro lo3 hlo3
                        refine V_istore X dX12_best_83 (by decide) rfl ?_
                        have L_85 : ∀ (fz_85 : Nat) (m3 : Int) (z3 : Int) (q3 : Nat) (hq3 : loM x.toNat 2 q2 ≤ q3 ∧ q3 ≤ hiM x.toNat 2) (hm3 : -1 ≤ m3 ∧ m3 ≤ 108 ∧ -9 ≤ z3 ∧ z3 ≤ 25) (he3 : lpU (stM (trT (fun c => s (5 + c) % 16)) x.toNat y q1 q2) (hiM x.toNat 2 - q3) q3 (m3, z3) = lpU (stM (trT (fun c => s (5 + c) % 16)) x.toNat y q1 q2) (hiM x.toNat 2 - loM x.toNat 2 q2) (loM x.toNat 2 q2) (m2, z2)), (26 - q3) < fz_85 → V C 0 0 [gMod G a (nF tx) (nF to) (nF dr) (nF be) (nF s) (nF pa) (nF im) (nF ke) (nF no) (nF fa) (lN tr) (nI ty) (nI kn) (nI nd) (nI att) (nI so) (nI ss) (iI va)] 85 [some (.ref (a 0)), some (.int (nI x.toNat)), some (.int (iI y)), some (.int (iI m3)), some (.int (iI z3)), some (.int (nI q1)), some (.int (nI q2)), some (.int (nI q3)), none, none, none] [] := by
                          intro fz_85
                          induction fz_85 with
                          | zero => intro m3 z3 q3 hq3 hm3 he3 hf_85; exact absurd hf_85 (Nat.not_lt_zero _)
                          | succ fz_85 ih_85 =>
                            intro m3 z3 q3 hq3 hm3 he3 hf_85
                            refine V_iload X dX12_best_85 rfl ?_
                            refine V_iload_n X dX12_best_87 rfl ?_
                            refine V_iconst X (nI 2) dX12_best_88 (by decide) ?_
                            have J_99_14 : ∀ (h3 : Nat) (hh3 : h3 = hiM x.toNat 2), V C 0 0 [gMod G a (nF tx) (nF to) (nF dr) (nF be) (nF s) (nF pa) (nF im) (nF ke) (nF no) (nF fa) (lN tr) (nI ty) (nI kn) (nI nd) (nI att) (nI so) (nI ss) (iI va)] 99 [some (.ref (a 0)), some (.int (nI x.toNat)), some (.int (iI y)), some (.int (iI m3)), some (.int (iI z3)), some (.int (nI q1)), some (.int (nI q2)), some (.int (nI q3)), none, none, none] [.int (nI h3), .int (nI q3)] := by
                              intro h3 hh3
                              refine V_icmp_geN X 255 dX12_best_99 (by decide) (by omega) (by omega) (fun c_15 => ?_) (fun c_15 => ?_)
                              · refine V_iincN X (c := 1) dX12_best_255 rfl (by decide) rfl ?_
                                refine V_goto X 52 dX12_best_258 (by decide) ?_
                                refine V_weak (lv' := [some (.ref (a 0)), some (.int (nI x.toNat)), some (.int (iI y)), some (.int (iI m3)), some (.int (iI z3)), some (.int (nI q1)), some (.int (nI (q2 + 1))), none, none, none, none]) (And.intro rfl (And.intro rfl (And.intro rfl (And.intro rfl (And.intro rfl (And.intro rfl (And.intro rfl trivial))))))) ?_
                                exact ih_52 m3 z3 (q2 + 1) (by omega) (by omega) (by rw [← he2, lpU_step _ (show q2 < hiM x.toNat 1 by omega)]; refine congrArg _ ?_; unfold mC; rw [← he3, show hiM x.toNat 2 - q3 = 0 by omega]; rfl) (by omega)
                              · refine V_iload_n X dX12_best_102 rfl ?_
                                refine V_iconst X (nI 2) dX12_best_103 (by decide) ?_
                                have J_147_16 : ∀ (e : Nat) (he : (e = 1 ∧ mayP x.toNat q1 q2 q3) ∨ (e = 0 ∧ ¬ mayP x.toNat q1 q2 q3)), V C 0 0 [gMod G a (nF tx) (nF to) (nF dr) (nF be) (nF s) (nF pa) (nF im) (nF ke) (nF no) (nF fa) (lN tr) (nI ty) (nI kn) (nI nd) (nI att) (nI so) (nI ss) (iI va)] 147 [some (.ref (a 0)), some (.int (nI x.toNat)), some (.int (iI y)), some (.int (iI m3)), some (.int (iI z3)), some (.int (nI q1)), some (.int (nI q2)), some (.int (nI q3)), none, none, none] [.int (nI e)] := by
                                  intro e he
                                  refine V_istore X dX12_best_147 (by decide) rfl ?_
                                  refine V_iload X dX12_best_149 rfl ?_
                                  have J_196_17 : ∀ (sm : Int) (hsm : sm = sumM (trT (fun c => s (5 + c) % 16)) x.toNat q1 q2 q3) (hs9 : -1 ≤ sm ∧ sm ≤ 108), V C 0 0 [gMod G a (nF tx) (nF to) (nF dr) (nF be) (nF s) (nF pa) (nF im) (nF ke) (nF no) (nF fa) (lN tr) (nI ty) (nI kn) (nI nd) (nI att) (nI so) (nI ss) (iI va)] 196 [some (.ref (a 0)), some (.int (nI x.toNat)), some (.int (iI y)), some (.int (iI m3)), some (.int (iI z3)), some (.int (nI q1)), some (.int (nI q2)), some (.int (nI q3)), some (.int (nI e)), none, none] [.int (iI sm)] := by
                                    intro sm hsm hs9
                                    refine V_istore X dX12_best_196 (by decide) rfl ?_
                                    refine V_iload_n X dX12_best_198 rfl ?_
                                    have J_219_18 : ∀ (t3 : Nat) (hit : t3 = itM y q1 q2 q3) (hit9 : t3 ≤ 25), V C 0 0 [gMod G a (nF tx) (nF to) (nF dr) (nF be) (nF s) (nF pa) (nF im) (nF ke) (nF no) (nF fa) (lN tr) (nI ty) (nI kn) (nI nd) (nI att) (nI so) (nI ss) (iI va)] 219 [some (.ref (a 0)), some (.int (nI x.toNat)), some (.int (iI y)), some (.int (iI m3)), some (.int (iI z3)), some (.int (nI q1)), some (.int (nI q2)), some (.int (nI q3)), some (.int (nI e)), some (.int (iI sm)), none] [.int (nI t3)] := by
                                      intro t3 hit hit9
                                      refine V_istore X dX12_best_219 (by decide) rfl ?_
                                      refine V_iload X dX12_best_221 rfl ?_
                                      refine V_iload_n X dX12_best_223 rfl ?_
                                      have J_234_19 : ∀ (nz : Int) (hnz : nz = if m3 < sm then (t3 : Int) else z3) (hnz9 : -9 ≤ nz ∧ nz ≤ 25), V C 0 0 [gMod G a (nF tx) (nF to) (nF dr) (nF be) (nF s) (nF pa) (nF im) (nF ke) (nF no) (nF fa) (lN tr) (nI ty) (nI kn) (nI nd) (nI att) (nI so) (nI ss) (iI va)] 234 [some (.ref (a 0)), some (.int (nI x.toNat)), some (.int (iI y)), some (.int (iI m3)), some (.int (iI z3)), some (.int (nI q1)), some (.int (nI q2)), some (.int (nI q3)), some (.int (nI e)), some (.int (iI sm)), some (.int (nI t3))] [.int (iI nz)] := by
                                        intro nz hnz hnz9
                                        refine V_istore X dX12_best_234 (by decide) rfl ?_
                                        refine V_iload X dX12_best_236 rfl ?_
                                        refine V_iload_n X dX12_best_238 rfl ?_
                                        have J_248_20 : ∀ (nm : Int) (hnm : nm = if m3 < sm then sm else m3) (hnm9 : -1 ≤ nm ∧ nm ≤ 108), V C 0 0 [gMod G a (nF tx) (nF to) (nF dr) (nF be) (nF s) (nF pa) (nF im) (nF ke) (nF no) (nF fa) (lN tr) (nI ty) (nI kn) (nI nd) (nI att) (nI so) (nI ss) (iI va)] 248 [some (.ref (a 0)), some (.int (nI x.toNat)), some (.int (iI y)), some (.int (iI m3)), some (.int (iI nz)), some (.int (nI q1)), some (.int (nI q2)), some (.int (nI q3)), some (.int (nI e)), some (.int (iI sm)), some (.int (nI t3))] [.int (iI nm)] := by
                                          intro nm hnm hnm9
                                          refine V_istore_n X dX12_best_248 (by decide) rfl ?_
                                          refine V_iincN X (c := 1) dX12_best_249 rfl (by decide) rfl ?_
                                          refine V_goto X 85 dX12_best_252 (by decide) ?_
                                          refine V_weak (lv' := [some (.ref (a 0)), some (.int (nI x.toNat)), some (.int (iI y)), some (.int (iI nm)), some (.int (iI nz)), some (.int (nI q1)), some (.int (nI q2)), some (.int (nI (q3 + 1))), none, none, none]) (And.intro rfl (And.intro rfl (And.intro rfl (And.intro rfl (And.intro rfl (And.intro rfl (And.intro rfl (And.intro rfl trivial)))))))) ?_
                                          exact ih_85 nm nz (q3 + 1) (by omega) (by omega) (by rw [← he3, lpU_step _ (show q3 < hiM x.toNat 2 by omega)]; refine congrArg _ ?_; exact stM_eq hsm hit hnz hnm) (by omega)
                                        refine V_icmp_leI (i := sm) (j := m3) X 247 dX12_best_239 (by decide) (iI_toInt (by omega) (by omega)) (iI_toInt (by omega) (by omega)) (fun c_20 => ?_) (fun c_20 => ?_)
                                        · refine V_iload_n X dX12_best_247 rfl ?_
                                          refine V_weak (lv' := [some (.ref (a 0)), some (.int (nI x.toNat)), some (.int (iI y)), some (.int (iI m3)), some (.int (iI nz)), some (.int (nI q1)), some (.int (nI q2)), some (.int (nI q3)), some (.int (nI e)), some (.int (iI sm)), some (.int (nI t3))]) (And.intro rfl (And.intro rfl (And.intro rfl (And.intro rfl (And.intro rfl (And.intro rfl (And.intro rfl (And.intro rfl (And.intro rfl (And.intro rfl (And.intro rfl trivial))))))))))) ?_
                                          exact J_248_20 m3 (by first | rw [if_pos (by omega)] | rw [if_neg (by omega)]) (by omega)
                                        · refine V_iload X dX12_best_242 rfl ?_
                                          refine V_goto X 248 dX12_best_244 (by decide) ?_
                                          refine V_weak (lv' := [some (.ref (a 0)), some (.int (nI x.toNat)), some (.int (iI y)), some (.int (iI m3)), some (.int (iI nz)), some (.int (nI q1)), some (.int (nI q2)), some (.int (nI q3)), some (.int (nI e)), some (.int (iI sm)), some (.int (nI t3))]) (And.intro rfl (And.intro rfl (And.intro rfl (And.intro rfl (And.intro rfl (And.intro rfl (And.intro rfl (And.intro rfl (And.intro rfl (And.intro rfl (And.intro rfl trivial))))))))))) ?_
                                          exact J_248_20 sm (by first | rw [if_pos (by omega)] | rw [if_neg (by omega)]) (by omega)
                                      refine V_icmp_leI (i := sm) (j := m3) X 232 dX12_best_224 (by decide) (iI_toInt (by omega) (by omega)) (iI_toInt (by omega) (by omega)) (fun c_19 => ?_) (fun c_19 => ?_)
                                      · refine V_iload X dX12_best_232 rfl ?_
                                        refine V_weak (lv' := [some (.ref (a 0)), some (.int (nI x.toNat)), some (.int (iI y)), some (.int (iI m3)), some (.int (iI z3)), some (.int (nI q1)), some (.int (nI q2)), some (.int (nI q3)), some (.int (nI e)), some (.int (iI sm)), some (.int (nI t3))]) (And.intro rfl (And.intro rfl (And.intro rfl (And.intro rfl (And.intro rfl (And.intro rfl (And.intro rfl (And.intro rfl (And.intro rfl (And.intro rfl (And.intro rfl trivial))))))))))) ?_
                                        exact J_234_19 z3 (by first | rw [if_pos (by omega)] | rw [if_neg (by omega)]) (by omega)
                                      · refine V_iload X dX12_best_227 rfl ?_
                                        refine V_goto X 234 dX12_best_229 (by decide) ?_
                                        refine V_weak (lv' := [some (.ref (a 0)), some (.int (nI x.toNat)), some (.int (iI y)), some (.int (iI m3)), some (.int (iI z3)), some (.int (nI q1)), some (.int (nI q2)), some (.int (nI q3)), some (.int (nI e)), some (.int (iI sm)), some (.int (nI t3))]) (And.intro rfl (And.intro rfl (And.intro rfl (And.intro rfl (And.intro rfl (And.intro rfl (And.intro rfl (And.intro rfl (And.intro rfl (And.intro rfl (And.intro rfl trivial))))))))))) ?_
                                        exact J_234_19 (t3 : Nat) (by first | rw [if_pos (by omega)] | rw [if_neg (by omega)]) (by omega)
                                    refine V_if_neI (i := y) X 207 dX12_best_199 (by decide) (iI_toInt (by omega) (by omega)) (fun c_18 => ?_) (fun c_18 => ?_)
                                    · refine V_iload_n X dX12_best_207 rfl ?_
                                      refine V_iconst X (nI 1) dX12_best_208 (by decide) ?_
                                      refine V_icmp_neI (i := y) (j := 1) X 217 dX12_best_209 (by decide) (iI_toInt (by omega) (by omega)) (nI_toInt (by decide)) (fun c_21 => ?_) (fun c_21 => ?_)
                                      · refine V_iload X dX12_best_217 rfl ?_
                                        refine V_weak (lv' := [some (.ref (a 0)), some (.int (nI x.toNat)), some (.int (iI y)), some (.int (iI m3)), some (.int (iI z3)), some (.int (nI q1)), some (.int (nI q2)), some (.int (nI q3)), some (.int (nI e)), some (.int (iI sm)), none]) (And.intro rfl (And.intro rfl (And.intro rfl (And.intro rfl (And.intro rfl (And.intro rfl (And.intro rfl (And.intro rfl (And.intro rfl (And.intro rfl trivial)))))))))) ?_
                                        exact J_219_18 q3 (by unfold itM; first | rw [if_pos (by omega)] | rw [if_neg (by omega), if_pos (by omega)] | rw [if_neg (by omega), if_neg (by omega)]) (by omega)
                                      · refine V_iload X dX12_best_212 rfl ?_
                                        refine V_goto X 219 dX12_best_214 (by decide) ?_
                                        refine V_weak (lv' := [some (.ref (a 0)), some (.int (nI x.toNat)), some (.int (iI y)), some (.int (iI m3)), some (.int (iI z3)), some (.int (nI q1)), some (.int (nI q2)), some (.int (nI q3)), some (.int (nI e)), some (.int (iI sm)), none]) (And.intro rfl (And.intro rfl (And.intro rfl (And.intro rfl (And.intro rfl (And.intro rfl (And.intro rfl (And.intro rfl (And.intro rfl (And.intro rfl trivial)))))))))) ?_
                                        exact J_219_18 q2 (by unfold itM; first | rw [if_pos (by omega)] | rw [if_neg (by omega), if_pos (by omega)] | rw [if_neg (by omega), if_neg (by omega)]) (by omega)
                                    · refine V_iload X dX12_best_202 rfl ?_
                                      refine V_goto X 219 dX12_best_204 (by decide) ?_
                                      refine V_weak (lv' := [some (.ref (a 0)), some (.int (nI x.toNat)), some (.int (iI y)), some (.int (iI m3)), some (.int (iI z3)), some (.int (nI q1)), some (.int (nI q2)), some (.int (nI q3)), some (.int (nI e)), some (.int (iI sm)), none]) (And.intro rfl (And.intro rfl (And.intro rfl (And.intro rfl (And.intro rfl (And.intro rfl (And.intro rfl (And.intro rfl (And.intro rfl (And.intro rfl trivial)))))))))) ?_
                                      exact J_219_18 q1 (by unfold itM; first | rw [if_pos (by omega)] | rw [if_neg (by omega), if_pos (by omega)] | rw [if_neg (by omega), if_neg (by omega)]) (by omega)
                                  refine V_if_eqN X 195 dX12_best_151 (by decide) (by omega) (fun c_17 => ?_) (fun c_17 => ?_)
                                  · refine V_iconst X (-1) dX12_best_195 (by decide) ?_
                                    refine V_weak (lv' := [some (.ref (a 0)), some (.int (nI x.toNat)), some (.int (iI y)), some (.int (iI m3)), some (.int (iI z3)), some (.int (nI q1)), some (.int (nI q2)), some (.int (nI q3)), some (.int (nI e)), none, none]) (And.intro rfl (And.intro rfl (And.intro rfl (And.intro rfl (And.intro rfl (And.intro rfl (And.intro rfl (And.intro rfl (And.intro rfl trivial))))))))) ?_
                                    exact J_196_17 (-1) (by unfold sumM; first | (rw [if_pos ((mayB_iff _ _ _ _).mpr (he.resolve_right (by omega)).2), hg2, hg3]) | (rw [if_neg (mayB_f (he.resolve_left (by omega)).2)])) (by omega)
                                  · refine V_aload_n X dX12_best_154 rfl ?_
                                    refine V_iload X dX12_best_155 rfl ?_
                                    refine V_callV (rest := []) X (c_X12_inTray (Cl C) G a tx to dr be s pa im ke no fa tr ty kn nd att so ss va q1 (by first | assumption | omega) (by first | assumption | omega)) mi_X12_inTray kw_4_161 kw_4_163 kw_s_44 dX12_best_157 [0] rfl (by decide) 0 0 rfl rfl rfl rfl rfl rfl (by decide) (Nat.le_of_ble_eq_true rfl) ⟨rfl, rfl⟩ (fun _ _ => ?_)
                                    show V C 0 0 [gMod G a (nF tx) (nF to) (nF dr) (nF be) (nF s) (nF pa) (nF im) (nF ke) (nF no) (nF fa) (lN tr) (nI ty) (nI kn) (nI nd) (nI att) (nI so) (nI ss) (iI va)] 160 [some (.ref (a 0)), some (.int (nI x.toNat)), some (.int (iI y)), some (.int (iI m3)), some (.int (iI z3)), some (.int (nI q1)), some (.int (nI q2)), some (.int (nI q3)), some (.int (nI e)), none, none] [.int (nI (trT (fun c => s (5 + c) % 16) q1))]
                                    refine V_iload_n X dX12_best_160 rfl ?_
                                    refine V_iconst X (nI 1) dX12_best_161 (by decide) ?_
                                    have J_175_22 : ∀ (g2 : Nat) (hg2 : g2 = tvM x.toNat 1 (trT (fun c => s (5 + c) % 16)) q2) (hg29 : g2 ≤ 36), V C 0 0 [gMod G a (nF tx) (nF to) (nF dr) (nF be) (nF s) (nF pa) (nF im) (nF ke) (nF no) (nF fa) (lN tr) (nI ty) (nI kn) (nI nd) (nI att) (nI so) (nI ss) (iI va)] 175 [some (.ref (a 0)), some (.int (nI x.toNat)), some (.int (iI y)), some (.int (iI m3)), some (.int (iI z3)), some (.int (nI q1)), some (.int (nI q2)), some (.int (nI q3)), some (.int (nI e)), none, none] [.int (nI g2), .int (nI (trT (fun c => s (5 + c) % 16) q1))] := by
                                      intro g2 hg2 hg29
                                      refine V_iaddN X dX12_best_175 ?_
                                      refine V_iload_n X dX12_best_176 rfl ?_
                                      refine V_iconst X (nI 2) dX12_best_177 (by decide) ?_
                                      have J_191_23 : ∀ (g3 : Nat) (hg3 : g3 = tvM x.toNat 2 (trT (fun c => s (5 + c) % 16)) q3) (hg39 : g3 ≤ 36), V C 0 0 [gMod G a (nF tx) (nF to) (nF dr) (nF be) (nF s) (nF pa) (nF im) (nF ke) (nF no) (nF fa) (lN tr) (nI ty) (nI kn) (nI nd) (nI att) (nI so) (nI ss) (iI va)] 191 [some (.ref (a 0)), some (.int (nI x.toNat)), some (.int (iI y)), some (.int (iI m3)), some (.int (iI z3)), some (.int (nI q1)), some (.int (nI q2)), some (.int (nI q3)), some (.int (nI e)), none, none] [.int (nI g3), .int (nI ((trT (fun c => s (5 + c) % 16) q1) + g2))] := by
                                        intro g3 hg3 hg39
                                        refine V_iaddN X dX12_best_191 ?_
                                        refine V_goto X 196 dX12_best_192 (by decide) ?_
                                        refine V_weak (lv' := [some (.ref (a 0)), some (.int (nI x.toNat)), some (.int (iI y)), some (.int (iI m3)), some (.int (iI z3)), some (.int (nI q1)), some (.int (nI q2)), some (.int (nI q3)), some (.int (nI e)), none, none]) (And.intro rfl (And.intro rfl (And.intro rfl (And.intro rfl (And.intro rfl (And.intro rfl (And.intro rfl (And.intro rfl (And.intro rfl trivial))))))))) ?_
                                        exact J_196_17 (((trT (fun c => s (5 + c) % 16) q1) + g2) + g3 : Nat) (by unfold sumM; first | (rw [if_pos ((mayB_iff _ _ _ _).mpr (he.resolve_right (by omega)).2), hg2, hg3]) | (rw [if_neg (mayB_f (he.resolve_left (by omega)).2)])) (by omega)
                                      refine V_icmp_leN X 190 dX12_best_178 (by decide) (by omega) (by decide) (fun c_23 => ?_) (fun c_23 => ?_)
                                      · refine V_iconst X (nI 0) dX12_best_190 (by decide) ?_
                                        refine V_weak (lv' := [some (.ref (a 0)), some (.int (nI x.toNat)), some (.int (iI y)), some (.int (iI m3)), some (.int (iI z3)), some (.int (nI q1)), some (.int (nI q2)), some (.int (nI q3)), some (.int (nI e)), none, none]) (And.intro rfl (And.intro rfl (And.intro rfl (And.intro rfl (And.intro rfl (And.intro rfl (And.intro rfl (And.intro rfl (And.intro rfl trivial))))))))) ?_
                                        exact J_191_23 0 (by unfold tvM; first | rw [if_pos (by omega)] | rw [if_neg (by omega)]) (by omega)
                                      · refine V_aload_n X dX12_best_181 rfl ?_
                                        refine V_iload X dX12_best_182 rfl ?_
                                        refine V_callV (rest := [.int (nI ((trT (fun c => s (5 + c) % 16) q1) + g2))]) X (c_X12_inTray (Cl C) G a tx to dr be s pa im ke no fa tr ty kn nd att so ss va q3 (by first | assumption | omega) (by first | assumption | omega)) mi_X12_inTray kw_4_161 kw_4_163 kw_s_44 dX12_best_184 [0] rfl (by decide) 0 0 rfl rfl rfl rfl rfl rfl (by decide) (Nat.le_of_ble_eq_true rfl) ⟨rfl, rfl⟩ (fun _ _ => ?_)
                                        show V C 0 0 [gMod G a (nF tx) (nF to) (nF dr) (nF be) (nF s) (nF pa) (nF im) (nF ke) (nF no) (nF fa) (lN tr) (nI ty) (nI kn) (nI nd) (nI att) (nI so) (nI ss) (iI va)] 187 [some (.ref (a 0)), some (.int (nI x.toNat)), some (.int (iI y)), some (.int (iI m3)), some (.int (iI z3)), some (.int (nI q1)), some (.int (nI q2)), some (.int (nI q3)), some (.int (nI e)), none, none] [.int (nI (trT (fun c => s (5 + c) % 16) q3)), .int (nI ((trT (fun c => s (5 + c) % 16) q1) + g2))]
                                        have ht3 := trT_le36 hde (t := q3) (by omega)
                                        refine V_goto X 191 dX12_best_187 (by decide) ?_
                                        refine V_weak (lv' := [some (.ref (a 0)), some (.int (nI x.toNat)), some (.int (iI y)), some (.int (iI m3)), some (.int (iI z3)), some (.int (nI q1)), some (.int (nI q2)), some (.int (nI q3)), some (.int (nI e)), none, none]) (And.intro rfl (And.intro rfl (And.intro rfl (And.intro rfl (And.intro rfl (And.intro rfl (And.intro rfl (And.intro rfl (And.intro rfl trivial))))))))) ?_
                                        exact J_191_23 (trT (fun c => s (5 + c) % 16) q3) (by unfold tvM; first | rw [if_pos (by omega)] | rw [if_neg (by omega)]) (by omega)
                                    refine V_icmp_leN X 174 dX12_best_162 (by decide) (by omega) (by decide) (fun c_22 => ?_) (fun c_22 => ?_)
                                    · refine V_iconst X (nI 0) dX12_best_174 (by decide) ?_
                                      refine V_weak (lv' := [some (.ref (a 0)), some (.int (nI x.toNat)), some (.int (iI y)), some (.int (iI m3)), some (.int (iI z3)), some (.int (nI q1)), some (.int (nI q2)), some (.int (nI q3)), some (.int (nI e)), none, none]) (And.intro rfl (And.intro rfl (And.intro rfl (And.intro rfl (And.intro rfl (And.intro rfl (And.intro rfl (And.intro rfl (And.intro rfl trivial))))))))) ?_
                                      exact J_175_22 0 (by unfold tvM; first | rw [if_pos (by omega)] | rw [if_neg (by omega)]) (by omega)
                                    · refine V_aload_n X dX12_best_165 rfl ?_
                                      refine V_iload X dX12_best_166 rfl ?_
                                      refine V_callV (rest := [.int (nI (trT (fun c => s (5 + c) % 16) q1))]) X (c_X12_inTray (Cl C) G a tx to dr be s pa im ke no fa tr ty kn nd att so ss va q2 (by first | assumption | omega) (by first | assumption | omega)) mi_X12_inTray kw_4_161 kw_4_163 kw_s_44 dX12_best_168 [0] rfl (by decide) 0 0 rfl rfl rfl rfl rfl rfl (by decide) (Nat.le_of_ble_eq_true rfl) ⟨rfl, rfl⟩ (fun _ _ => ?_)
                                      show V C 0 0 [gMod G a (nF tx) (nF to) (nF dr) (nF be) (nF s) (nF pa) (nF im) (nF ke) (nF no) (nF fa) (lN tr) (nI ty) (nI kn) (nI nd) (nI att) (nI so) (nI ss) (iI va)] 171 [some (.ref (a 0)), some (.int (nI x.toNat)), some (.int (iI y)), some (.int (iI m3)), some (.int (iI z3)), some (.int (nI q1)), some (.int (nI q2)), some (.int (nI q3)), some (.int (nI e)), none, none] [.int (nI (trT (fun c => s (5 + c) % 16) q2)), .int (nI (trT (fun c => s (5 + c) % 16) q1))]
                                      have ht2 := trT_le36 hde (t := q2) (by omega)
                                      refine V_goto X 175 dX12_best_171 (by decide) ?_
                                      refine V_weak (lv' := [some (.ref (a 0)), some (.int (nI x.toNat)), some (.int (iI y)), some (.int (iI m3)), some (.int (iI z3)), some (.int (nI q1)), some (.int (nI q2)), some (.int (nI q3)), some (.int (nI e)), none, none]) (And.intro rfl (And.intro rfl (And.intro rfl (And.intro rfl (And.intro rfl (And.intro rfl (And.intro rfl (And.intro rfl (And.intro rfl trivial))))))))) ?_
                                      exact J_175_22 (trT (fun c => s (5 + c) % 16) q2) (by unfold tvM; first | rw [if_pos (by omega)] | rw [if_neg (by omega)]) (by omega)
                                refine V_icmp_ltN X 117 dX12_best_104 (by decide) (by omega) (by decide) (fun c_16 => ?_) (fun c_16 => ?_)
                                · refine V_iload_n X dX12_best_117 rfl ?_
                                  refine V_iconst X (nI 3) dX12_best_118 (by decide) ?_
                                  refine V_icmp_ltN X 142 dX12_best_119 (by decide) (by omega) (by decide) (fun c_24 => ?_) (fun c_24 => ?_)
                                  · refine V_iconst X (nI 1) dX12_best_142 (by decide) ?_
                                    refine V_goto X 147 dX12_best_143 (by decide) ?_
                                    refine V_weak (lv' := [some (.ref (a 0)), some (.int (nI x.toNat)), some (.int (iI y)), some (.int (iI m3)), some (.int (iI z3)), some (.int (nI q1)), some (.int (nI q2)), some (.int (nI q3)), none, none, none]) (And.intro rfl (And.intro rfl (And.intro rfl (And.intro rfl (And.intro rfl (And.intro rfl (And.intro rfl (And.intro rfl trivial)))))))) ?_
                                    exact J_147_16 1 (by unfold mayP; omega)
                                  · refine V_iload X dX12_best_122 rfl ?_
                                    refine V_iload X dX12_best_124 rfl ?_
                                    refine V_callS (rest := []) X (c_X12_areApart (Cl C) G q1 q3 (by first | assumption | omega) (by first | assumption | omega)) mi_X12_areApart kw_4_184 kw_4_185 dX12_best_126 [] rfl (by decide) rfl rfl (by decide) (Nat.le_of_ble_eq_true rfl) ⟨rfl, rfl⟩ (fun u_ hu_26 => ?_)
                                    obtain ⟨b_25, rfl⟩ : ∃ z, z = u_ := ⟨_, rfl⟩
                                    have hu_26 : (b_25 = 1 ∧ (q1 / 5 + 1 < q3 / 5 ∨ q3 / 5 + 1 < q1 / 5 ∨ q1 % 5 + 1 < q3 % 5 ∨ q3 % 5 + 1 < q1 % 5)) ∨ (b_25 = 0 ∧ (q1 / 5 ≤ q3 / 5 + 1 ∧ q3 / 5 ≤ q1 / 5 + 1 ∧ q1 % 5 ≤ q3 % 5 + 1 ∧ q3 % 5 ≤ q1 % 5 + 1)) := hu_26
                                    show V C 0 0 [gMod G a (nF tx) (nF to) (nF dr) (nF be) (nF s) (nF pa) (nF im) (nF ke) (nF no) (nF fa) (lN tr) (nI ty) (nI kn) (nI nd) (nI att) (nI so) (nI ss) (iI va)] 129 [some (.ref (a 0)), some (.int (nI x.toNat)), some (.int (iI y)), some (.int (iI m3)), some (.int (iI z3)), some (.int (nI q1)), some (.int (nI q2)), some (.int (nI q3)), none, none, none] [.int (nI b_25)]
                                    refine V_if_eqN X 146 dX12_best_129 (by decide) (by omega) (fun c_27 => ?_) (fun c_27 => ?_)
                                    · refine V_iconst X (nI 0) dX12_best_146 (by decide) ?_
                                      refine V_weak (lv' := [some (.ref (a 0)), some (.int (nI x.toNat)), some (.int (iI y)), some (.int (iI m3)), some (.int (iI z3)), some (.int (nI q1)), some (.int (nI q2)), some (.int (nI q3)), none, none, none]) (And.intro rfl (And.intro rfl (And.intro rfl (And.intro rfl (And.intro rfl (And.intro rfl (And.intro rfl (And.intro rfl trivial)))))))) ?_
                                      exact J_147_16 0 (by unfold mayP; omega)
                                    · refine V_iload X dX12_best_132 rfl ?_
                                      refine V_iload X dX12_best_134 rfl ?_
                                      refine V_callS (rest := []) X (c_X12_areApart (Cl C) G q2 q3 (by first | assumption | omega) (by first | assumption | omega)) mi_X12_areApart kw_4_184 kw_4_185 dX12_best_136 [] rfl (by decide) rfl rfl (by decide) (Nat.le_of_ble_eq_true rfl) ⟨rfl, rfl⟩ (fun u_ hu_29 => ?_)
                                      obtain ⟨b_28, rfl⟩ : ∃ z, z = u_ := ⟨_, rfl⟩
                                      have hu_29 : (b_28 = 1 ∧ (q2 / 5 + 1 < q3 / 5 ∨ q3 / 5 + 1 < q2 / 5 ∨ q2 % 5 + 1 < q3 % 5 ∨ q3 % 5 + 1 < q2 % 5)) ∨ (b_28 = 0 ∧ (q2 / 5 ≤ q3 / 5 + 1 ∧ q3 / 5 ≤ q2 / 5 + 1 ∧ q2 % 5 ≤ q3 % 5 + 1 ∧ q3 % 5 ≤ q2 % 5 + 1)) := hu_29
                                      show V C 0 0 [gMod G a (nF tx) (nF to) (nF dr) (nF be) (nF s) (nF pa) (nF im) (nF ke) (nF no) (nF fa) (lN tr) (nI ty) (nI kn) (nI nd) (nI att) (nI so) (nI ss) (iI va)] 139 [some (.ref (a 0)), some (.int (nI x.toNat)), some (.int (iI y)), some (.int (iI m3)), some (.int (iI z3)), some (.int (nI q1)), some (.int (nI q2)), some (.int (nI q3)), none, none, none] [.int (nI b_28)]
                                      refine V_if_eqN X 146 dX12_best_139 (by decide) (by omega) (fun c_30 => ?_) (fun c_30 => ?_)
                                      · refine V_iconst X (nI 0) dX12_best_146 (by decide) ?_
                                        refine V_weak (lv' := [some (.ref (a 0)), some (.int (nI x.toNat)), some (.int (iI y)), some (.int (iI m3)), some (.int (iI z3)), some (.int (nI q1)), some (.int (nI q2)), some (.int (nI q3)), none, none, none]) (And.intro rfl (And.intro rfl (And.intro rfl (And.intro rfl (And.intro rfl (And.intro rfl (And.intro rfl (And.intro rfl trivial)))))))) ?_
                                        exact J_147_16 0 (by unfold mayP; omega)
                                      · refine V_iconst X (nI 1) dX12_best_142 (by decide) ?_
                                        refine V_goto X 147 dX12_best_143 (by decide) ?_
                                        refine V_weak (lv' := [some (.ref (a 0)), some (.int (nI x.toNat)), some (.int (iI y)), some (.int (iI m3)), some (.int (iI z3)), some (.int (nI q1)), some (.int (nI q2)), some (.int (nI q3)), none, none, none]) (And.intro rfl (And.intro rfl (And.intro rfl (And.intro rfl (And.intro rfl (And.intro rfl (And.intro rfl (And.intro rfl trivial)))))))) ?_
                                        exact J_147_16 1 (by unfold mayP; omega)
                                · refine V_iload X dX12_best_107 rfl ?_
                                  refine V_iload X dX12_best_109 rfl ?_
                                  refine V_callS (rest := []) X (c_X12_areApart (Cl C) G q1 q2 (by first | assumption | omega) (by first | assumption | omega)) mi_X12_areApart kw_4_184 kw_4_185 dX12_best_111 [] rfl (by decide) rfl rfl (by decide) (Nat.le_of_ble_eq_true rfl) ⟨rfl, rfl⟩ (fun u_ hu_32 => ?_)
                                  obtain ⟨b_31, rfl⟩ : ∃ z, z = u_ := ⟨_, rfl⟩
                                  have hu_32 : (b_31 = 1 ∧ (q1 / 5 + 1 < q2 / 5 ∨ q2 / 5 + 1 < q1 / 5 ∨ q1 % 5 + 1 < q2 % 5 ∨ q2 % 5 + 1 < q1 % 5)) ∨ (b_31 = 0 ∧ (q1 / 5 ≤ q2 / 5 + 1 ∧ q2 / 5 ≤ q1 / 5 + 1 ∧ q1 % 5 ≤ q2 % 5 + 1 ∧ q2 % 5 ≤ q1 % 5 + 1)) := hu_32
                                  show V C 0 0 [gMod G a (nF tx) (nF to) (nF dr) (nF be) (nF s) (nF pa) (nF im) (nF ke) (nF no) (nF fa) (lN tr) (nI ty) (nI kn) (nI nd) (nI att) (nI so) (nI ss) (iI va)] 114 [some (.ref (a 0)), some (.int (nI x.toNat)), some (.int (iI y)), some (.int (iI m3)), some (.int (iI z3)), some (.int (nI q1)), some (.int (nI q2)), some (.int (nI q3)), none, none, none] [.int (nI b_31)]
                                  refine V_if_eqN X 146 dX12_best_114 (by decide) (by omega) (fun c_33 => ?_) (fun c_33 => ?_)
                                  · refine V_iconst X (nI 0) dX12_best_146 (by decide) ?_
                                    refine V_weak (lv' := [some (.ref (a 0)), some (.int (nI x.toNat)), some (.int (iI y)), some (.int (iI m3)), some (.int (iI z3)), some (.int (nI q1)), some (.int (nI q2)), some (.int (nI q3)), none, none, none]) (And.intro rfl (And.intro rfl (And.intro rfl (And.intro rfl (And.intro rfl (And.intro rfl (And.intro rfl (And.intro rfl trivial)))))))) ?_
                                    exact J_147_16 0 (by unfold mayP; omega)
                                  · refine V_iload_n X dX12_best_117 rfl ?_
                                    refine V_iconst X (nI 3) dX12_best_118 (by decide) ?_
                                    refine V_icmp_ltN X 142 dX12_best_119 (by decide) (by omega) (by decide) (fun c_34 => ?_) (fun c_34 => ?_)
                                    · refine V_iconst X (nI 1) dX12_best_142 (by decide) ?_
                                      refine V_goto X 147 dX12_best_143 (by decide) ?_
                                      refine V_weak (lv' := [some (.ref (a 0)), some (.int (nI x.toNat)), some (.int (iI y)), some (.int (iI m3)), some (.int (iI z3)), some (.int (nI q1)), some (.int (nI q2)), some (.int (nI q3)), none, none, none]) (And.intro rfl (And.intro rfl (And.intro rfl (And.intro rfl (And.intro rfl (And.intro rfl (And.intro rfl (And.intro rfl trivial)))))))) ?_
                                      exact J_147_16 1 (by unfold mayP; omega)
                                    · refine V_iload X dX12_best_122 rfl ?_
                                      refine V_iload X dX12_best_124 rfl ?_
                                      refine V_callS (rest := []) X (c_X12_areApart (Cl C) G q1 q3 (by first | assumption | omega) (by first | assumption | omega)) mi_X12_areApart kw_4_184 kw_4_185 dX12_best_126 [] rfl (by decide) rfl rfl (by decide) (Nat.le_of_ble_eq_true rfl) ⟨rfl, rfl⟩ (fun u_ hu_36 => ?_)
                                      obtain ⟨b_35, rfl⟩ : ∃ z, z = u_ := ⟨_, rfl⟩
                                      have hu_36 : (b_35 = 1 ∧ (q1 / 5 + 1 < q3 / 5 ∨ q3 / 5 + 1 < q1 / 5 ∨ q1 % 5 + 1 < q3 % 5 ∨ q3 % 5 + 1 < q1 % 5)) ∨ (b_35 = 0 ∧ (q1 / 5 ≤ q3 / 5 + 1 ∧ q3 / 5 ≤ q1 / 5 + 1 ∧ q1 % 5 ≤ q3 % 5 + 1 ∧ q3 % 5 ≤ q1 % 5 + 1)) := hu_36
                                      show V C 0 0 [gMod G a (nF tx) (nF to) (nF dr) (nF be) (nF s) (nF pa) (nF im) (nF ke) (nF no) (nF fa) (lN tr) (nI ty) (nI kn) (nI nd) (nI att) (nI so) (nI ss) (iI va)] 129 [some (.ref (a 0)), some (.int (nI x.toNat)), some (.int (iI y)), some (.int (iI m3)), some (.int (iI z3)), some (.int (nI q1)), some (.int (nI q2)), some (.int (nI q3)), none, none, none] [.int (nI b_35)]
                                      refine V_if_eqN X 146 dX12_best_129 (by decide) (by omega) (fun c_37 => ?_) (fun c_37 => ?_)
                                      · refine V_iconst X (nI 0) dX12_best_146 (by decide) ?_
                                        refine V_weak (lv' := [some (.ref (a 0)), some (.int (nI x.toNat)), some (.int (iI y)), some (.int (iI m3)), some (.int (iI z3)), some (.int (nI q1)), some (.int (nI q2)), some (.int (nI q3)), none, none, none]) (And.intro rfl (And.intro rfl (And.intro rfl (And.intro rfl (And.intro rfl (And.intro rfl (And.intro rfl (And.intro rfl trivial)))))))) ?_
                                        exact J_147_16 0 (by unfold mayP; omega)
                                      · refine V_iload X dX12_best_132 rfl ?_
                                        refine V_iload X dX12_best_134 rfl ?_
                                        refine V_callS (rest := []) X (c_X12_areApart (Cl C) G q2 q3 (by first | assumption | omega) (by first | assumption | omega)) mi_X12_areApart kw_4_184 kw_4_185 dX12_best_136 [] rfl (by decide) rfl rfl (by decide) (Nat.le_of_ble_eq_true rfl) ⟨rfl, rfl⟩ (fun u_ hu_39 => ?_)
                                        obtain ⟨b_38, rfl⟩ : ∃ z, z = u_ := ⟨_, rfl⟩
                                        have hu_39 : (b_38 = 1 ∧ (q2 / 5 + 1 < q3 / 5 ∨ q3 / 5 + 1 < q2 / 5 ∨ q2 % 5 + 1 < q3 % 5 ∨ q3 % 5 + 1 < q2 % 5)) ∨ (b_38 = 0 ∧ (q2 / 5 ≤ q3 / 5 + 1 ∧ q3 / 5 ≤ q2 / 5 + 1 ∧ q2 % 5 ≤ q3 % 5 + 1 ∧ q3 % 5 ≤ q2 % 5 + 1)) := hu_39
                                        show V C 0 0 [gMod G a (nF tx) (nF to) (nF dr) (nF be) (nF s) (nF pa) (nF im) (nF ke) (nF no) (nF fa) (lN tr) (nI ty) (nI kn) (nI nd) (nI att) (nI so) (nI ss) (iI va)] 139 [some (.ref (a 0)), some (.int (nI x.toNat)), some (.int (iI y)), some (.int (iI m3)), some (.int (iI z3)), some (.int (nI q1)), some (.int (nI q2)), some (.int (nI q3)), none, none, none] [.int (nI b_38)]
                                        refine V_if_eqN X 146 dX12_best_139 (by decide) (by omega) (fun c_40 => ?_) (fun c_40 => ?_)
                                        · refine V_iconst X (nI 0) dX12_best_146 (by decide) ?_
                                          refine V_weak (lv' := [some (.ref (a 0)), some (.int (nI x.toNat)), some (.int (iI y)), some (.int (iI m3)), some (.int (iI z3)), some (.int (nI q1)), some (.int (nI q2)), some (.int (nI q3)), none, none, none]) (And.intro rfl (And.intro rfl (And.intro rfl (And.intro rfl (And.intro rfl (And.intro rfl (And.intro rfl (And.intro rfl trivial)))))))) ?_
                                          exact J_147_16 0 (by unfold mayP; omega)
                                        · refine V_iconst X (nI 1) dX12_best_142 (by decide) ?_
                                          refine V_goto X 147 dX12_best_143 (by decide) ?_
                                          refine V_weak (lv' := [some (.ref (a 0)), some (.int (nI x.toNat)), some (.int (iI y)), some (.int (iI m3)), some (.int (iI z3)), some (.int (nI q1)), some (.int (nI q2)), some (.int (nI q3)), none, none, none]) (And.intro rfl (And.intro rfl (And.intro rfl (And.intro rfl (And.intro rfl (And.intro rfl (And.intro rfl (And.intro rfl trivial)))))))) ?_
                                          exact J_147_16 1 (by unfold mayP; omega)
                            refine V_icmp_leN X 97 dX12_best_89 (by decide) (by omega) (by decide) (fun c_14 => ?_) (fun c_14 => ?_)
                            · refine V_bipush X (nI 26) dX12_best_97 (by decide) ?_
                              refine V_weak (lv' := [some (.ref (a 0)), some (.int (nI x.toNat)), some (.int (iI y)), some (.int (iI m3)), some (.int (iI z3)), some (.int (nI q1)), some (.int (nI q2)), some (.int (nI q3)), none, none, none]) (And.intro rfl (And.intro rfl (And.intro rfl (And.intro rfl (And.intro rfl (And.intro rfl (And.intro rfl (And.intro rfl trivial)))))))) ?_
                              exact J_99_14 26 (by omega)
                            · refine V_bipush X (nI 25) dX12_best_92 (by decide) ?_
                              refine V_goto X 99 dX12_best_94 (by decide) ?_
                              refine V_weak (lv' := [some (.ref (a 0)), some (.int (nI x.toNat)), some (.int (iI y)), some (.int (iI m3)), some (.int (iI z3)), some (.int (nI q1)), some (.int (nI q2)), some (.int (nI q3)), none, none, none]) (And.intro rfl (And.intro rfl (And.intro rfl (And.intro rfl (And.intro rfl (And.intro rfl (And.intro rfl (And.intro rfl trivial)))))))) ?_
                              exact J_99_14 25 (by omega)
                        refine V_weak (lv' := [some (.ref (a 0)), some (.int (nI x.toNat)), some (.int (iI y)), some (.int (iI m2)), some (.int (iI z2)), some (.int (nI q1)), some (.int (nI q2)), some (.int (nI lo3)), none, none, none]) (And.intro rfl (And.intro rfl (And.intro rfl (And.intro rfl (And.intro rfl (And.intro rfl (And.intro rfl (And.intro rfl trivial)))))))) ?_
                        exact L_85 _ m2 z2 lo3 (by omega) (by omega) (by rw [hlo3]) (Nat.lt_succ_self _)
                      refine V_icmp_leN X 81 dX12_best_71 (by decide) (by omega) (by decide) (fun c_13 => ?_) (fun c_13 => ?_)
                      · refine V_bipush X (nI 25) dX12_best_81 (by decide) ?_
                        refine V_weak (lv' := [some (.ref (a 0)), some (.int (nI x.toNat)), some (.int (iI y)), some (.int (iI m2)), some (.int (iI z2)), some (.int (nI q1)), some (.int (nI q2)), none, none, none, none]) (And.intro rfl (And.intro rfl (And.intro rfl (And.intro rfl (And.intro rfl (And.intro rfl (And.intro rfl trivial))))))) ?_
                        exact J_83_13 25 (by omega)
                      · refine V_iload X dX12_best_74 rfl ?_
                        refine V_iconst X (nI 1) dX12_best_76 (by decide) ?_
                        refine V_iaddN X dX12_best_77 ?_
                        refine V_goto X 83 dX12_best_78 (by decide) ?_
                        refine V_weak (lv' := [some (.ref (a 0)), some (.int (nI x.toNat)), some (.int (iI y)), some (.int (iI m2)), some (.int (iI z2)), some (.int (nI q1)), some (.int (nI q2)), none, none, none, none]) (And.intro rfl (And.intro rfl (And.intro rfl (And.intro rfl (And.intro rfl (And.intro rfl (And.intro rfl trivial))))))) ?_
                        exact J_83_13 (q2 + 1) (by omega)
                  refine V_icmp_leN X 64 dX12_best_56 (by decide) (by omega) (by decide) (fun c_11 => ?_) (fun c_11 => ?_)
                  · refine V_bipush X (nI 26) dX12_best_64 (by decide) ?_
                    refine V_weak (lv' := [some (.ref (a 0)), some (.int (nI x.toNat)), some (.int (iI y)), some (.int (iI m2)), some (.int (iI z2)), some (.int (nI q1)), some (.int (nI q2)), none, none, none, none]) (And.intro rfl (And.intro rfl (And.intro rfl (And.intro rfl (And.intro rfl (And.intro rfl (And.intro rfl trivial))))))) ?_
                    exact J_66_11 26 (by omega)
                  · refine V_bipush X (nI 25) dX12_best_59 (by decide) ?_
                    refine V_goto X 66 dX12_best_61 (by decide) ?_
                    refine V_weak (lv' := [some (.ref (a 0)), some (.int (nI x.toNat)), some (.int (iI y)), some (.int (iI m2)), some (.int (iI z2)), some (.int (nI q1)), some (.int (nI q2)), none, none, none, none]) (And.intro rfl (And.intro rfl (And.intro rfl (And.intro rfl (And.intro rfl (And.intro rfl (And.intro rfl trivial))))))) ?_
                    exact J_66_11 25 (by omega)
              refine V_weak (lv' := [some (.ref (a 0)), some (.int (nI x.toNat)), some (.int (iI y)), some (.int (iI m1)), some (.int (iI z1)), some (.int (nI q1)), some (.int (nI lo)), none, none, none, none]) (And.intro rfl (And.intro rfl (And.intro rfl (And.intro rfl (And.intro rfl (And.intro rfl (And.intro rfl trivial))))))) ?_
              exact L_52 _ m1 z1 lo (by omega) (by omega) (by rw [hlo]) (Nat.lt_succ_self _)
            refine V_icmp_leN X 48 dX12_best_38 (by decide) (by omega) (by decide) (fun c_10 => ?_) (fun c_10 => ?_)
            · refine V_bipush X (nI 25) dX12_best_48 (by decide) ?_
              refine V_weak (lv' := [some (.ref (a 0)), some (.int (nI x.toNat)), some (.int (iI y)), some (.int (iI m1)), some (.int (iI z1)), some (.int (nI q1)), none, none, none, none, none]) (And.intro rfl (And.intro rfl (And.intro rfl (And.intro rfl (And.intro rfl (And.intro rfl trivial)))))) ?_
              exact J_50_10 25 (by omega)
            · refine V_iload X dX12_best_41 rfl ?_
              refine V_iconst X (nI 1) dX12_best_43 (by decide) ?_
              refine V_iaddN X dX12_best_44 ?_
              refine V_goto X 50 dX12_best_45 (by decide) ?_
              refine V_weak (lv' := [some (.ref (a 0)), some (.int (nI x.toNat)), some (.int (iI y)), some (.int (iI m1)), some (.int (iI z1)), some (.int (nI q1)), none, none, none, none, none]) (And.intro rfl (And.intro rfl (And.intro rfl (And.intro rfl (And.intro rfl (And.intro rfl trivial)))))) ?_
              exact J_50_10 (q1 + 1) (by omega)
      refine V_weak (lv' := [some (.ref (a 0)), some (.int (nI x.toNat)), some (.int (iI y)), some (.int (-1)), some (.int (-9)), some (.int (nI 0)), none, none, none, none, none]) (And.intro rfl (And.intro rfl (And.intro rfl (And.intro rfl (And.intro rfl (And.intro rfl trivial)))))) ?_
      exact L_29 _ (-1) (-9) 0 (by omega) (by omega) rfl (Nat.lt_succ_self _)
    · refine V_iconst X (-1) dX12_best_18 (by decide) ?_
      exact V_iret X Y () trivial (mv_ri (by unfold mBest; rw [if_neg (by omega)]; rfl)) rfl rfl dX12_best_19
