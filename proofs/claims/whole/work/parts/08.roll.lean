set_option maxHeartbeats 4000000 in
set_option maxRecDepth 100000 in
theorem c_J7_fill_53178 (l : Launch) (G : mvG) (x : Nat) (m : Nat) (f : Nat → Int32) (v : Int32) (hm : m < 1000) : KQ l yJ7_fill_53178 cJ7_fill_53178 4 none (0, 0) G [.ref x, .int v] [gArr G x m f] (fun (_ : Unit) => none) (fun (_ : Unit) => True) (fun (_ : Unit) => [gArr G x m (fun _ => v)]) := by
  refine KQ.mk (by decide +kernel) (fun _ _ => rfl) [some (.ref x), some (.int v), none, none] (Nat.le_of_ble_eq_true rfl) rfl (fun C X Y hC => ?_)
  subst hC
  refine V_iconst X (nI 0) dJ7_fill_53178_0 (by decide) ?_
  refine V_istore_n X dJ7_fill_53178_1 (by decide) rfl ?_
  refine V_aload_n X dJ7_fill_53178_2 rfl ?_
  refine V_alen X (t0 := 0) 0 0 (nI m) rfl rfl rfl rfl dJ7_fill_53178_3 ?_
  refine V_istore_n X dJ7_fill_53178_4 (by decide) rfl ?_
  have L_5 : ∀ (fz_5 : Nat) (k : Nat) (g : Nat → Int32) (hk : k ≤ m) (hg : ∀ j, g j = if j < k then v else f j), (m - k) < fz_5 → V C 0 0 [gArr G x m g] 5 [some (.ref x), some (.int v), some (.int (nI k)), some (.int (nI m))] [] := by
    intro fz_5
    induction fz_5 with
    | zero => intro k g hk hg hf_5; exact absurd hf_5 (Nat.not_lt_zero _)
    | succ fz_5 ih_5 =>
      intro k g hk hg hf_5
      refine V_iload_n X dJ7_fill_53178_5 rfl ?_
      refine V_iload_n X dJ7_fill_53178_6 rfl ?_
      refine V_icmp_geN X 20 dJ7_fill_53178_7 (by decide) (by omega) (by omega) (fun c_1 => ?_) (fun c_1 => ?_)
      · refine V_arr (fun _ => v) 0 0 rfl rfl (fun j hj => by rw [hg, if_pos (by omega)]) ?_
        show V C 0 0 [gArr G x m (fun _ => v)] 20 [some (.ref x), some (.int v), some (.int (nI k)), some (.int (nI m))] []
        exact V_vret X Y () trivial rfl rfl dJ7_fill_53178_20
      · refine V_aload_n X dJ7_fill_53178_10 rfl ?_
        refine V_iload_n X dJ7_fill_53178_11 rfl ?_
        refine V_iload_n X dJ7_fill_53178_12 rfl ?_
        refine V_iastR X 0 0 rfl rfl (by omega) (by omega) dJ7_fill_53178_13 ?_
        show V C 0 0 [gArr G x m (upd g k v)] 14 [some (.ref x), some (.int v), some (.int (nI k)), some (.int (nI m))] []
        refine V_iincN X (c := 1) dJ7_fill_53178_14 rfl (by decide) rfl ?_
        refine V_goto X 5 dJ7_fill_53178_17 (by decide) ?_
        refine V_weak (lv' := [some (.ref x), some (.int v), some (.int (nI (k + 1))), some (.int (nI m))]) (And.intro rfl (And.intro rfl (And.intro rfl (And.intro rfl trivial)))) ?_
        exact ih_5 (k + 1) (upd g k v) (by omega) (fun j => by simp only [upd, hg]; (repeat' split) <;> first | rfl | omega) (by omega)
  refine V_weak (lv' := [some (.ref x), some (.int v), some (.int (nI 0)), some (.int (nI m))]) (And.intro rfl (And.intro rfl (And.intro rfl (And.intro rfl trivial)))) ?_
  exact L_5 _ 0 f (by omega) (fun j => by rw [if_neg (by omega)]) (Nat.lt_succ_self _)
section VFILL
variable {C : Cx} {cc : ByteArray} {own : String} {nL : Nat} {G : mvG} {gs : List va_W} {pc : Nat} {lv : List (Option Value)} {st : List Value}
theorem V_fillI {g : va_W} {a n idx rf rl : Nat} {f : Nat → Int32} {x : Int32} (X : OK C cc own nL { frames := rf, locals := rl } G) (hlk : Cond.methodLink own idx yJ7_fill_53178 ∈ TB) (hst : Cond.static yJ7_fill_53178 ∈ TB) (d : decode cc pc = .ok (.invokestatic idx, 3)) (i j : Nat) (hg : gs[i]? = some g) (hj : g[j]? = some (a, .inl (G.2.1 0, n, .inl f))) (hn : n < 1000) (hf : 1 ≤ rf) (hsm : (st.map fun v => v.category).sum ≤ 8) (hl0 : 23 ≤ rl)
    (k : V C 0 0 (gs.set i (g.set j (a, .inl (G.2.1 0, n, .inl (fun _ => x))))) (pc + 3) lv st) : V C 0 0 gs pc lv (.int x :: .ref a :: st) := by
  have hj2 := (List.getElem?_eq_some_iff.mp hj).1
  have hsame : gs.set i (g.set j (a, .inl (G.2.1 0, n, .inl f))) = gs := by
    have e1 : g.set j (a, .inl (G.2.1 0, n, .inl f)) = g := by
      apply List.ext_getElem?
      intro q
      rw [List.getElem?_set]
      split
      · rename_i e
        subst e
        first | exact hj.symm | rw [if_pos hj2, hj]
      · rfl
    rw [e1]
    apply List.ext_getElem?
    intro q
    rw [List.getElem?_set]
    split
    · rename_i e
      subst e
      rw [if_pos (List.getElem?_eq_some_iff.mp hg).1, hg]
    · rfl
  have p1 := pull_perm gs i j g (a, .inl (G.2.1 0, n, .inl f)) hg hj2
  rw [hsame] at p1
  refine V_perm p1 ?_
  refine V_callS (rest := st) X (c_J7_fill_53178 (Cl C) G a n f x hn) mi_J7_fill_53178 hlk hst d [(gs.set i (g.eraseIdx j)).length] (by simp [gArr]) (by simp) rfl rfl ⟨by simpa using hf, by simpa using hl0⟩ hsm ⟨rfl, rfl⟩ (fun _ _ => ?_)
  rw [show gput (gs.set i (g.eraseIdx j) ++ [[(a, .inl (G.2.1 0, n, .inl f))]]) [(gs.set i (g.eraseIdx j)).length] [gArr G a n (fun _ => x)] = gs.set i (g.eraseIdx j) ++ [gArr G a n (fun _ => x)] from gput_last _ _ _]
  exact V_perm (pull_perm gs i j g (a, .inl (G.2.1 0, n, .inl (fun _ => x))) hg hj2).symm k
end VFILL
/-- the sum of f over the bits of s below p -/
def bSum (f : Nat → Nat) (s : Nat) : Nat → Nat
  | 0 => 0
  | p + 1 => bSum f s p + (if s &&& 2 ^ p = 0 then 0 else f p)
set_option maxHeartbeats 4000000 in
set_option maxRecDepth 100000 in
theorem c_X7_reset (l : Launch) (G : mvG) (a : Nat → Nat) (w : Nat → Nat) (v : Nat → Nat) (n : Nat) (k : Nat) : KQ l yX7_reset cX7_reset 1 none (0, 0) G [.ref (a 0)] [gRoll G a (nF w) (nF v) (nI n) (nI k)] (fun (_ : Unit) => none) (fun (_ : Unit) => True) (fun (_ : Unit) => [gRoll G a (nF w) (nF v) (nI 0) (nI 1)]) := by
  refine KQ.mk (by decide +kernel) (fun _ _ => rfl) [some (.ref (a 0))] (Nat.le_of_ble_eq_true rfl) rfl (fun C X Y hC => ?_)
  subst hC
  refine V_aload_n X dX7_reset_0 rfl ?_
  refine V_iconst X (nI 0) dX7_reset_1 (by decide) ?_
  refine V_put X fl_X7_22 0 0 rfl rfl rfl rfl (Nat.le_of_ble_eq_true rfl) dX7_reset_2 ?_
  show V C 0 0 [gRoll G a (nF w) (nF v) (nI 0) (nI k)] 5 [some (.ref (a 0))] []
  refine V_aload_n X dX7_reset_5 rfl ?_
  refine V_iconst X (nI 1) dX7_reset_6 (by decide) ?_
  refine V_put X fl_X7_18 0 0 rfl rfl rfl rfl (Nat.le_of_ble_eq_true rfl) dX7_reset_7 ?_
  show V C 0 0 [gRoll G a (nF w) (nF v) (nI 0) (nI 1)] 10 [some (.ref (a 0))] []
  exact V_vret X Y () trivial rfl rfl dX7_reset_10
set_option maxHeartbeats 4000000 in
set_option maxRecDepth 100000 in
theorem c_X7_copyFrom (l : Launch) (G : mvG) (a : Nat → Nat) (w : Nat → Nat) (v : Nat → Nat) (n : Nat) (k : Nat) (b : Nat → Nat) (w2 : Nat → Nat) (v2 : Nat → Nat) (n2 : Nat) (k2 : Nat) : KQ l yX7_copyFrom cX7_copyFrom 2 none (1, 18) G [.ref (a 0), .ref (b 0)] [gRoll G a (nF w) (nF v) (nI n) (nI k), gRoll G b (nF w2) (nF v2) (nI n2) (nI k2)] (fun (_ : Unit) => none) (fun (_ : Unit) => True) (fun (_ : Unit) => [gRoll G a (nF w2) (nF v2) (nI n2) (nI k2), gRoll G b (nF w2) (nF v2) (nI n2) (nI k2)]) := by
  refine KQ.mk (by decide +kernel) (fun _ _ => rfl) [some (.ref (a 0)), some (.ref (b 0))] (Nat.le_of_ble_eq_true rfl) rfl (fun C X Y hC => ?_)
  subst hC
  refine V_aload_n X dX7_copyFrom_0 rfl ?_
  refine V_get X fl_X7_9 1 0 rfl rfl rfl dX7_copyFrom_1 ?_
  refine V_iconst X (nI 0) dX7_copyFrom_4 (by decide) ?_
  refine V_aload_n X dX7_copyFrom_5 rfl ?_
  refine V_get X fl_X7_9 0 0 rfl rfl rfl dX7_copyFrom_6 ?_
  refine V_iconst X (nI 0) dX7_copyFrom_9 (by decide) ?_
  refine V_iconst X (nI 5) dX7_copyFrom_10 (by decide) ?_
  refine V_copy X kw_2_121 dX7_copyFrom_11 1 1 0 1 rfl rfl rfl rfl (by decide) (by decide) (Nat.le_of_ble_eq_true rfl) ?_
  show V C 0 0 [gRoll G a (nF w2) (nF v) (nI n) (nI k), gRoll G b (nF w2) (nF v2) (nI n2) (nI k2)] 14 [some (.ref (a 0)), some (.ref (b 0))] []
  refine V_aload_n X dX7_copyFrom_14 rfl ?_
  refine V_get X fl_X7_15 1 0 rfl rfl rfl dX7_copyFrom_15 ?_
  refine V_iconst X (nI 0) dX7_copyFrom_18 (by decide) ?_
  refine V_aload_n X dX7_copyFrom_19 rfl ?_
  refine V_get X fl_X7_15 0 0 rfl rfl rfl dX7_copyFrom_20 ?_
  refine V_iconst X (nI 0) dX7_copyFrom_23 (by decide) ?_
  refine V_iconst X (nI 5) dX7_copyFrom_24 (by decide) ?_
  refine V_copy X kw_2_121 dX7_copyFrom_25 1 2 0 2 rfl rfl rfl rfl (by decide) (by decide) (Nat.le_of_ble_eq_true rfl) ?_
  show V C 0 0 [gRoll G a (nF w2) (nF v2) (nI n) (nI k), gRoll G b (nF w2) (nF v2) (nI n2) (nI k2)] 28 [some (.ref (a 0)), some (.ref (b 0))] []
  refine V_aload_n X dX7_copyFrom_28 rfl ?_
  refine V_aload_n X dX7_copyFrom_29 rfl ?_
  refine V_get X fl_X7_22 1 0 rfl rfl rfl dX7_copyFrom_30 ?_
  refine V_put X fl_X7_22 0 0 rfl rfl rfl rfl (Nat.le_of_ble_eq_true rfl) dX7_copyFrom_33 ?_
  show V C 0 0 [gRoll G a (nF w2) (nF v2) (nI n2) (nI k), gRoll G b (nF w2) (nF v2) (nI n2) (nI k2)] 36 [some (.ref (a 0)), some (.ref (b 0))] []
  refine V_aload_n X dX7_copyFrom_36 rfl ?_
  refine V_aload_n X dX7_copyFrom_37 rfl ?_
  refine V_get X fl_X7_18 1 0 rfl rfl rfl dX7_copyFrom_38 ?_
  refine V_put X fl_X7_18 0 0 rfl rfl rfl rfl (Nat.le_of_ble_eq_true rfl) dX7_copyFrom_41 ?_
  show V C 0 0 [gRoll G a (nF w2) (nF v2) (nI n2) (nI k2), gRoll G b (nF w2) (nF v2) (nI n2) (nI k2)] 44 [some (.ref (a 0)), some (.ref (b 0))] []
  exact V_vret X Y () trivial rfl rfl dX7_copyFrom_44
set_option maxHeartbeats 4000000 in
set_option maxRecDepth 100000 in
theorem c_X7_add (l : Launch) (G : mvG) (a : Nat → Nat) (w : Nat → Nat) (v : Nat → Nat) (n : Nat) (k : Nat) (x : Nat) (y : Nat) (hn : n < 5) : KQ l yX7_add cX7_add 3 none (0, 0) G [.ref (a 0), .int (nI x), .int (nI y)] [gRoll G a (nF w) (nF v) (nI n) (nI k)] (fun (_ : Unit) => none) (fun (_ : Unit) => True) (fun (_ : Unit) => [gRoll G a (nF (va_up w n x)) (nF (va_up v n y)) (nI (n + 1)) (nI k)]) := by
  refine KQ.mk (by decide +kernel) (fun _ _ => rfl) [some (.ref (a 0)), some (.int (nI x)), some (.int (nI y))] (Nat.le_of_ble_eq_true rfl) rfl (fun C X Y hC => ?_)
  subst hC
  refine V_aload_n X dX7_add_0 rfl ?_
  refine V_get X fl_X7_22 0 0 rfl rfl rfl dX7_add_1 ?_
  refine V_if_ltN X dX7_add_4 45 (by decide) (by omega) ?_
  refine V_aload_n X dX7_add_7 rfl ?_
  refine V_get X fl_X7_22 0 0 rfl rfl rfl dX7_add_8 ?_
  refine V_iconst X (nI 5) dX7_add_11 (by decide) ?_
  refine V_icmp_geN X 45 dX7_add_12 (by decide) (by omega) (by decide) (fun c_2 => ?_) (fun c_2 => ?_)
  · exfalso; omega
  · refine V_aload_n X dX7_add_15 rfl ?_
    refine V_get X fl_X7_9 0 0 rfl rfl rfl dX7_add_16 ?_
    refine V_aload_n X dX7_add_19 rfl ?_
    refine V_get X fl_X7_22 0 0 rfl rfl rfl dX7_add_20 ?_
    refine V_iload_n X dX7_add_23 rfl ?_
    refine V_iastN X 0 1 rfl rfl (by omega) (by decide) dX7_add_24 ?_
    show V C 0 0 [gRoll G a (nF (va_up w n x)) (nF v) (nI n) (nI k)] 25 [some (.ref (a 0)), some (.int (nI x)), some (.int (nI y))] []
    refine V_aload_n X dX7_add_25 rfl ?_
    refine V_get X fl_X7_15 0 0 rfl rfl rfl dX7_add_26 ?_
    refine V_aload_n X dX7_add_29 rfl ?_
    refine V_get X fl_X7_22 0 0 rfl rfl rfl dX7_add_30 ?_
    refine V_iload_n X dX7_add_33 rfl ?_
    refine V_iastN X 0 2 rfl rfl (by omega) (by decide) dX7_add_34 ?_
    show V C 0 0 [gRoll G a (nF (va_up w n x)) (nF (va_up v n y)) (nI n) (nI k)] 35 [some (.ref (a 0)), some (.int (nI x)), some (.int (nI y))] []
    refine V_aload_n X dX7_add_35 rfl ?_
    refine V_dup X dX7_add_36 rfl ?_
    refine V_get X fl_X7_22 0 0 rfl rfl rfl dX7_add_37 ?_
    refine V_iconst X (nI 1) dX7_add_40 (by decide) ?_
    refine V_iaddN X dX7_add_41 ?_
    refine V_put X fl_X7_22 0 0 rfl rfl rfl rfl (Nat.le_of_ble_eq_true rfl) dX7_add_42 ?_
    show V C 0 0 [gRoll G a (nF (va_up w n x)) (nF (va_up v n y)) (nI (n + 1)) (nI k)] 45 [some (.ref (a 0)), some (.int (nI x)), some (.int (nI y))] []
    exact V_vret X Y () trivial rfl rfl dX7_add_45
set_option maxHeartbeats 4000000 in
set_option maxRecDepth 100000 in
theorem c_X7_has (l : Launch) (G : mvG) (a : Nat → Nat) (w : Nat → Nat) (v : Nat → Nat) (n : Nat) (k : Nat) (p : Int) (hn : n ≤ 5) (hp : -2147483648 ≤ p ∧ p < 2147483648) : KQ l yX7_has cX7_has 2 (some .boolean) (0, 0) G [.ref (a 0), .int (iI p)] [gRoll G a (nF w) (nF v) (nI n) (nI k)] (fun (zz : Nat) => some (.int (nI zz))) (fun (zz : Nat) => (zz = 1 ∧ 0 ≤ p ∧ p < (n : Int)) ∨ (zz = 0 ∧ (p < 0 ∨ (n : Int) ≤ p))) (fun (zz : Nat) => [gRoll G a (nF w) (nF v) (nI n) (nI k)]) := by
  refine KQ.mk (by decide +kernel) (fun _ _ => rfl) [some (.ref (a 0)), some (.int (iI p))] (Nat.le_of_ble_eq_true rfl) rfl (fun C X Y hC => ?_)
  subst hC
  refine V_iload_n X dX7_has_0 rfl ?_
  refine V_if_ltI (i := p) X 16 dX7_has_1 (by decide) (iI_toInt (by omega) (by omega)) (fun c_1 => ?_) (fun c_1 => ?_)
  · refine V_iconst X (nI 0) dX7_has_16 (by decide) ?_
    exact V_iret X Y 0 (by omega) rfl rfl rfl dX7_has_17
  · refine V_iload_n X dX7_has_4 rfl ?_
    refine V_aload_n X dX7_has_5 rfl ?_
    refine V_get X fl_X7_22 0 0 rfl rfl rfl dX7_has_6 ?_
    refine V_icmp_geI (i := p) (j := ((n : Nat) : Int)) X 16 dX7_has_9 (by decide) (iI_toInt (by omega) (by omega)) (nI_toInt (by omega)) (fun c_2 => ?_) (fun c_2 => ?_)
    · refine V_iconst X (nI 0) dX7_has_16 (by decide) ?_
      exact V_iret X Y 0 (by omega) rfl rfl rfl dX7_has_17
    · refine V_iconst X (nI 1) dX7_has_12 (by decide) ?_
      refine V_goto X 17 dX7_has_13 (by decide) ?_
      exact V_iret X Y 1 (by omega) rfl rfl rfl dX7_has_17
set_option maxHeartbeats 4000000 in
set_option maxRecDepth 100000 in
theorem c_X7_sets (l : Launch) (G : mvG) (a : Nat → Nat) (w : Nat → Nat) (v : Nat → Nat) (n : Nat) (k : Nat) (hn : n ≤ 5) : KQ l yX7_sets cX7_sets 1 (some .int) (0, 0) G [.ref (a 0)] [gRoll G a (nF w) (nF v) (nI n) (nI k)] (fun (_ : Unit) => some (.int (nI (2 ^ n)))) (fun (_ : Unit) => True) (fun (_ : Unit) => [gRoll G a (nF w) (nF v) (nI n) (nI k)]) := by
  refine KQ.mk (by decide +kernel) (fun _ _ => rfl) [some (.ref (a 0))] (Nat.le_of_ble_eq_true rfl) rfl (fun C X Y hC => ?_)
  subst hC
  refine V_iconst X (nI 1) dX7_sets_0 (by decide) ?_
  refine V_aload_n X dX7_sets_1 rfl ?_
  refine V_get X fl_X7_22 0 0 rfl rfl rfl dX7_sets_2 ?_
  refine V_ishl1N X dX7_sets_5 (by omega) ?_
  exact V_iret X Y () trivial rfl rfl rfl dX7_sets_6
set_option maxHeartbeats 4000000 in
set_option maxRecDepth 100000 in
theorem c_X7_weightOf (l : Launch) (G : mvG) (a : Nat → Nat) (w : Nat → Nat) (v : Nat → Nat) (n : Nat) (k : Nat) (p : Nat) (hp : p < 5) : KQ l yX7_weightOf cX7_weightOf 2 (some .int) (0, 0) G [.ref (a 0), .int (nI p)] [gRoll G a (nF w) (nF v) (nI n) (nI k)] (fun (_ : Unit) => some (.int (nI (w p)))) (fun (_ : Unit) => True) (fun (_ : Unit) => [gRoll G a (nF w) (nF v) (nI n) (nI k)]) := by
  refine KQ.mk (by decide +kernel) (fun _ _ => rfl) [some (.ref (a 0)), some (.int (nI p))] (Nat.le_of_ble_eq_true rfl) rfl (fun C X Y hC => ?_)
  subst hC
  refine V_iload_n X dX7_weightOf_0 rfl ?_
  refine V_if_ltN X dX7_weightOf_1 22 (by decide) (by omega) ?_
  refine V_iload_n X dX7_weightOf_4 rfl ?_
  refine V_aload_n X dX7_weightOf_5 rfl ?_
  refine V_get X fl_X7_9 0 0 rfl rfl rfl dX7_weightOf_6 ?_
  refine V_alen X (t0 := 0) 0 1 (nI 5) rfl rfl rfl rfl dX7_weightOf_9 ?_
  refine V_icmp_geN X 22 dX7_weightOf_10 (by decide) (by omega) (by decide) (fun c_2 => ?_) (fun c_2 => ?_)
  · exfalso; omega
  · refine V_aload_n X dX7_weightOf_13 rfl ?_
    refine V_get X fl_X7_9 0 0 rfl rfl rfl dX7_weightOf_14 ?_
    refine V_iload_n X dX7_weightOf_17 rfl ?_
    refine V_ialdN X 0 1 rfl rfl (by omega) (by decide) dX7_weightOf_18 ?_
    refine V_goto X 23 dX7_weightOf_19 (by decide) ?_
    exact V_iret X Y () trivial rfl rfl rfl dX7_weightOf_23
set_option maxHeartbeats 4000000 in
set_option maxRecDepth 100000 in
theorem c_X7_voicesOf (l : Launch) (G : mvG) (a : Nat → Nat) (w : Nat → Nat) (v : Nat → Nat) (n : Nat) (k : Nat) (p : Nat) (hp : p < 5) : KQ l yX7_voicesOf cX7_voicesOf 2 (some .int) (0, 0) G [.ref (a 0), .int (nI p)] [gRoll G a (nF w) (nF v) (nI n) (nI k)] (fun (_ : Unit) => some (.int (nI (v p)))) (fun (_ : Unit) => True) (fun (_ : Unit) => [gRoll G a (nF w) (nF v) (nI n) (nI k)]) := by
  refine KQ.mk (by decide +kernel) (fun _ _ => rfl) [some (.ref (a 0)), some (.int (nI p))] (Nat.le_of_ble_eq_true rfl) rfl (fun C X Y hC => ?_)
  subst hC
  refine V_iload_n X dX7_voicesOf_0 rfl ?_
  refine V_if_ltN X dX7_voicesOf_1 22 (by decide) (by omega) ?_
  refine V_iload_n X dX7_voicesOf_4 rfl ?_
  refine V_aload_n X dX7_voicesOf_5 rfl ?_
  refine V_get X fl_X7_15 0 0 rfl rfl rfl dX7_voicesOf_6 ?_
  refine V_alen X (t0 := 0) 0 2 (nI 5) rfl rfl rfl rfl dX7_voicesOf_9 ?_
  refine V_icmp_geN X 22 dX7_voicesOf_10 (by decide) (by omega) (by decide) (fun c_2 => ?_) (fun c_2 => ?_)
  · exfalso; omega
  · refine V_aload_n X dX7_voicesOf_13 rfl ?_
    refine V_get X fl_X7_15 0 0 rfl rfl rfl dX7_voicesOf_14 ?_
    refine V_iload_n X dX7_voicesOf_17 rfl ?_
    refine V_ialdN X 0 2 rfl rfl (by omega) (by decide) dX7_voicesOf_18 ?_
    refine V_goto X 23 dX7_voicesOf_19 (by decide) ?_
    exact V_iret X Y () trivial rfl rfl rfl dX7_voicesOf_23
set_option maxHeartbeats 4000000 in
set_option maxRecDepth 100000 in
theorem c_X7_together_1 (l : Launch) (G : mvG) (a : Nat → Nat) (w : Nat → Nat) (v : Nat → Nat) (n : Nat) (k : Nat) (s : Nat) (hn : n ≤ 5) (hs : s < 32) : KQ l yX7_together cX7_together 5 (some .int) (0, 0) G [.ref (a 0), .ref (a 1), .int (nI s)] [gRoll G a (nF w) (nF v) (nI n) (nI k)] (fun (_ : Unit) => some (.int (nI (bSum w s n)))) (fun (_ : Unit) => True) (fun (_ : Unit) => [gRoll G a (nF w) (nF v) (nI n) (nI k)]) := by
  refine KQ.mk (by decide +kernel) (fun _ _ => rfl) [some (.ref (a 0)), some (.ref (a 1)), some (.int (nI s)), none, none] (Nat.le_of_ble_eq_true rfl) rfl (fun C X Y hC => ?_)
  subst hC
  refine V_iconst X (nI 0) dX7_together_0 (by decide) ?_
  refine V_istore_n X dX7_together_1 (by decide) rfl ?_
  refine V_iconst X (nI 0) dX7_together_2 (by decide) ?_
  refine V_istore X dX7_together_3 (by decide) rfl ?_
  have L_5 : ∀ (fz_5 : Nat) (x : Nat) (p : Nat) (hp : p ≤ n) (hx : x = bSum w s p), (n - p) < fz_5 → V C 0 0 [gRoll G a (nF w) (nF v) (nI n) (nI k)] 5 [some (.ref (a 0)), some (.ref (a 1)), some (.int (nI s)), some (.int (nI x)), some (.int (nI p))] [] := by
    intro fz_5
    induction fz_5 with
    | zero => intro x p hp hx hf_5; exact absurd hf_5 (Nat.not_lt_zero _)
    | succ fz_5 ih_5 =>
      intro x p hp hx hf_5
      refine V_iload X dX7_together_5 rfl ?_
      refine V_aload_n X dX7_together_7 rfl ?_
      refine V_get X fl_X7_22 0 0 rfl rfl rfl dX7_together_8 ?_
      refine V_icmp_geN X 43 dX7_together_11 (by decide) (by omega) (by omega) (fun c_1 => ?_) (fun c_1 => ?_)
      · refine V_iload_n X dX7_together_43 rfl ?_
        exact V_iret X Y () trivial (mv_rn (by rw [hx, show p = n by omega])) rfl rfl dX7_together_44
      · refine V_iload X dX7_together_14 rfl ?_
        refine V_aload_n X dX7_together_16 rfl ?_
        refine V_alen X (t0 := 0) 0 1 (nI 5) rfl rfl rfl rfl dX7_together_17 ?_
        refine V_icmp_geN X 43 dX7_together_18 (by decide) (by omega) (by decide) (fun c_2 => ?_) (fun c_2 => ?_)
        · exfalso; omega
        · refine V_iload_n X dX7_together_21 rfl ?_
          refine V_iconst X (nI 1) dX7_together_22 (by decide) ?_
          refine V_iload X dX7_together_23 rfl ?_
          refine V_ishl1N X dX7_together_25 (by omega) ?_
          refine V_iandN X dX7_together_26 ?_
          refine V_if_eqN X 37 dX7_together_27 (by decide) (by first | omega | exact Nat.lt_of_le_of_lt Nat.and_le_left (by omega)) (fun c_3 => ?_) (fun c_3 => ?_)
          · refine V_iincN X (c := 1) dX7_together_37 rfl (by decide) rfl ?_
            refine V_goto X 5 dX7_together_40 (by decide) ?_
            refine V_weak (lv' := [some (.ref (a 0)), some (.ref (a 1)), some (.int (nI s)), some (.int (nI x)), some (.int (nI (p + 1)))]) (And.intro rfl (And.intro rfl (And.intro rfl (And.intro rfl (And.intro rfl trivial))))) ?_
            exact ih_5 x (p + 1) (by omega) (by simp only [bSum, hx, if_pos c_3, Nat.add_zero]) (by omega)
          · refine V_iload_n X dX7_together_30 rfl ?_
            refine V_aload_n X dX7_together_31 rfl ?_
            refine V_iload X dX7_together_32 rfl ?_
            refine V_ialdN X 0 1 rfl rfl (by omega) (by decide) dX7_together_34 ?_
            refine V_iaddN X dX7_together_35 ?_
            refine V_istore_n X dX7_together_36 (by decide) rfl ?_
            refine V_iincN X (c := 1) dX7_together_37 rfl (by decide) rfl ?_
            refine V_goto X 5 dX7_together_40 (by decide) ?_
            refine V_weak (lv' := [some (.ref (a 0)), some (.ref (a 1)), some (.int (nI s)), some (.int (nI (x + (w p)))), some (.int (nI (p + 1)))]) (And.intro rfl (And.intro rfl (And.intro rfl (And.intro rfl (And.intro rfl trivial))))) ?_
            exact ih_5 (x + (w p)) (p + 1) (by omega) (by simp only [bSum, hx, if_neg c_3, Nat.add_zero]) (by omega)
  refine V_weak (lv' := [some (.ref (a 0)), some (.ref (a 1)), some (.int (nI s)), some (.int (nI 0)), some (.int (nI 0))]) (And.intro rfl (And.intro rfl (And.intro rfl (And.intro rfl (And.intro rfl trivial))))) ?_
  exact L_5 _ 0 0 (by omega) rfl (Nat.lt_succ_self _)
set_option maxHeartbeats 4000000 in
set_option maxRecDepth 100000 in
theorem c_X7_together_2 (l : Launch) (G : mvG) (a : Nat → Nat) (w : Nat → Nat) (v : Nat → Nat) (n : Nat) (k : Nat) (s : Nat) (hn : n ≤ 5) (hs : s < 32) : KQ l yX7_together cX7_together 5 (some .int) (0, 0) G [.ref (a 0), .ref (a 2), .int (nI s)] [gRoll G a (nF w) (nF v) (nI n) (nI k)] (fun (_ : Unit) => some (.int (nI (bSum v s n)))) (fun (_ : Unit) => True) (fun (_ : Unit) => [gRoll G a (nF w) (nF v) (nI n) (nI k)]) := by
  refine KQ.mk (by decide +kernel) (fun _ _ => rfl) [some (.ref (a 0)), some (.ref (a 2)), some (.int (nI s)), none, none] (Nat.le_of_ble_eq_true rfl) rfl (fun C X Y hC => ?_)
  subst hC
  refine V_iconst X (nI 0) dX7_together_0 (by decide) ?_
  refine V_istore_n X dX7_together_1 (by decide) rfl ?_
  refine V_iconst X (nI 0) dX7_together_2 (by decide) ?_
  refine V_istore X dX7_together_3 (by decide) rfl ?_
  have L_5 : ∀ (fz_5 : Nat) (x : Nat) (p : Nat) (hp : p ≤ n) (hx : x = bSum v s p), (n - p) < fz_5 → V C 0 0 [gRoll G a (nF w) (nF v) (nI n) (nI k)] 5 [some (.ref (a 0)), some (.ref (a 2)), some (.int (nI s)), some (.int (nI x)), some (.int (nI p))] [] := by
    intro fz_5
    induction fz_5 with
    | zero => intro x p hp hx hf_5; exact absurd hf_5 (Nat.not_lt_zero _)
    | succ fz_5 ih_5 =>
      intro x p hp hx hf_5
      refine V_iload X dX7_together_5 rfl ?_
      refine V_aload_n X dX7_together_7 rfl ?_
      refine V_get X fl_X7_22 0 0 rfl rfl rfl dX7_together_8 ?_
      refine V_icmp_geN X 43 dX7_together_11 (by decide) (by omega) (by omega) (fun c_1 => ?_) (fun c_1 => ?_)
      · refine V_iload_n X dX7_together_43 rfl ?_
        exact V_iret X Y () trivial (mv_rn (by rw [hx, show p = n by omega])) rfl rfl dX7_together_44
      · refine V_iload X dX7_together_14 rfl ?_
        refine V_aload_n X dX7_together_16 rfl ?_
        refine V_alen X (t0 := 0) 0 2 (nI 5) rfl rfl rfl rfl dX7_together_17 ?_
        refine V_icmp_geN X 43 dX7_together_18 (by decide) (by omega) (by decide) (fun c_2 => ?_) (fun c_2 => ?_)
        · exfalso; omega
        · refine V_iload_n X dX7_together_21 rfl ?_
          refine V_iconst X (nI 1) dX7_together_22 (by decide) ?_
          refine V_iload X dX7_together_23 rfl ?_
          refine V_ishl1N X dX7_together_25 (by omega) ?_
          refine V_iandN X dX7_together_26 ?_
          refine V_if_eqN X 37 dX7_together_27 (by decide) (by first | omega | exact Nat.lt_of_le_of_lt Nat.and_le_left (by omega)) (fun c_3 => ?_) (fun c_3 => ?_)
          · refine V_iincN X (c := 1) dX7_together_37 rfl (by decide) rfl ?_
            refine V_goto X 5 dX7_together_40 (by decide) ?_
            refine V_weak (lv' := [some (.ref (a 0)), some (.ref (a 2)), some (.int (nI s)), some (.int (nI x)), some (.int (nI (p + 1)))]) (And.intro rfl (And.intro rfl (And.intro rfl (And.intro rfl (And.intro rfl trivial))))) ?_
            exact ih_5 x (p + 1) (by omega) (by simp only [bSum, hx, if_pos c_3, Nat.add_zero]) (by omega)
          · refine V_iload_n X dX7_together_30 rfl ?_
            refine V_aload_n X dX7_together_31 rfl ?_
            refine V_iload X dX7_together_32 rfl ?_
            refine V_ialdN X 0 2 rfl rfl (by omega) (by decide) dX7_together_34 ?_
            refine V_iaddN X dX7_together_35 ?_
            refine V_istore_n X dX7_together_36 (by decide) rfl ?_
            refine V_iincN X (c := 1) dX7_together_37 rfl (by decide) rfl ?_
            refine V_goto X 5 dX7_together_40 (by decide) ?_
            refine V_weak (lv' := [some (.ref (a 0)), some (.ref (a 2)), some (.int (nI s)), some (.int (nI (x + (v p)))), some (.int (nI (p + 1)))]) (And.intro rfl (And.intro rfl (And.intro rfl (And.intro rfl (And.intro rfl trivial))))) ?_
            exact ih_5 (x + (v p)) (p + 1) (by omega) (by simp only [bSum, hx, if_neg c_3, Nat.add_zero]) (by omega)
  refine V_weak (lv' := [some (.ref (a 0)), some (.ref (a 2)), some (.int (nI s)), some (.int (nI 0)), some (.int (nI 0))]) (And.intro rfl (And.intro rfl (And.intro rfl (And.intro rfl (And.intro rfl trivial))))) ?_
  exact L_5 _ 0 0 (by omega) rfl (Nat.lt_succ_self _)
set_option maxHeartbeats 4000000 in
set_option maxRecDepth 100000 in
theorem c_X7_weightTogether (l : Launch) (G : mvG) (a : Nat → Nat) (w : Nat → Nat) (v : Nat → Nat) (n : Nat) (k : Nat) (s : Nat) (hn : n ≤ 5) (hs : s < 32) : KQ l yX7_weightTogether cX7_weightTogether 2 (some .int) (1, 24) G [.ref (a 0), .int (nI s)] [gRoll G a (nF w) (nF v) (nI n) (nI k)] (fun (_ : Unit) => some (.int (nI (bSum w s n)))) (fun (_ : Unit) => True) (fun (_ : Unit) => [gRoll G a (nF w) (nF v) (nI n) (nI k)]) := by
  refine KQ.mk (by decide +kernel) (fun _ _ => rfl) [some (.ref (a 0)), some (.int (nI s))] (Nat.le_of_ble_eq_true rfl) rfl (fun C X Y hC => ?_)
  subst hC
  refine V_aload_n X dX7_weightTogether_0 rfl ?_
  refine V_aload_n X dX7_weightTogether_1 rfl ?_
  refine V_get X fl_X7_9 0 0 rfl rfl rfl dX7_weightTogether_2 ?_
  refine V_iload_n X dX7_weightTogether_5 rfl ?_
  refine V_callV (rest := []) X (c_X7_together_1 (Cl C) G a w v n k s (by first | assumption | omega) (by first | assumption | omega)) mi_X7_together kw_3_52 kw_3_54 kw_s_16 dX7_weightTogether_6 [0] rfl (by decide) 0 0 rfl rfl rfl rfl rfl rfl (by decide) (Nat.le_of_ble_eq_true rfl) ⟨rfl, rfl⟩ (fun _ _ => ?_)
  show V C 0 0 [gRoll G a (nF w) (nF v) (nI n) (nI k)] 9 [some (.ref (a 0)), some (.int (nI s))] [.int (nI (bSum w s n))]
  exact V_iret X Y () trivial rfl rfl rfl dX7_weightTogether_9
set_option maxHeartbeats 4000000 in
set_option maxRecDepth 100000 in
theorem c_X7_voicesTogether (l : Launch) (G : mvG) (a : Nat → Nat) (w : Nat → Nat) (v : Nat → Nat) (n : Nat) (k : Nat) (s : Nat) (hn : n ≤ 5) (hs : s < 32) : KQ l yX7_voicesTogether cX7_voicesTogether 2 (some .int) (1, 24) G [.ref (a 0), .int (nI s)] [gRoll G a (nF w) (nF v) (nI n) (nI k)] (fun (_ : Unit) => some (.int (nI (bSum v s n)))) (fun (_ : Unit) => True) (fun (_ : Unit) => [gRoll G a (nF w) (nF v) (nI n) (nI k)]) := by
  refine KQ.mk (by decide +kernel) (fun _ _ => rfl) [some (.ref (a 0)), some (.int (nI s))] (Nat.le_of_ble_eq_true rfl) rfl (fun C X Y hC => ?_)
  subst hC
  refine V_aload_n X dX7_voicesTogether_0 rfl ?_
  refine V_aload_n X dX7_voicesTogether_1 rfl ?_
  refine V_get X fl_X7_15 0 0 rfl rfl rfl dX7_voicesTogether_2 ?_
  refine V_iload_n X dX7_voicesTogether_5 rfl ?_
  refine V_callV (rest := []) X (c_X7_together_2 (Cl C) G a w v n k s (by first | assumption | omega) (by first | assumption | omega)) mi_X7_together kw_3_52 kw_3_54 kw_s_16 dX7_voicesTogether_6 [0] rfl (by decide) 0 0 rfl rfl rfl rfl rfl rfl (by decide) (Nat.le_of_ble_eq_true rfl) ⟨rfl, rfl⟩ (fun _ _ => ?_)
  show V C 0 0 [gRoll G a (nF w) (nF v) (nI n) (nI k)] 9 [some (.ref (a 0)), some (.int (nI s))] [.int (nI (bSum v s n))]
  exact V_iret X Y () trivial rfl rfl rfl dX7_voicesTogether_9
