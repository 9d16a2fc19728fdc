set_option maxHeartbeats 4000000 in
set_option maxRecDepth 100000 in
theorem c_X5_lose (l : Launch) (G : mvG) (a : Nat → Nat) (r : Nat → Nat) (q : Nat) (kn : Nat) : KQ l yX5_lose cX5_lose 1 none (0, 0) G [.ref (a 0)] [gPast G a r (nI q) (nI kn)] (fun (_ : Unit) => none) (fun (_ : Unit) => True) (fun (_ : Unit) => [gPast G a r (nI q) (nI 0)]) := by
  refine KQ.mk (by decide +kernel) (fun _ _ => rfl) [some (.ref (a 0))] (Nat.le_of_ble_eq_true rfl) rfl (fun C X Y hC => ?_)
  subst hC
  refine V_aload_n X dX5_lose_0 rfl ?_
  refine V_iconst X (nI 0) dX5_lose_1 (by decide) ?_
  refine V_put X fl_X5_18 0 0 rfl rfl rfl rfl (Nat.le_of_ble_eq_true rfl) dX5_lose_2 ?_
  show V C 0 0 [gPast G a r (nI q) (nI 0)] 5 [some (.ref (a 0))] []
  exact V_vret X Y () trivial rfl rfl dX5_lose_5
set_option maxHeartbeats 4000000 in
set_option maxRecDepth 100000 in
theorem c_X5_remember_0 (l : Launch) (G : mvG) (a : Nat → Nat) (am : Nat → Nat → Nat) (P : Nat → MoT) (kn : Nat) (b : Nat → Nat) (wh : Nat → Nat) (de : Nat → Nat) (t : Nat → Int32) (sv : Nat) (vt : Nat) (ps : Nat) (hk : kn ≤ 10) : KQ l yX5_remember cX5_remember 3 none (2, 39) G [.ref (a 0), .ref (b 0)] [gMo G b (nF wh) (nF de) t (nI sv) (nI vt) (nI ps), gPast G a (fun j => am j 0) (nI 0) (nI kn), gMoT G (am 0) (P 0), gMoT G (am 1) (P 1), gMoT G (am 2) (P 2), gMoT G (am 3) (P 3), gMoT G (am 4) (P 4), gMoT G (am 5) (P 5), gMoT G (am 6) (P 6), gMoT G (am 7) (P 7), gMoT G (am 8) (P 8), gMoT G (am 9) (P 9)] (fun (_ : Unit) => none) (fun (_ : Unit) => True) (fun (_ : Unit) => [gMo G b (nF wh) (nF de) t (nI sv) (nI vt) (nI ps), gPast G a (fun j => am j 0) (nI ((0 + 1) % 10)) (nI (min 10 (kn + 1))), gMoT G (am 0) (va_up P 0 (wh, de, t, sv, vt, ps) 0), gMoT G (am 1) (va_up P 0 (wh, de, t, sv, vt, ps) 1), gMoT G (am 2) (va_up P 0 (wh, de, t, sv, vt, ps) 2), gMoT G (am 3) (va_up P 0 (wh, de, t, sv, vt, ps) 3), gMoT G (am 4) (va_up P 0 (wh, de, t, sv, vt, ps) 4), gMoT G (am 5) (va_up P 0 (wh, de, t, sv, vt, ps) 5), gMoT G (am 6) (va_up P 0 (wh, de, t, sv, vt, ps) 6), gMoT G (am 7) (va_up P 0 (wh, de, t, sv, vt, ps) 7), gMoT G (am 8) (va_up P 0 (wh, de, t, sv, vt, ps) 8), gMoT G (am 9) (va_up P 0 (wh, de, t, sv, vt, ps) 9)]) := by
  refine KQ.mk (by decide +kernel) (fun _ _ => rfl) [some (.ref (a 0)), some (.ref (b 0)), none] (Nat.le_of_ble_eq_true rfl) rfl (fun C X Y hC => ?_)
  subst hC
  refine V_aload_n X dX5_remember_0 rfl ?_
  refine V_get X fl_X5_22 1 0 rfl rfl rfl dX5_remember_1 ?_
  refine V_if_ltN X dX5_remember_4 31 (by decide) (by omega) ?_
  refine V_aload_n X dX5_remember_7 rfl ?_
  refine V_get X fl_X5_22 1 0 rfl rfl rfl dX5_remember_8 ?_
  refine V_aload_n X dX5_remember_11 rfl ?_
  refine V_get X fl_X5_11 1 0 rfl rfl rfl dX5_remember_12 ?_
  refine V_alen X (t0 := 3) 1 1 (nI 10) rfl rfl rfl rfl dX5_remember_15 ?_
  refine V_icmp_geN X 31 dX5_remember_16 (by decide) (by decide) (by decide) (fun c_2 => ?_) (fun c_2 => ?_)
  · exfalso; omega
  · refine V_aload_n X dX5_remember_19 rfl ?_
    refine V_get X fl_X5_11 1 0 rfl rfl rfl dX5_remember_20 ?_
    refine V_aload_n X dX5_remember_23 rfl ?_
    refine V_get X fl_X5_22 1 0 rfl rfl rfl dX5_remember_24 ?_
    refine V_aaldN X (t0 := 3) 1 1 rfl rfl rfl (by decide) (by decide) dX5_remember_27 ?_
    refine V_goto X 32 dX5_remember_28 (by decide) ?_
    refine V_astore_n X dX5_remember_32 (by decide) rfl ?_
    refine V_aload_n X dX5_remember_33 rfl ?_
    refine V_ifnull X dX5_remember_34 ?_
    show V C 0 0 [gMo G b (nF wh) (nF de) t (nI sv) (nI vt) (nI ps), gPast G a (fun j => am j 0) (nI 0) (nI kn), gMo G (am 0) (nF ((P 0).1)) (nF ((P 0).2.1)) ((P 0).2.2.1) (nI ((P 0).2.2.2.1)) (nI ((P 0).2.2.2.2.1)) (nI ((P 0).2.2.2.2.2)), gMoT G (am 1) (P 1), gMoT G (am 2) (P 2), gMoT G (am 3) (P 3), gMoT G (am 4) (P 4), gMoT G (am 5) (P 5), gMoT G (am 6) (P 6), gMoT G (am 7) (P 7), gMoT G (am 8) (P 8), gMoT G (am 9) (P 9)] 37 [some (.ref (a 0)), some (.ref (b 0)), some (.ref (am 0 0))] []
    refine V_aload_n X dX5_remember_37 rfl ?_
    refine V_aload_n X dX5_remember_38 rfl ?_
    refine V_callV (rest := []) X (c_X3_copyFrom (Cl C) G (am 0) ((P 0).1) ((P 0).2.1) ((P 0).2.2.1) ((P 0).2.2.2.1) ((P 0).2.2.2.2.1) ((P 0).2.2.2.2.2) b wh de t sv vt ps) mi_X3_copyFrom kw_2_228 kw_2_125 kw_2_126 dX5_remember_39 [2, 0] rfl (by decide) 2 0 rfl rfl rfl rfl rfl rfl (by decide) (Nat.le_of_ble_eq_true rfl) ⟨rfl, rfl⟩ (fun _ _ => ?_)
    show V C 0 0 [gMo G b (nF wh) (nF de) t (nI sv) (nI vt) (nI ps), gPast G a (fun j => am j 0) (nI 0) (nI kn), gMo G (am 0) (nF wh) (nF de) t (nI sv) (nI vt) (nI ps), gMoT G (am 1) (P 1), gMoT G (am 2) (P 2), gMoT G (am 3) (P 3), gMoT G (am 4) (P 4), gMoT G (am 5) (P 5), gMoT G (am 6) (P 6), gMoT G (am 7) (P 7), gMoT G (am 8) (P 8), gMoT G (am 9) (P 9)] 42 [some (.ref (a 0)), some (.ref (b 0)), some (.ref (am 0 0))] []
    refine V_aload_n X dX5_remember_42 rfl ?_
    refine V_aload_n X dX5_remember_43 rfl ?_
    refine V_get X fl_X5_22 1 0 rfl rfl rfl dX5_remember_44 ?_
    refine V_iconst X (nI 1) dX5_remember_47 (by decide) ?_
    refine V_iaddN X dX5_remember_48 ?_
    refine V_bipush X (nI 10) dX5_remember_49 (by decide) ?_
    refine V_iremN X dX5_remember_51 (by omega) (by omega) (by omega) ?_
    refine V_put X fl_X5_22 1 0 rfl rfl rfl rfl (Nat.le_of_ble_eq_true rfl) dX5_remember_52 ?_
    show V C 0 0 [gMo G b (nF wh) (nF de) t (nI sv) (nI vt) (nI ps), gPast G a (fun j => am j 0) (nI ((0 + 1) % 10)) (nI kn), gMo G (am 0) (nF wh) (nF de) t (nI sv) (nI vt) (nI ps), gMoT G (am 1) (P 1), gMoT G (am 2) (P 2), gMoT G (am 3) (P 3), gMoT G (am 4) (P 4), gMoT G (am 5) (P 5), gMoT G (am 6) (P 6), gMoT G (am 7) (P 7), gMoT G (am 8) (P 8), gMoT G (am 9) (P 9)] 55 [some (.ref (a 0)), some (.ref (b 0)), some (.ref (am 0 0))] []
    refine V_aload_n X dX5_remember_55 rfl ?_
    refine V_bipush X (nI 10) dX5_remember_56 (by decide) ?_
    refine V_aload_n X dX5_remember_58 rfl ?_
    refine V_get X fl_X5_18 1 0 rfl rfl rfl dX5_remember_59 ?_
    refine V_iconst X (nI 1) dX5_remember_62 (by decide) ?_
    refine V_iaddN X dX5_remember_63 ?_
    refine V_mminN X kw_2_229 dX5_remember_64 (by decide) (Nat.le_of_ble_eq_true rfl) ⟨rfl, rfl⟩ (by omega) (by omega) ?_
    refine V_put X fl_X5_18 1 0 rfl rfl rfl rfl (Nat.le_of_ble_eq_true rfl) dX5_remember_67 ?_
    show V C 0 0 [gMo G b (nF wh) (nF de) t (nI sv) (nI vt) (nI ps), gPast G a (fun j => am j 0) (nI ((0 + 1) % 10)) (nI (min 10 (kn + 1))), gMo G (am 0) (nF wh) (nF de) t (nI sv) (nI vt) (nI ps), gMoT G (am 1) (P 1), gMoT G (am 2) (P 2), gMoT G (am 3) (P 3), gMoT G (am 4) (P 4), gMoT G (am 5) (P 5), gMoT G (am 6) (P 6), gMoT G (am 7) (P 7), gMoT G (am 8) (P 8), gMoT G (am 9) (P 9)] 70 [some (.ref (a 0)), some (.ref (b 0)), some (.ref (am 0 0))] []
    exact V_vret X Y () trivial rfl rfl dX5_remember_70
set_option maxHeartbeats 4000000 in
set_option maxRecDepth 100000 in
theorem c_X5_recall_0 (l : Launch) (G : mvG) (a : Nat → Nat) (am : Nat → Nat → Nat) (P : Nat → MoT) (kn : Nat) (b : Nat → Nat) (wh : Nat → Nat) (de : Nat → Nat) (t : Nat → Int32) (sv : Nat) (vt : Nat) (ps : Nat) (hk : 1 ≤ kn ∧ kn ≤ 10) : KQ l yX5_recall cX5_recall 4 none (2, 39) G [.ref (a 0), .ref (b 0)] [gMo G b (nF wh) (nF de) t (nI sv) (nI vt) (nI ps), gPast G a (fun j => am j 0) (nI 0) (nI kn), gMoT G (am 0) (P 0), gMoT G (am 1) (P 1), gMoT G (am 2) (P 2), gMoT G (am 3) (P 3), gMoT G (am 4) (P 4), gMoT G (am 5) (P 5), gMoT G (am 6) (P 6), gMoT G (am 7) (P 7), gMoT G (am 8) (P 8), gMoT G (am 9) (P 9)] (fun (_ : Unit) => none) (fun (_ : Unit) => True) (fun (_ : Unit) => [gMoT G b (P 9), gPast G a (fun j => am j 0) (nI 9) (nI (kn - 1)), gMoT G (am 0) (P 0), gMoT G (am 1) (P 1), gMoT G (am 2) (P 2), gMoT G (am 3) (P 3), gMoT G (am 4) (P 4), gMoT G (am 5) (P 5), gMoT G (am 6) (P 6), gMoT G (am 7) (P 7), gMoT G (am 8) (P 8), gMoT G (am 9) (P 9)]) := by
  refine KQ.mk (by decide +kernel) (fun _ _ => rfl) [some (.ref (a 0)), some (.ref (b 0)), none, none] (Nat.le_of_ble_eq_true rfl) rfl (fun C X Y hC => ?_)
  subst hC
  refine V_aload_n X dX5_recall_0 rfl ?_
  refine V_get X fl_X5_22 1 0 rfl rfl rfl dX5_recall_1 ?_
  refine V_bipush X (nI 10) dX5_recall_4 (by decide) ?_
  refine V_iaddN X dX5_recall_6 ?_
  refine V_iconst X (nI 1) dX5_recall_7 (by decide) ?_
  refine V_isubN X dX5_recall_8 (by omega) ?_
  refine V_bipush X (nI 10) dX5_recall_9 (by decide) ?_
  refine V_iremN X dX5_recall_11 (by omega) (by omega) (by omega) ?_
  refine V_istore_n X dX5_recall_12 (by decide) rfl ?_
  refine V_loc (y := (nI 9)) 2 rfl rfl ?_
  refine V_iload_n X dX5_recall_13 rfl ?_
  refine V_if_ltN X dX5_recall_14 35 (by decide) (by omega) ?_
  refine V_iload_n X dX5_recall_17 rfl ?_
  refine V_aload_n X dX5_recall_18 rfl ?_
  refine V_get X fl_X5_11 1 0 rfl rfl rfl dX5_recall_19 ?_
  refine V_alen X (t0 := 3) 1 1 (nI 10) rfl rfl rfl rfl dX5_recall_22 ?_
  refine V_icmp_geN X 35 dX5_recall_23 (by decide) (by decide) (by decide) (fun c_2 => ?_) (fun c_2 => ?_)
  · exfalso; omega
  · refine V_aload_n X dX5_recall_26 rfl ?_
    refine V_get X fl_X5_11 1 0 rfl rfl rfl dX5_recall_27 ?_
    refine V_iload_n X dX5_recall_30 rfl ?_
    refine V_aaldN X (t0 := 3) 1 1 rfl rfl rfl (by decide) (by decide) dX5_recall_31 ?_
    refine V_goto X 36 dX5_recall_32 (by decide) ?_
    refine V_astore_n X dX5_recall_36 (by decide) rfl ?_
    refine V_aload_n X dX5_recall_37 rfl ?_
    refine V_ifnull X dX5_recall_38 ?_
    refine V_aload_n X dX5_recall_41 rfl ?_
    refine V_get X fl_X5_18 1 0 rfl rfl rfl dX5_recall_42 ?_
    refine V_if_leN X 68 dX5_recall_45 (by decide) (by omega) (fun c_3 => ?_) (fun c_3 => ?_)
    · exfalso; omega
    · show V C 0 0 [gMo G b (nF wh) (nF de) t (nI sv) (nI vt) (nI ps), gPast G a (fun j => am j 0) (nI 0) (nI kn), gMoT G (am 0) (P 0), gMoT G (am 1) (P 1), gMoT G (am 2) (P 2), gMoT G (am 3) (P 3), gMoT G (am 4) (P 4), gMoT G (am 5) (P 5), gMoT G (am 6) (P 6), gMoT G (am 7) (P 7), gMoT G (am 8) (P 8), gMo G (am 9) (nF ((P 9).1)) (nF ((P 9).2.1)) ((P 9).2.2.1) (nI ((P 9).2.2.2.1)) (nI ((P 9).2.2.2.2.1)) (nI ((P 9).2.2.2.2.2))] 48 [some (.ref (a 0)), some (.ref (b 0)), some (.int (nI 9)), some (.ref (am 9 0))] []
      refine V_aload_n X dX5_recall_48 rfl ?_
      refine V_aload_n X dX5_recall_49 rfl ?_
      refine V_callV (rest := []) X (c_X3_copyFrom (Cl C) G b wh de t sv vt ps (am 9) ((P 9).1) ((P 9).2.1) ((P 9).2.2.1) ((P 9).2.2.2.1) ((P 9).2.2.2.2.1) ((P 9).2.2.2.2.2)) mi_X3_copyFrom kw_2_228 kw_2_125 kw_2_126 dX5_recall_50 [0, 11] rfl (by decide) 0 0 rfl rfl rfl rfl rfl rfl (by decide) (Nat.le_of_ble_eq_true rfl) ⟨rfl, rfl⟩ (fun _ _ => ?_)
      show V C 0 0 [gMo G b (nF ((P 9).1)) (nF ((P 9).2.1)) ((P 9).2.2.1) (nI ((P 9).2.2.2.1)) (nI ((P 9).2.2.2.2.1)) (nI ((P 9).2.2.2.2.2)), gPast G a (fun j => am j 0) (nI 0) (nI kn), gMoT G (am 0) (P 0), gMoT G (am 1) (P 1), gMoT G (am 2) (P 2), gMoT G (am 3) (P 3), gMoT G (am 4) (P 4), gMoT G (am 5) (P 5), gMoT G (am 6) (P 6), gMoT G (am 7) (P 7), gMoT G (am 8) (P 8), gMo G (am 9) (nF ((P 9).1)) (nF ((P 9).2.1)) ((P 9).2.2.1) (nI ((P 9).2.2.2.1)) (nI ((P 9).2.2.2.2.1)) (nI ((P 9).2.2.2.2.2))] 53 [some (.ref (a 0)), some (.ref (b 0)), some (.int (nI 9)), some (.ref (am 9 0))] []
      refine V_aload_n X dX5_recall_53 rfl ?_
      refine V_iload_n X dX5_recall_54 rfl ?_
      refine V_put X fl_X5_22 1 0 rfl rfl rfl rfl (Nat.le_of_ble_eq_true rfl) dX5_recall_55 ?_
      show V C 0 0 [gMo G b (nF ((P 9).1)) (nF ((P 9).2.1)) ((P 9).2.2.1) (nI ((P 9).2.2.2.1)) (nI ((P 9).2.2.2.2.1)) (nI ((P 9).2.2.2.2.2)), gPast G a (fun j => am j 0) (nI 9) (nI kn), gMoT G (am 0) (P 0), gMoT G (am 1) (P 1), gMoT G (am 2) (P 2), gMoT G (am 3) (P 3), gMoT G (am 4) (P 4), gMoT G (am 5) (P 5), gMoT G (am 6) (P 6), gMoT G (am 7) (P 7), gMoT G (am 8) (P 8), gMo G (am 9) (nF ((P 9).1)) (nF ((P 9).2.1)) ((P 9).2.2.1) (nI ((P 9).2.2.2.1)) (nI ((P 9).2.2.2.2.1)) (nI ((P 9).2.2.2.2.2))] 58 [some (.ref (a 0)), some (.ref (b 0)), some (.int (nI 9)), some (.ref (am 9 0))] []
      refine V_aload_n X dX5_recall_58 rfl ?_
      refine V_dup X dX5_recall_59 rfl ?_
      refine V_get X fl_X5_18 1 0 rfl rfl rfl dX5_recall_60 ?_
      refine V_iconst X (nI 1) dX5_recall_63 (by decide) ?_
      refine V_isubN X dX5_recall_64 (by omega) ?_
      refine V_put X fl_X5_18 1 0 rfl rfl rfl rfl (Nat.le_of_ble_eq_true rfl) dX5_recall_65 ?_
      show V C 0 0 [gMo G b (nF ((P 9).1)) (nF ((P 9).2.1)) ((P 9).2.2.1) (nI ((P 9).2.2.2.1)) (nI ((P 9).2.2.2.2.1)) (nI ((P 9).2.2.2.2.2)), gPast G a (fun j => am j 0) (nI 9) (nI (kn - 1)), gMoT G (am 0) (P 0), gMoT G (am 1) (P 1), gMoT G (am 2) (P 2), gMoT G (am 3) (P 3), gMoT G (am 4) (P 4), gMoT G (am 5) (P 5), gMoT G (am 6) (P 6), gMoT G (am 7) (P 7), gMoT G (am 8) (P 8), gMo G (am 9) (nF ((P 9).1)) (nF ((P 9).2.1)) ((P 9).2.2.1) (nI ((P 9).2.2.2.1)) (nI ((P 9).2.2.2.2.1)) (nI ((P 9).2.2.2.2.2))] 68 [some (.ref (a 0)), some (.ref (b 0)), some (.int (nI 9)), some (.ref (am 9 0))] []
      exact V_vret X Y () trivial rfl rfl dX5_recall_68
set_option maxHeartbeats 4000000 in
set_option maxRecDepth 100000 in
theorem c_X5_remember_1 (l : Launch) (G : mvG) (a : Nat → Nat) (am : Nat → Nat → Nat) (P : Nat → MoT) (kn : Nat) (b : Nat → Nat) (wh : Nat → Nat) (de : Nat → Nat) (t : Nat → Int32) (sv : Nat) (vt : Nat) (ps : Nat) (hk : kn ≤ 10) : KQ l yX5_remember cX5_remember 3 none (2, 39) G [.ref (a 0), .ref (b 0)] [gMo G b (nF wh) (nF de) t (nI sv) (nI vt) (nI ps), gPast G a (fun j => am j 0) (nI 1) (nI kn), gMoT G (am 0) (P 0), gMoT G (am 1) (P 1), gMoT G (am 2) (P 2), gMoT G (am 3) (P 3), gMoT G (am 4) (P 4), gMoT G (am 5) (P 5), gMoT G (am 6) (P 6), gMoT G (am 7) (P 7), gMoT G (am 8) (P 8), gMoT G (am 9) (P 9)] (fun (_ : Unit) => none) (fun (_ : Unit) => True) (fun (_ : Unit) => [gMo G b (nF wh) (nF de) t (nI sv) (nI vt) (nI ps), gPast G a (fun j => am j 0) (nI ((1 + 1) % 10)) (nI (min 10 (kn + 1))), gMoT G (am 0) (va_up P 1 (wh, de, t, sv, vt, ps) 0), gMoT G (am 1) (va_up P 1 (wh, de, t, sv, vt, ps) 1), gMoT G (am 2) (va_up P 1 (wh, de, t, sv, vt, ps) 2), gMoT G (am 3) (va_up P 1 (wh, de, t, sv, vt, ps) 3), gMoT G (am 4) (va_up P 1 (wh, de, t, sv, vt, ps) 4), gMoT G (am 5) (va_up P 1 (wh, de, t, sv, vt, ps) 5), gMoT G (am 6) (va_up P 1 (wh, de, t, sv, vt, ps) 6), gMoT G (am 7) (va_up P 1 (wh, de, t, sv, vt, ps) 7), gMoT G (am 8) (va_up P 1 (wh, de, t, sv, vt, ps) 8), gMoT G (am 9) (va_up P 1 (wh, de, t, sv, vt, ps) 9)]) := by
  refine KQ.mk (by decide +kernel) (fun _ _ => rfl) [some (.ref (a 0)), some (.ref (b 0)), none] (Nat.le_of_ble_eq_true rfl) rfl (fun C X Y hC => ?_)
  subst hC
  refine V_aload_n X dX5_remember_0 rfl ?_
  refine V_get X fl_X5_22 1 0 rfl rfl rfl dX5_remember_1 ?_
  refine V_if_ltN X dX5_remember_4 31 (by decide) (by omega) ?_
  refine V_aload_n X dX5_remember_7 rfl ?_
  refine V_get X fl_X5_22 1 0 rfl rfl rfl dX5_remember_8 ?_
  refine V_aload_n X dX5_remember_11 rfl ?_
  refine V_get X fl_X5_11 1 0 rfl rfl rfl dX5_remember_12 ?_
  refine V_alen X (t0 := 3) 1 1 (nI 10) rfl rfl rfl rfl dX5_remember_15 ?_
  refine V_icmp_geN X 31 dX5_remember_16 (by decide) (by decide) (by decide) (fun c_2 => ?_) (fun c_2 => ?_)
  · exfalso; omega
  · refine V_aload_n X dX5_remember_19 rfl ?_
    refine V_get X fl_X5_11 1 0 rfl rfl rfl dX5_remember_20 ?_
    refine V_aload_n X dX5_remember_23 rfl ?_
    refine V_get X fl_X5_22 1 0 rfl rfl rfl dX5_remember_24 ?_
    refine V_aaldN X (t0 := 3) 1 1 rfl rfl rfl (by decide) (by decide) dX5_remember_27 ?_
    refine V_goto X 32 dX5_remember_28 (by decide) ?_
    refine V_astore_n X dX5_remember_32 (by decide) rfl ?_
    refine V_aload_n X dX5_remember_33 rfl ?_
    refine V_ifnull X dX5_remember_34 ?_
    show V C 0 0 [gMo G b (nF wh) (nF de) t (nI sv) (nI vt) (nI ps), gPast G a (fun j => am j 0) (nI 1) (nI kn), gMoT G (am 0) (P 0), gMo G (am 1) (nF ((P 1).1)) (nF ((P 1).2.1)) ((P 1).2.2.1) (nI ((P 1).2.2.2.1)) (nI ((P 1).2.2.2.2.1)) (nI ((P 1).2.2.2.2.2)), gMoT G (am 2) (P 2), gMoT G (am 3) (P 3), gMoT G (am 4) (P 4), gMoT G (am 5) (P 5), gMoT G (am 6) (P 6), gMoT G (am 7) (P 7), gMoT G (am 8) (P 8), gMoT G (am 9) (P 9)] 37 [some (.ref (a 0)), some (.ref (b 0)), some (.ref (am 1 0))] []
    refine V_aload_n X dX5_remember_37 rfl ?_
    refine V_aload_n X dX5_remember_38 rfl ?_
    refine V_callV (rest := []) X (c_X3_copyFrom (Cl C) G (am 1) ((P 1).1) ((P 1).2.1) ((P 1).2.2.1) ((P 1).2.2.2.1) ((P 1).2.2.2.2.1) ((P 1).2.2.2.2.2) b wh de t sv vt ps) mi_X3_copyFrom kw_2_228 kw_2_125 kw_2_126 dX5_remember_39 [3, 0] rfl (by decide) 3 0 rfl rfl rfl rfl rfl rfl (by decide) (Nat.le_of_ble_eq_true rfl) ⟨rfl, rfl⟩ (fun _ _ => ?_)
    show V C 0 0 [gMo G b (nF wh) (nF de) t (nI sv) (nI vt) (nI ps), gPast G a (fun j => am j 0) (nI 1) (nI kn), gMoT G (am 0) (P 0), gMo G (am 1) (nF wh) (nF de) t (nI sv) (nI vt) (nI ps), gMoT G (am 2) (P 2), gMoT G (am 3) (P 3), gMoT G (am 4) (P 4), gMoT G (am 5) (P 5), gMoT G (am 6) (P 6), gMoT G (am 7) (P 7), gMoT G (am 8) (P 8), gMoT G (am 9) (P 9)] 42 [some (.ref (a 0)), some (.ref (b 0)), some (.ref (am 1 0))] []
    refine V_aload_n X dX5_remember_42 rfl ?_
    refine V_aload_n X dX5_remember_43 rfl ?_
    refine V_get X fl_X5_22 1 0 rfl rfl rfl dX5_remember_44 ?_
    refine V_iconst X (nI 1) dX5_remember_47 (by decide) ?_
    refine V_iaddN X dX5_remember_48 ?_
    refine V_bipush X (nI 10) dX5_remember_49 (by decide) ?_
    refine V_iremN X dX5_remember_51 (by omega) (by omega) (by omega) ?_
    refine V_put X fl_X5_22 1 0 rfl rfl rfl rfl (Nat.le_of_ble_eq_true rfl) dX5_remember_52 ?_
    show V C 0 0 [gMo G b (nF wh) (nF de) t (nI sv) (nI vt) (nI ps), gPast G a (fun j => am j 0) (nI ((1 + 1) % 10)) (nI kn), gMoT G (am 0) (P 0), gMo G (am 1) (nF wh) (nF de) t (nI sv) (nI vt) (nI ps), gMoT G (am 2) (P 2), gMoT G (am 3) (P 3), gMoT G (am 4) (P 4), gMoT G (am 5) (P 5), gMoT G (am 6) (P 6), gMoT G (am 7) (P 7), gMoT G (am 8) (P 8), gMoT G (am 9) (P 9)] 55 [some (.ref (a 0)), some (.ref (b 0)), some (.ref (am 1 0))] []
    refine V_aload_n X dX5_remember_55 rfl ?_
    refine V_bipush X (nI 10) dX5_remember_56 (by decide) ?_
    refine V_aload_n X dX5_remember_58 rfl ?_
    refine V_get X fl_X5_18 1 0 rfl rfl rfl dX5_remember_59 ?_
    refine V_iconst X (nI 1) dX5_remember_62 (by decide) ?_
    refine V_iaddN X dX5_remember_63 ?_
    refine V_mminN X kw_2_229 dX5_remember_64 (by decide) (Nat.le_of_ble_eq_true rfl) ⟨rfl, rfl⟩ (by omega) (by omega) ?_
    refine V_put X fl_X5_18 1 0 rfl rfl rfl rfl (Nat.le_of_ble_eq_true rfl) dX5_remember_67 ?_
    show V C 0 0 [gMo G b (nF wh) (nF de) t (nI sv) (nI vt) (nI ps), gPast G a (fun j => am j 0) (nI ((1 + 1) % 10)) (nI (min 10 (kn + 1))), gMoT G (am 0) (P 0), gMo G (am 1) (nF wh) (nF de) t (nI sv) (nI vt) (nI ps), gMoT G (am 2) (P 2), gMoT G (am 3) (P 3), gMoT G (am 4) (P 4), gMoT G (am 5) (P 5), gMoT G (am 6) (P 6), gMoT G (am 7) (P 7), gMoT G (am 8) (P 8), gMoT G (am 9) (P 9)] 70 [some (.ref (a 0)), some (.ref (b 0)), some (.ref (am 1 0))] []
    exact V_vret X Y () trivial rfl rfl dX5_remember_70
set_option maxHeartbeats 4000000 in
set_option maxRecDepth 100000 in
theorem c_X5_recall_1 (l : Launch) (G : mvG) (a : Nat → Nat) (am : Nat → Nat → Nat) (P : Nat → MoT) (kn : Nat) (b : Nat → Nat) (wh : Nat → Nat) (de : Nat → Nat) (t : Nat → Int32) (sv : Nat) (vt : Nat) (ps : Nat) (hk : 1 ≤ kn ∧ kn ≤ 10) : KQ l yX5_recall cX5_recall 4 none (2, 39) G [.ref (a 0), .ref (b 0)] [gMo G b (nF wh) (nF de) t (nI sv) (nI vt) (nI ps), gPast G a (fun j => am j 0) (nI 1) (nI kn), gMoT G (am 0) (P 0), gMoT G (am 1) (P 1), gMoT G (am 2) (P 2), gMoT G (am 3) (P 3), gMoT G (am 4) (P 4), gMoT G (am 5) (P 5), gMoT G (am 6) (P 6), gMoT G (am 7) (P 7), gMoT G (am 8) (P 8), gMoT G (am 9) (P 9)] (fun (_ : Unit) => none) (fun (_ : Unit) => True) (fun (_ : Unit) => [gMoT G b (P 0), gPast G a (fun j => am j 0) (nI 0) (nI (kn - 1)), gMoT G (am 0) (P 0), gMoT G (am 1) (P 1), gMoT G (am 2) (P 2), gMoT G (am 3) (P 3), gMoT G (am 4) (P 4), gMoT G (am 5) (P 5), gMoT G (am 6) (P 6), gMoT G (am 7) (P 7), gMoT G (am 8) (P 8), gMoT G (am 9) (P 9)]) := by
  refine KQ.mk (by decide +kernel) (fun _ _ => rfl) [some (.ref (a 0)), some (.ref (b 0)), none, none] (Nat.le_of_ble_eq_true rfl) rfl (fun C X Y hC => ?_)
  subst hC
  refine V_aload_n X dX5_recall_0 rfl ?_
  refine V_get X fl_X5_22 1 0 rfl rfl rfl dX5_recall_1 ?_
  refine V_bipush X (nI 10) dX5_recall_4 (by decide) ?_
  refine V_iaddN X dX5_recall_6 ?_
  refine V_iconst X (nI 1) dX5_recall_7 (by decide) ?_
  refine V_isubN X dX5_recall_8 (by omega) ?_
  refine V_bipush X (nI 10) dX5_recall_9 (by decide) ?_
  refine V_iremN X dX5_recall_11 (by omega) (by omega) (by omega) ?_
  refine V_istore_n X dX5_recall_12 (by decide) rfl ?_
  refine V_loc (y := (nI 0)) 2 rfl rfl ?_
  refine V_iload_n X dX5_recall_13 rfl ?_
  refine V_if_ltN X dX5_recall_14 35 (by decide) (by omega) ?_
  refine V_iload_n X dX5_recall_17 rfl ?_
  refine V_aload_n X dX5_recall_18 rfl ?_
  refine V_get X fl_X5_11 1 0 rfl rfl rfl dX5_recall_19 ?_
  refine V_alen X (t0 := 3) 1 1 (nI 10) rfl rfl rfl rfl dX5_recall_22 ?_
  refine V_icmp_geN X 35 dX5_recall_23 (by decide) (by decide) (by decide) (fun c_2 => ?_) (fun c_2 => ?_)
  · exfalso; omega
  · refine V_aload_n X dX5_recall_26 rfl ?_
    refine V_get X fl_X5_11 1 0 rfl rfl rfl dX5_recall_27 ?_
    refine V_iload_n X dX5_recall_30 rfl ?_
    refine V_aaldN X (t0 := 3) 1 1 rfl rfl rfl (by decide) (by decide) dX5_recall_31 ?_
    refine V_goto X 36 dX5_recall_32 (by decide) ?_
    refine V_astore_n X dX5_recall_36 (by decide) rfl ?_
    refine V_aload_n X dX5_recall_37 rfl ?_
    refine V_ifnull X dX5_recall_38 ?_
    refine V_aload_n X dX5_recall_41 rfl ?_
    refine V_get X fl_X5_18 1 0 rfl rfl rfl dX5_recall_42 ?_
    refine V_if_leN X 68 dX5_recall_45 (by decide) (by omega) (fun c_3 => ?_) (fun c_3 => ?_)
    · exfalso; omega
    · show V C 0 0 [gMo G b (nF wh) (nF de) t (nI sv) (nI vt) (nI ps), gPast G a (fun j => am j 0) (nI 1) (nI kn), gMo G (am 0) (nF ((P 0).1)) (nF ((P 0).2.1)) ((P 0).2.2.1) (nI ((P 0).2.2.2.1)) (nI ((P 0).2.2.2.2.1)) (nI ((P 0).2.2.2.2.2)), gMoT G (am 1) (P 1), gMoT G (am 2) (P 2), gMoT G (am 3) (P 3), gMoT G (am 4) (P 4), gMoT G (am 5) (P 5), gMoT G (am 6) (P 6), gMoT G (am 7) (P 7), gMoT G (am 8) (P 8), gMoT G (am 9) (P 9)] 48 [some (.ref (a 0)), some (.ref (b 0)), some (.int (nI 0)), some (.ref (am 0 0))] []
      refine V_aload_n X dX5_recall_48 rfl ?_
      refine V_aload_n X dX5_recall_49 rfl ?_
      refine V_callV (rest := []) X (c_X3_copyFrom (Cl C) G b wh de t sv vt ps (am 0) ((P 0).1) ((P 0).2.1) ((P 0).2.2.1) ((P 0).2.2.2.1) ((P 0).2.2.2.2.1) ((P 0).2.2.2.2.2)) mi_X3_copyFrom kw_2_228 kw_2_125 kw_2_126 dX5_recall_50 [0, 2] rfl (by decide) 0 0 rfl rfl rfl rfl rfl rfl (by decide) (Nat.le_of_ble_eq_true rfl) ⟨rfl, rfl⟩ (fun _ _ => ?_)
      show V C 0 0 [gMo G b (nF ((P 0).1)) (nF ((P 0).2.1)) ((P 0).2.2.1) (nI ((P 0).2.2.2.1)) (nI ((P 0).2.2.2.2.1)) (nI ((P 0).2.2.2.2.2)), gPast G a (fun j => am j 0) (nI 1) (nI kn), gMo G (am 0) (nF ((P 0).1)) (nF ((P 0).2.1)) ((P 0).2.2.1) (nI ((P 0).2.2.2.1)) (nI ((P 0).2.2.2.2.1)) (nI ((P 0).2.2.2.2.2)), gMoT G (am 1) (P 1), gMoT G (am 2) (P 2), gMoT G (am 3) (P 3), gMoT G (am 4) (P 4), gMoT G (am 5) (P 5), gMoT G (am 6) (P 6), gMoT G (am 7) (P 7), gMoT G (am 8) (P 8), gMoT G (am 9) (P 9)] 53 [some (.ref (a 0)), some (.ref (b 0)), some (.int (nI 0)), some (.ref (am 0 0))] []
      refine V_aload_n X dX5_recall_53 rfl ?_
      refine V_iload_n X dX5_recall_54 rfl ?_
      refine V_put X fl_X5_22 1 0 rfl rfl rfl rfl (Nat.le_of_ble_eq_true rfl) dX5_recall_55 ?_
      show V C 0 0 [gMo G b (nF ((P 0).1)) (nF ((P 0).2.1)) ((P 0).2.2.1) (nI ((P 0).2.2.2.1)) (nI ((P 0).2.2.2.2.1)) (nI ((P 0).2.2.2.2.2)), gPast G a (fun j => am j 0) (nI 0) (nI kn), gMo G (am 0) (nF ((P 0).1)) (nF ((P 0).2.1)) ((P 0).2.2.1) (nI ((P 0).2.2.2.1)) (nI ((P 0).2.2.2.2.1)) (nI ((P 0).2.2.2.2.2)), gMoT G (am 1) (P 1), gMoT G (am 2) (P 2), gMoT G (am 3) (P 3), gMoT G (am 4) (P 4), gMoT G (am 5) (P 5), gMoT G (am 6) (P 6), gMoT G (am 7) (P 7), gMoT G (am 8) (P 8), gMoT G (am 9) (P 9)] 58 [some (.ref (a 0)), some (.ref (b 0)), some (.int (nI 0)), some (.ref (am 0 0))] []
      refine V_aload_n X dX5_recall_58 rfl ?_
      refine V_dup X dX5_recall_59 rfl ?_
      refine V_get X fl_X5_18 1 0 rfl rfl rfl dX5_recall_60 ?_
      refine V_iconst X (nI 1) dX5_recall_63 (by decide) ?_
      refine V_isubN X dX5_recall_64 (by omega) ?_
      refine V_put X fl_X5_18 1 0 rfl rfl rfl rfl (Nat.le_of_ble_eq_true rfl) dX5_recall_65 ?_
      show V C 0 0 [gMo G b (nF ((P 0).1)) (nF ((P 0).2.1)) ((P 0).2.2.1) (nI ((P 0).2.2.2.1)) (nI ((P 0).2.2.2.2.1)) (nI ((P 0).2.2.2.2.2)), gPast G a (fun j => am j 0) (nI 0) (nI (kn - 1)), gMo G (am 0) (nF ((P 0).1)) (nF ((P 0).2.1)) ((P 0).2.2.1) (nI ((P 0).2.2.2.1)) (nI ((P 0).2.2.2.2.1)) (nI ((P 0).2.2.2.2.2)), gMoT G (am 1) (P 1), gMoT G (am 2) (P 2), gMoT G (am 3) (P 3), gMoT G (am 4) (P 4), gMoT G (am 5) (P 5), gMoT G (am 6) (P 6), gMoT G (am 7) (P 7), gMoT G (am 8) (P 8), gMoT G (am 9) (P 9)] 68 [some (.ref (a 0)), some (.ref (b 0)), some (.int (nI 0)), some (.ref (am 0 0))] []
      exact V_vret X Y () trivial rfl rfl dX5_recall_68
set_option maxHeartbeats 4000000 in
set_option maxRecDepth 100000 in
theorem c_X5_remember_2 (l : Launch) (G : mvG) (a : Nat → Nat) (am : Nat → Nat → Nat) (P : Nat → MoT) (kn : Nat) (b : Nat → Nat) (wh : Nat → Nat) (de : Nat → Nat) (t : Nat → Int32) (sv : Nat) (vt : Nat) (ps : Nat) (hk : kn ≤ 10) : KQ l yX5_remember cX5_remember 3 none (2, 39) G [.ref (a 0), .ref (b 0)] [gMo G b (nF wh) (nF de) t (nI sv) (nI vt) (nI ps), gPast G a (fun j => am j 0) (nI 2) (nI kn), gMoT G (am 0) (P 0), gMoT G (am 1) (P 1), gMoT G (am 2) (P 2), gMoT G (am 3) (P 3), gMoT G (am 4) (P 4), gMoT G (am 5) (P 5), gMoT G (am 6) (P 6), gMoT G (am 7) (P 7), gMoT G (am 8) (P 8), gMoT G (am 9) (P 9)] (fun (_ : Unit) => none) (fun (_ : Unit) => True) (fun (_ : Unit) => [gMo G b (nF wh) (nF de) t (nI sv) (nI vt) (nI ps), gPast G a (fun j => am j 0) (nI ((2 + 1) % 10)) (nI (min 10 (kn + 1))), gMoT G (am 0) (va_up P 2 (wh, de, t, sv, vt, ps) 0), gMoT G (am 1) (va_up P 2 (wh, de, t, sv, vt, ps) 1), gMoT G (am 2) (va_up P 2 (wh, de, t, sv, vt, ps) 2), gMoT G (am 3) (va_up P 2 (wh, de, t, sv, vt, ps) 3), gMoT G (am 4) (va_up P 2 (wh, de, t, sv, vt, ps) 4), gMoT G (am 5) (va_up P 2 (wh, de, t, sv, vt, ps) 5), gMoT G (am 6) (va_up P 2 (wh, de, t, sv, vt, ps) 6), gMoT G (am 7) (va_up P 2 (wh, de, t, sv, vt, ps) 7), gMoT G (am 8) (va_up P 2 (wh, de, t, sv, vt, ps) 8), gMoT G (am 9) (va_up P 2 (wh, de, t, sv, vt, ps) 9)]) := by
  refine KQ.mk (by decide +kernel) (fun _ _ => rfl) [some (.ref (a 0)), some (.ref (b 0)), none] (Nat.le_of_ble_eq_true rfl) rfl (fun C X Y hC => ?_)
  subst hC
  refine V_aload_n X dX5_remember_0 rfl ?_
  refine V_get X fl_X5_22 1 0 rfl rfl rfl dX5_remember_1 ?_
  refine V_if_ltN X dX5_remember_4 31 (by decide) (by omega) ?_
  refine V_aload_n X dX5_remember_7 rfl ?_
  refine V_get X fl_X5_22 1 0 rfl rfl rfl dX5_remember_8 ?_
  refine V_aload_n X dX5_remember_11 rfl ?_
  refine V_get X fl_X5_11 1 0 rfl rfl rfl dX5_remember_12 ?_
  refine V_alen X (t0 := 3) 1 1 (nI 10) rfl rfl rfl rfl dX5_remember_15 ?_
  refine V_icmp_geN X 31 dX5_remember_16 (by decide) (by decide) (by decide) (fun c_2 => ?_) (fun c_2 => ?_)
  · exfalso; omega
  · refine V_aload_n X dX5_remember_19 rfl ?_
    refine V_get X fl_X5_11 1 0 rfl rfl rfl dX5_remember_20 ?_
    refine V_aload_n X dX5_remember_23 rfl ?_
    refine V_get X fl_X5_22 1 0 rfl rfl rfl dX5_remember_24 ?_
    refine V_aaldN X (t0 := 3) 1 1 rfl rfl rfl (by decide) (by decide) dX5_remember_27 ?_
    refine V_goto X 32 dX5_remember_28 (by decide) ?_
    refine V_astore_n X dX5_remember_32 (by decide) rfl ?_
    refine V_aload_n X dX5_remember_33 rfl ?_
    refine V_ifnull X dX5_remember_34 ?_
    show V C 0 0 [gMo G b (nF wh) (nF de) t (nI sv) (nI vt) (nI ps), gPast G a (fun j => am j 0) (nI 2) (nI kn), gMoT G (am 0) (P 0), gMoT G (am 1) (P 1), gMo G (am 2) (nF ((P 2).1)) (nF ((P 2).2.1)) ((P 2).2.2.1) (nI ((P 2).2.2.2.1)) (nI ((P 2).2.2.2.2.1)) (nI ((P 2).2.2.2.2.2)), gMoT G (am 3) (P 3), gMoT G (am 4) (P 4), gMoT G (am 5) (P 5), gMoT G (am 6) (P 6), gMoT G (am 7) (P 7), gMoT G (am 8) (P 8), gMoT G (am 9) (P 9)] 37 [some (.ref (a 0)), some (.ref (b 0)), some (.ref (am 2 0))] []
    refine V_aload_n X dX5_remember_37 rfl ?_
    refine V_aload_n X dX5_remember_38 rfl ?_
    refine V_callV (rest := []) X (c_X3_copyFrom (Cl C) G (am 2) ((P 2).1) ((P 2).2.1) ((P 2).2.2.1) ((P 2).2.2.2.1) ((P 2).2.2.2.2.1) ((P 2).2.2.2.2.2) b wh de t sv vt ps) mi_X3_copyFrom kw_2_228 kw_2_125 kw_2_126 dX5_remember_39 [4, 0] rfl (by decide) 4 0 rfl rfl rfl rfl rfl rfl (by decide) (Nat.le_of_ble_eq_true rfl) ⟨rfl, rfl⟩ (fun _ _ => ?_)
    show V C 0 0 [gMo G b (nF wh) (nF de) t (nI sv) (nI vt) (nI ps), gPast G a (fun j => am j 0) (nI 2) (nI kn), gMoT G (am 0) (P 0), gMoT G (am 1) (P 1), gMo G (am 2) (nF wh) (nF de) t (nI sv) (nI vt) (nI ps), gMoT G (am 3) (P 3), gMoT G (am 4) (P 4), gMoT G (am 5) (P 5), gMoT G (am 6) (P 6), gMoT G (am 7) (P 7), gMoT G (am 8) (P 8), gMoT G (am 9) (P 9)] 42 [some (.ref (a 0)), some (.ref (b 0)), some (.ref (am 2 0))] []
    refine V_aload_n X dX5_remember_42 rfl ?_
    refine V_aload_n X dX5_remember_43 rfl ?_
    refine V_get X fl_X5_22 1 0 rfl rfl rfl dX5_remember_44 ?_
    refine V_iconst X (nI 1) dX5_remember_47 (by decide) ?_
    refine V_iaddN X dX5_remember_48 ?_
    refine V_bipush X (nI 10) dX5_remember_49 (by decide) ?_
    refine V_iremN X dX5_remember_51 (by omega) (by omega) (by omega) ?_
    refine V_put X fl_X5_22 1 0 rfl rfl rfl rfl (Nat.le_of_ble_eq_true rfl) dX5_remember_52 ?_
    show V C 0 0 [gMo G b (nF wh) (nF de) t (nI sv) (nI vt) (nI ps), gPast G a (fun j => am j 0) (nI ((2 + 1) % 10)) (nI kn), gMoT G (am 0) (P 0), gMoT G (am 1) (P 1), gMo G (am 2) (nF wh) (nF de) t (nI sv) (nI vt) (nI ps), gMoT G (am 3) (P 3), gMoT G (am 4) (P 4), gMoT G (am 5) (P 5), gMoT G (am 6) (P 6), gMoT G (am 7) (P 7), gMoT G (am 8) (P 8), gMoT G (am 9) (P 9)] 55 [some (.ref (a 0)), some (.ref (b 0)), some (.ref (am 2 0))] []
    refine V_aload_n X dX5_remember_55 rfl ?_
    refine V_bipush X (nI 10) dX5_remember_56 (by decide) ?_
    refine V_aload_n X dX5_remember_58 rfl ?_
    refine V_get X fl_X5_18 1 0 rfl rfl rfl dX5_remember_59 ?_
    refine V_iconst X (nI 1) dX5_remember_62 (by decide) ?_
    refine V_iaddN X dX5_remember_63 ?_
    refine V_mminN X kw_2_229 dX5_remember_64 (by decide) (Nat.le_of_ble_eq_true rfl) ⟨rfl, rfl⟩ (by omega) (by omega) ?_
    refine V_put X fl_X5_18 1 0 rfl rfl rfl rfl (Nat.le_of_ble_eq_true rfl) dX5_remember_67 ?_
    show V C 0 0 [gMo G b (nF wh) (nF de) t (nI sv) (nI vt) (nI ps), gPast G a (fun j => am j 0) (nI ((2 + 1) % 10)) (nI (min 10 (kn + 1))), gMoT G (am 0) (P 0), gMoT G (am 1) (P 1), gMo G (am 2) (nF wh) (nF de) t (nI sv) (nI vt) (nI ps), gMoT G (am 3) (P 3), gMoT G (am 4) (P 4), gMoT G (am 5) (P 5), gMoT G (am 6) (P 6), gMoT G (am 7) (P 7), gMoT G (am 8) (P 8), gMoT G (am 9) (P 9)] 70 [some (.ref (a 0)), some (.ref (b 0)), some (.ref (am 2 0))] []
    exact V_vret X Y () trivial rfl rfl dX5_remember_70
set_option maxHeartbeats 4000000 in
set_option maxRecDepth 100000 in
theorem c_X5_recall_2 (l : Launch) (G : mvG) (a : Nat → Nat) (am : Nat → Nat → Nat) (P : Nat → MoT) (kn : Nat) (b : Nat → Nat) (wh : Nat → Nat) (de : Nat → Nat) (t : Nat → Int32) (sv : Nat) (vt : Nat) (ps : Nat) (hk : 1 ≤ kn ∧ kn ≤ 10) : KQ l yX5_recall cX5_recall 4 none (2, 39) G [.ref (a 0), .ref (b 0)] [gMo G b (nF wh) (nF de) t (nI sv) (nI vt) (nI ps), gPast G a (fun j => am j 0) (nI 2) (nI kn), gMoT G (am 0) (P 0), gMoT G (am 1) (P 1), gMoT G (am 2) (P 2), gMoT G (am 3) (P 3), gMoT G (am 4) (P 4), gMoT G (am 5) (P 5), gMoT G (am 6) (P 6), gMoT G (am 7) (P 7), gMoT G (am 8) (P 8), gMoT G (am 9) (P 9)] (fun (_ : Unit) => none) (fun (_ : Unit) => True) (fun (_ : Unit) => [gMoT G b (P 1), gPast G a (fun j => am j 0) (nI 1) (nI (kn - 1)), gMoT G (am 0) (P 0), gMoT G (am 1) (P 1), gMoT G (am 2) (P 2), gMoT G (am 3) (P 3), gMoT G (am 4) (P 4), gMoT G (am 5) (P 5), gMoT G (am 6) (P 6), gMoT G (am 7) (P 7), gMoT G (am 8) (P 8), gMoT G (am 9) (P 9)]) := by
  refine KQ.mk (by decide +kernel) (fun _ _ => rfl) [some (.ref (a 0)), some (.ref (b 0)), none, none] (Nat.le_of_ble_eq_true rfl) rfl (fun C X Y hC => ?_)
  subst hC
  refine V_aload_n X dX5_recall_0 rfl ?_
  refine V_get X fl_X5_22 1 0 rfl rfl rfl dX5_recall_1 ?_
  refine V_bipush X (nI 10) dX5_recall_4 (by decide) ?_
  refine V_iaddN X dX5_recall_6 ?_
  refine V_iconst X (nI 1) dX5_recall_7 (by decide) ?_
  refine V_isubN X dX5_recall_8 (by omega) ?_
  refine V_bipush X (nI 10) dX5_recall_9 (by decide) ?_
  refine V_iremN X dX5_recall_11 (by omega) (by omega) (by omega) ?_
  refine V_istore_n X dX5_recall_12 (by decide) rfl ?_
  refine V_loc (y := (nI 1)) 2 rfl rfl ?_
  refine V_iload_n X dX5_recall_13 rfl ?_
  refine V_if_ltN X dX5_recall_14 35 (by decide) (by omega) ?_
  refine V_iload_n X dX5_recall_17 rfl ?_
  refine V_aload_n X dX5_recall_18 rfl ?_
  refine V_get X fl_X5_11 1 0 rfl rfl rfl dX5_recall_19 ?_
  refine V_alen X (t0 := 3) 1 1 (nI 10) rfl rfl rfl rfl dX5_recall_22 ?_
  refine V_icmp_geN X 35 dX5_recall_23 (by decide) (by decide) (by decide) (fun c_2 => ?_) (fun c_2 => ?_)
  · exfalso; omega
  · refine V_aload_n X dX5_recall_26 rfl ?_
    refine V_get X fl_X5_11 1 0 rfl rfl rfl dX5_recall_27 ?_
    refine V_iload_n X dX5_recall_30 rfl ?_
    refine V_aaldN X (t0 := 3) 1 1 rfl rfl rfl (by decide) (by decide) dX5_recall_31 ?_
    refine V_goto X 36 dX5_recall_32 (by decide) ?_
    refine V_astore_n X dX5_recall_36 (by decide) rfl ?_
    refine V_aload_n X dX5_recall_37 rfl ?_
    refine V_ifnull X dX5_recall_38 ?_
    refine V_aload_n X dX5_recall_41 rfl ?_
    refine V_get X fl_X5_18 1 0 rfl rfl rfl dX5_recall_42 ?_
    refine V_if_leN X 68 dX5_recall_45 (by decide) (by omega) (fun c_3 => ?_) (fun c_3 => ?_)
    · exfalso; omega
    · show V C 0 0 [gMo G b (nF wh) (nF de) t (nI sv) (nI vt) (nI ps), gPast G a (fun j => am j 0) (nI 2) (nI kn), gMoT G (am 0) (P 0), gMo G (am 1) (nF ((P 1).1)) (nF ((P 1).2.1)) ((P 1).2.2.1) (nI ((P 1).2.2.2.1)) (nI ((P 1).2.2.2.2.1)) (nI ((P 1).2.2.2.2.2)), gMoT G (am 2) (P 2), gMoT G (am 3) (P 3), gMoT G (am 4) (P 4), gMoT G (am 5) (P 5), gMoT G (am 6) (P 6), gMoT G (am 7) (P 7), gMoT G (am 8) (P 8), gMoT G (am 9) (P 9)] 48 [some (.ref (a 0)), some (.ref (b 0)), some (.int (nI 1)), some (.ref (am 1 0))] []
      refine V_aload_n X dX5_recall_48 rfl ?_
      refine V_aload_n X dX5_recall_49 rfl ?_
      refine V_callV (rest := []) X (c_X3_copyFrom (Cl C) G b wh de t sv vt ps (am 1) ((P 1).1) ((P 1).2.1) ((P 1).2.2.1) ((P 1).2.2.2.1) ((P 1).2.2.2.2.1) ((P 1).2.2.2.2.2)) mi_X3_copyFrom kw_2_228 kw_2_125 kw_2_126 dX5_recall_50 [0, 3] rfl (by decide) 0 0 rfl rfl rfl rfl rfl rfl (by decide) (Nat.le_of_ble_eq_true rfl) ⟨rfl, rfl⟩ (fun _ _ => ?_)
      show V C 0 0 [gMo G b (nF ((P 1).1)) (nF ((P 1).2.1)) ((P 1).2.2.1) (nI ((P 1).2.2.2.1)) (nI ((P 1).2.2.2.2.1)) (nI ((P 1).2.2.2.2.2)), gPast G a (fun j => am j 0) (nI 2) (nI kn), gMoT G (am 0) (P 0), gMo G (am 1) (nF ((P 1).1)) (nF ((P 1).2.1)) ((P 1).2.2.1) (nI ((P 1).2.2.2.1)) (nI ((P 1).2.2.2.2.1)) (nI ((P 1).2.2.2.2.2)), gMoT G (am 2) (P 2), gMoT G (am 3) (P 3), gMoT G (am 4) (P 4), gMoT G (am 5) (P 5), gMoT G (am 6) (P 6), gMoT G (am 7) (P 7), gMoT G (am 8) (P 8), gMoT G (am 9) (P 9)] 53 [some (.ref (a 0)), some (.ref (b 0)), some (.int (nI 1)), some (.ref (am 1 0))] []
      refine V_aload_n X dX5_recall_53 rfl ?_
      refine V_iload_n X dX5_recall_54 rfl ?_
      refine V_put X fl_X5_22 1 0 rfl rfl rfl rfl (Nat.le_of_ble_eq_true rfl) dX5_recall_55 ?_
      show V C 0 0 [gMo G b (nF ((P 1).1)) (nF ((P 1).2.1)) ((P 1).2.2.1) (nI ((P 1).2.2.2.1)) (nI ((P 1).2.2.2.2.1)) (nI ((P 1).2.2.2.2.2)), gPast G a (fun j => am j 0) (nI 1) (nI kn), gMoT G (am 0) (P 0), gMo G (am 1) (nF ((P 1).1)) (nF ((P 1).2.1)) ((P 1).2.2.1) (nI ((P 1).2.2.2.1)) (nI ((P 1).2.2.2.2.1)) (nI ((P 1).2.2.2.2.2)), gMoT G (am 2) (P 2), gMoT G (am 3) (P 3), gMoT G (am 4) (P 4), gMoT G (am 5) (P 5), gMoT G (am 6) (P 6), gMoT G (am 7) (P 7), gMoT G (am 8) (P 8), gMoT G (am 9) (P 9)] 58 [some (.ref (a 0)), some (.ref (b 0)), some (.int (nI 1)), some (.ref (am 1 0))] []
      refine V_aload_n X dX5_recall_58 rfl ?_
      refine V_dup X dX5_recall_59 rfl ?_
      refine V_get X fl_X5_18 1 0 rfl rfl rfl dX5_recall_60 ?_
      refine V_iconst X (nI 1) dX5_recall_63 (by decide) ?_
      refine V_isubN X dX5_recall_64 (by omega) ?_
      refine V_put X fl_X5_18 1 0 rfl rfl rfl rfl (Nat.le_of_ble_eq_true rfl) dX5_recall_65 ?_
      show V C 0 0 [gMo G b (nF ((P 1).1)) (nF ((P 1).2.1)) ((P 1).2.2.1) (nI ((P 1).2.2.2.1)) (nI ((P 1).2.2.2.2.1)) (nI ((P 1).2.2.2.2.2)), gPast G a (fun j => am j 0) (nI 1) (nI (kn - 1)), gMoT G (am 0) (P 0), gMo G (am 1) (nF ((P 1).1)) (nF ((P 1).2.1)) ((P 1).2.2.1) (nI ((P 1).2.2.2.1)) (nI ((P 1).2.2.2.2.1)) (nI ((P 1).2.2.2.2.2)), gMoT G (am 2) (P 2), gMoT G (am 3) (P 3), gMoT G (am 4) (P 4), gMoT G (am 5) (P 5), gMoT G (am 6) (P 6), gMoT G (am 7) (P 7), gMoT G (am 8) (P 8), gMoT G (am 9) (P 9)] 68 [some (.ref (a 0)), some (.ref (b 0)), some (.int (nI 1)), some (.ref (am 1 0))] []
      exact V_vret X Y () trivial rfl rfl dX5_recall_68
set_option maxHeartbeats 4000000 in
set_option maxRecDepth 100000 in
theorem c_X5_remember_3 (l : Launch) (G : mvG) (a : Nat → Nat) (am : Nat → Nat → Nat) (P : Nat → MoT) (kn : Nat) (b : Nat → Nat) (wh : Nat → Nat) (de : Nat → Nat) (t : Nat → Int32) (sv : Nat) (vt : Nat) (ps : Nat) (hk : kn ≤ 10) : KQ l yX5_remember cX5_remember 3 none (2, 39) G [.ref (a 0), .ref (b 0)] [gMo G b (nF wh) (nF de) t (nI sv) (nI vt) (nI ps), gPast G a (fun j => am j 0) (nI 3) (nI kn), gMoT G (am 0) (P 0), gMoT G (am 1) (P 1), gMoT G (am 2) (P 2), gMoT G (am 3) (P 3), gMoT G (am 4) (P 4), gMoT G (am 5) (P 5), gMoT G (am 6) (P 6), gMoT G (am 7) (P 7), gMoT G (am 8) (P 8), gMoT G (am 9) (P 9)] (fun (_ : Unit) => none) (fun (_ : Unit) => True) (fun (_ : Unit) => [gMo G b (nF wh) (nF de) t (nI sv) (nI vt) (nI ps), gPast G a (fun j => am j 0) (nI ((3 + 1) % 10)) (nI (min 10 (kn + 1))), gMoT G (am 0) (va_up P 3 (wh, de, t, sv, vt, ps) 0), gMoT G (am 1) (va_up P 3 (wh, de, t, sv, vt, ps) 1), gMoT G (am 2) (va_up P 3 (wh, de, t, sv, vt, ps) 2), gMoT G (am 3) (va_up P 3 (wh, de, t, sv, vt, ps) 3), gMoT G (am 4) (va_up P 3 (wh, de, t, sv, vt, ps) 4), gMoT G (am 5) (va_up P 3 (wh, de, t, sv, vt, ps) 5), gMoT G (am 6) (va_up P 3 (wh, de, t, sv, vt, ps) 6), gMoT G (am 7) (va_up P 3 (wh, de, t, sv, vt, ps) 7), gMoT G (am 8) (va_up P 3 (wh, de, t, sv, vt, ps) 8), gMoT G (am 9) (va_up P 3 (wh, de, t, sv, vt, ps) 9)]) := by
  refine KQ.mk (by decide +kernel) (fun _ _ => rfl) [some (.ref (a 0)), some (.ref (b 0)), none] (Nat.le_of_ble_eq_true rfl) rfl (fun C X Y hC => ?_)
  subst hC
  refine V_aload_n X dX5_remember_0 rfl ?_
  refine V_get X fl_X5_22 1 0 rfl rfl rfl dX5_remember_1 ?_
  refine V_if_ltN X dX5_remember_4 31 (by decide) (by omega) ?_
  refine V_aload_n X dX5_remember_7 rfl ?_
  refine V_get X fl_X5_22 1 0 rfl rfl rfl dX5_remember_8 ?_
  refine V_aload_n X dX5_remember_11 rfl ?_
  refine V_get X fl_X5_11 1 0 rfl rfl rfl dX5_remember_12 ?_
  refine V_alen X (t0 := 3) 1 1 (nI 10) rfl rfl rfl rfl dX5_remember_15 ?_
  refine V_icmp_geN X 31 dX5_remember_16 (by decide) (by decide) (by decide) (fun c_2 => ?_) (fun c_2 => ?_)
  · exfalso; omega
  · refine V_aload_n X dX5_remember_19 rfl ?_
    refine V_get X fl_X5_11 1 0 rfl rfl rfl dX5_remember_20 ?_
    refine V_aload_n X dX5_remember_23 rfl ?_
    refine V_get X fl_X5_22 1 0 rfl rfl rfl dX5_remember_24 ?_
    refine V_aaldN X (t0 := 3) 1 1 rfl rfl rfl (by decide) (by decide) dX5_remember_27 ?_
    refine V_goto X 32 dX5_remember_28 (by decide) ?_
    refine V_astore_n X dX5_remember_32 (by decide) rfl ?_
    refine V_aload_n X dX5_remember_33 rfl ?_
    refine V_ifnull X dX5_remember_34 ?_
    show V C 0 0 [gMo G b (nF wh) (nF de) t (nI sv) (nI vt) (nI ps), gPast G a (fun j => am j 0) (nI 3) (nI kn), gMoT G (am 0) (P 0), gMoT G (am 1) (P 1), gMoT G (am 2) (P 2), gMo G (am 3) (nF ((P 3).1)) (nF ((P 3).2.1)) ((P 3).2.2.1) (nI ((P 3).2.2.2.1)) (nI ((P 3).2.2.2.2.1)) (nI ((P 3).2.2.2.2.2)), gMoT G (am 4) (P 4), gMoT G (am 5) (P 5), gMoT G (am 6) (P 6), gMoT G (am 7) (P 7), gMoT G (am 8) (P 8), gMoT G (am 9) (P 9)] 37 [some (.ref (a 0)), some (.ref (b 0)), some (.ref (am 3 0))] []
    refine V_aload_n X dX5_remember_37 rfl ?_
    refine V_aload_n X dX5_remember_38 rfl ?_
    refine V_callV (rest := []) X (c_X3_copyFrom (Cl C) G (am 3) ((P 3).1) ((P 3).2.1) ((P 3).2.2.1) ((P 3).2.2.2.1) ((P 3).2.2.2.2.1) ((P 3).2.2.2.2.2) b wh de t sv vt ps) mi_X3_copyFrom kw_2_228 kw_2_125 kw_2_126 dX5_remember_39 [5, 0] rfl (by decide) 5 0 rfl rfl rfl rfl rfl rfl (by decide) (Nat.le_of_ble_eq_true rfl) ⟨rfl, rfl⟩ (fun _ _ => ?_)
    show V C 0 0 [gMo G b (nF wh) (nF de) t (nI sv) (nI vt) (nI ps), gPast G a (fun j => am j 0) (nI 3) (nI kn), gMoT G (am 0) (P 0), gMoT G (am 1) (P 1), gMoT G (am 2) (P 2), gMo G (am 3) (nF wh) (nF de) t (nI sv) (nI vt) (nI ps), gMoT G (am 4) (P 4), gMoT G (am 5) (P 5), gMoT G (am 6) (P 6), gMoT G (am 7) (P 7), gMoT G (am 8) (P 8), gMoT G (am 9) (P 9)] 42 [some (.ref (a 0)), some (.ref (b 0)), some (.ref (am 3 0))] []
    refine V_aload_n X dX5_remember_42 rfl ?_
    refine V_aload_n X dX5_remember_43 rfl ?_
    refine V_get X fl_X5_22 1 0 rfl rfl rfl dX5_remember_44 ?_
    refine V_iconst X (nI 1) dX5_remember_47 (by decide) ?_
    refine V_iaddN X dX5_remember_48 ?_
    refine V_bipush X (nI 10) dX5_remember_49 (by decide) ?_
    refine V_iremN X dX5_remember_51 (by omega) (by omega) (by omega) ?_
    refine V_put X fl_X5_22 1 0 rfl rfl rfl rfl (Nat.le_of_ble_eq_true rfl) dX5_remember_52 ?_
    show V C 0 0 [gMo G b (nF wh) (nF de) t (nI sv) (nI vt) (nI ps), gPast G a (fun j => am j 0) (nI ((3 + 1) % 10)) (nI kn), gMoT G (am 0) (P 0), gMoT G (am 1) (P 1), gMoT G (am 2) (P 2), gMo G (am 3) (nF wh) (nF de) t (nI sv) (nI vt) (nI ps), gMoT G (am 4) (P 4), gMoT G (am 5) (P 5), gMoT G (am 6) (P 6), gMoT G (am 7) (P 7), gMoT G (am 8) (P 8), gMoT G (am 9) (P 9)] 55 [some (.ref (a 0)), some (.ref (b 0)), some (.ref (am 3 0))] []
    refine V_aload_n X dX5_remember_55 rfl ?_
    refine V_bipush X (nI 10) dX5_remember_56 (by decide) ?_
    refine V_aload_n X dX5_remember_58 rfl ?_
    refine V_get X fl_X5_18 1 0 rfl rfl rfl dX5_remember_59 ?_
    refine V_iconst X (nI 1) dX5_remember_62 (by decide) ?_
    refine V_iaddN X dX5_remember_63 ?_
    refine V_mminN X kw_2_229 dX5_remember_64 (by decide) (Nat.le_of_ble_eq_true rfl) ⟨rfl, rfl⟩ (by omega) (by omega) ?_
    refine V_put X fl_X5_18 1 0 rfl rfl rfl rfl (Nat.le_of_ble_eq_true rfl) dX5_remember_67 ?_
    show V C 0 0 [gMo G b (nF wh) (nF de) t (nI sv) (nI vt) (nI ps), gPast G a (fun j => am j 0) (nI ((3 + 1) % 10)) (nI (min 10 (kn + 1))), gMoT G (am 0) (P 0), gMoT G (am 1) (P 1), gMoT G (am 2) (P 2), gMo G (am 3) (nF wh) (nF de) t (nI sv) (nI vt) (nI ps), gMoT G (am 4) (P 4), gMoT G (am 5) (P 5), gMoT G (am 6) (P 6), gMoT G (am 7) (P 7), gMoT G (am 8) (P 8), gMoT G (am 9) (P 9)] 70 [some (.ref (a 0)), some (.ref (b 0)), some (.ref (am 3 0))] []
    exact V_vret X Y () trivial rfl rfl dX5_remember_70
set_option maxHeartbeats 4000000 in
set_option maxRecDepth 100000 in
theorem c_X5_recall_3 (l : Launch) (G : mvG) (a : Nat → Nat) (am : Nat → Nat → Nat) (P : Nat → MoT) (kn : Nat) (b : Nat → Nat) (wh : Nat → Nat) (de : Nat → Nat) (t : Nat → Int32) (sv : Nat) (vt : Nat) (ps : Nat) (hk : 1 ≤ kn ∧ kn ≤ 10) : KQ l yX5_recall cX5_recall 4 none (2, 39) G [.ref (a 0), .ref (b 0)] [gMo G b (nF wh) (nF de) t (nI sv) (nI vt) (nI ps), gPast G a (fun j => am j 0) (nI 3) (nI kn), gMoT G (am 0) (P 0), gMoT G (am 1) (P 1), gMoT G (am 2) (P 2), gMoT G (am 3) (P 3), gMoT G (am 4) (P 4), gMoT G (am 5) (P 5), gMoT G (am 6) (P 6), gMoT G (am 7) (P 7), gMoT G (am 8) (P 8), gMoT G (am 9) (P 9)] (fun (_ : Unit) => none) (fun (_ : Unit) => True) (fun (_ : Unit) => [gMoT G b (P 2), gPast G a (fun j => am j 0) (nI 2) (nI (kn - 1)), gMoT G (am 0) (P 0), gMoT G (am 1) (P 1), gMoT G (am 2) (P 2), gMoT G (am 3) (P 3), gMoT G (am 4) (P 4), gMoT G (am 5) (P 5), gMoT G (am 6) (P 6), gMoT G (am 7) (P 7), gMoT G (am 8) (P 8), gMoT G (am 9) (P 9)]) := by
  refine KQ.mk (by decide +kernel) (fun _ _ => rfl) [some (.ref (a 0)), some (.ref (b 0)), none, none] (Nat.le_of_ble_eq_true rfl) rfl (fun C X Y hC => ?_)
  subst hC
  refine V_aload_n X dX5_recall_0 rfl ?_
  refine V_get X fl_X5_22 1 0 rfl rfl rfl dX5_recall_1 ?_
  refine V_bipush X (nI 10) dX5_recall_4 (by decide) ?_
  refine V_iaddN X dX5_recall_6 ?_
  refine V_iconst X (nI 1) dX5_recall_7 (by decide) ?_
  refine V_isubN X dX5_recall_8 (by omega) ?_
  refine V_bipush X (nI 10) dX5_recall_9 (by decide) ?_
  refine V_iremN X dX5_recall_11 (by omega) (by omega) (by omega) ?_
  refine V_istore_n X dX5_recall_12 (by decide) rfl ?_
  refine V_loc (y := (nI 2)) 2 rfl rfl ?_
  refine V_iload_n X dX5_recall_13 rfl ?_
  refine V_if_ltN X dX5_recall_14 35 (by decide) (by omega) ?_
  refine V_iload_n X dX5_recall_17 rfl ?_
  refine V_aload_n X dX5_recall_18 rfl ?_
  refine V_get X fl_X5_11 1 0 rfl rfl rfl dX5_recall_19 ?_
  refine V_alen X (t0 := 3) 1 1 (nI 10) rfl rfl rfl rfl dX5_recall_22 ?_
  refine V_icmp_geN X 35 dX5_recall_23 (by decide) (by decide) (by decide) (fun c_2 => ?_) (fun c_2 => ?_)
  · exfalso; omega
  · refine V_aload_n X dX5_recall_26 rfl ?_
    refine V_get X fl_X5_11 1 0 rfl rfl rfl dX5_recall_27 ?_
    refine V_iload_n X dX5_recall_30 rfl ?_
    refine V_aaldN X (t0 := 3) 1 1 rfl rfl rfl (by decide) (by decide) dX5_recall_31 ?_
    refine V_goto X 36 dX5_recall_32 (by decide) ?_
    refine V_astore_n X dX5_recall_36 (by decide) rfl ?_
    refine V_aload_n X dX5_recall_37 rfl ?_
    refine V_ifnull X dX5_recall_38 ?_
    refine V_aload_n X dX5_recall_41 rfl ?_
    refine V_get X fl_X5_18 1 0 rfl rfl rfl dX5_recall_42 ?_
    refine V_if_leN X 68 dX5_recall_45 (by decide) (by omega) (fun c_3 => ?_) (fun c_3 => ?_)
    · exfalso; omega
    · show V C 0 0 [gMo G b (nF wh) (nF de) t (nI sv) (nI vt) (nI ps), gPast G a (fun j => am j 0) (nI 3) (nI kn), gMoT G (am 0) (P 0), gMoT G (am 1) (P 1), gMo G (am 2) (nF ((P 2).1)) (nF ((P 2).2.1)) ((P 2).2.2.1) (nI ((P 2).2.2.2.1)) (nI ((P 2).2.2.2.2.1)) (nI ((P 2).2.2.2.2.2)), gMoT G (am 3) (P 3), gMoT G (am 4) (P 4), gMoT G (am 5) (P 5), gMoT G (am 6) (P 6), gMoT G (am 7) (P 7), gMoT G (am 8) (P 8), gMoT G (am 9) (P 9)] 48 [some (.ref (a 0)), some (.ref (b 0)), some (.int (nI 2)), some (.ref (am 2 0))] []
      refine V_aload_n X dX5_recall_48 rfl ?_
      refine V_aload_n X dX5_recall_49 rfl ?_
      refine V_callV (rest := []) X (c_X3_copyFrom (Cl C) G b wh de t sv vt ps (am 2) ((P 2).1) ((P 2).2.1) ((P 2).2.2.1) ((P 2).2.2.2.1) ((P 2).2.2.2.2.1) ((P 2).2.2.2.2.2)) mi_X3_copyFrom kw_2_228 kw_2_125 kw_2_126 dX5_recall_50 [0, 4] rfl (by decide) 0 0 rfl rfl rfl rfl rfl rfl (by decide) (Nat.le_of_ble_eq_true rfl) ⟨rfl, rfl⟩ (fun _ _ => ?_)
      show V C 0 0 [gMo G b (nF ((P 2).1)) (nF ((P 2).2.1)) ((P 2).2.2.1) (nI ((P 2).2.2.2.1)) (nI ((P 2).2.2.2.2.1)) (nI ((P 2).2.2.2.2.2)), gPast G a (fun j => am j 0) (nI 3) (nI kn), gMoT G (am 0) (P 0), gMoT G (am 1) (P 1), gMo G (am 2) (nF ((P 2).1)) (nF ((P 2).2.1)) ((P 2).2.2.1) (nI ((P 2).2.2.2.1)) (nI ((P 2).2.2.2.2.1)) (nI ((P 2).2.2.2.2.2)), gMoT G (am 3) (P 3), gMoT G (am 4) (P 4), gMoT G (am 5) (P 5), gMoT G (am 6) (P 6), gMoT G (am 7) (P 7), gMoT G (am 8) (P 8), gMoT G (am 9) (P 9)] 53 [some (.ref (a 0)), some (.ref (b 0)), some (.int (nI 2)), some (.ref (am 2 0))] []
      refine V_aload_n X dX5_recall_53 rfl ?_
      refine V_iload_n X dX5_recall_54 rfl ?_
      refine V_put X fl_X5_22 1 0 rfl rfl rfl rfl (Nat.le_of_ble_eq_true rfl) dX5_recall_55 ?_
      show V C 0 0 [gMo G b (nF ((P 2).1)) (nF ((P 2).2.1)) ((P 2).2.2.1) (nI ((P 2).2.2.2.1)) (nI ((P 2).2.2.2.2.1)) (nI ((P 2).2.2.2.2.2)), gPast G a (fun j => am j 0) (nI 2) (nI kn), gMoT G (am 0) (P 0), gMoT G (am 1) (P 1), gMo G (am 2) (nF ((P 2).1)) (nF ((P 2).2.1)) ((P 2).2.2.1) (nI ((P 2).2.2.2.1)) (nI ((P 2).2.2.2.2.1)) (nI ((P 2).2.2.2.2.2)), gMoT G (am 3) (P 3), gMoT G (am 4) (P 4), gMoT G (am 5) (P 5), gMoT G (am 6) (P 6), gMoT G (am 7) (P 7), gMoT G (am 8) (P 8), gMoT G (am 9) (P 9)] 58 [some (.ref (a 0)), some (.ref (b 0)), some (.int (nI 2)), some (.ref (am 2 0))] []
      refine V_aload_n X dX5_recall_58 rfl ?_
      refine V_dup X dX5_recall_59 rfl ?_
      refine V_get X fl_X5_18 1 0 rfl rfl rfl dX5_recall_60 ?_
      refine V_iconst X (nI 1) dX5_recall_63 (by decide) ?_
      refine V_isubN X dX5_recall_64 (by omega) ?_
      refine V_put X fl_X5_18 1 0 rfl rfl rfl rfl (Nat.le_of_ble_eq_true rfl) dX5_recall_65 ?_
      show V C 0 0 [gMo G b (nF ((P 2).1)) (nF ((P 2).2.1)) ((P 2).2.2.1) (nI ((P 2).2.2.2.1)) (nI ((P 2).2.2.2.2.1)) (nI ((P 2).2.2.2.2.2)), gPast G a (fun j => am j 0) (nI 2) (nI (kn - 1)), gMoT G (am 0) (P 0), gMoT G (am 1) (P 1), gMo G (am 2) (nF ((P 2).1)) (nF ((P 2).2.1)) ((P 2).2.2.1) (nI ((P 2).2.2.2.1)) (nI ((P 2).2.2.2.2.1)) (nI ((P 2).2.2.2.2.2)), gMoT G (am 3) (P 3), gMoT G (am 4) (P 4), gMoT G (am 5) (P 5), gMoT G (am 6) (P 6), gMoT G (am 7) (P 7), gMoT G (am 8) (P 8), gMoT G (am 9) (P 9)] 68 [some (.ref (a 0)), some (.ref (b 0)), some (.int (nI 2)), some (.ref (am 2 0))] []
      exact V_vret X Y () trivial rfl rfl dX5_recall_68
set_option maxHeartbeats 4000000 in
set_option maxRecDepth 100000 in
theorem c_X5_remember_4 (l : Launch) (G : mvG) (a : Nat → Nat) (am : Nat → Nat → Nat) (P : Nat → MoT) (kn : Nat) (b : Nat → Nat) (wh : Nat → Nat) (de : Nat → Nat) (t : Nat → Int32) (sv : Nat) (vt : Nat) (ps : Nat) (hk : kn ≤ 10) : KQ l yX5_remember cX5_remember 3 none (2, 39) G [.ref (a 0), .ref (b 0)] [gMo G b (nF wh) (nF de) t (nI sv) (nI vt) (nI ps), gPast G a (fun j => am j 0) (nI 4) (nI kn), gMoT G (am 0) (P 0), gMoT G (am 1) (P 1), gMoT G (am 2) (P 2), gMoT G (am 3) (P 3), gMoT G (am 4) (P 4), gMoT G (am 5) (P 5), gMoT G (am 6) (P 6), gMoT G (am 7) (P 7), gMoT G (am 8) (P 8), gMoT G (am 9) (P 9)] (fun (_ : Unit) => none) (fun (_ : Unit) => True) (fun (_ : Unit) => [gMo G b (nF wh) (nF de) t (nI sv) (nI vt) (nI ps), gPast G a (fun j => am j 0) (nI ((4 + 1) % 10)) (nI (min 10 (kn + 1))), gMoT G (am 0) (va_up P 4 (wh, de, t, sv, vt, ps) 0), gMoT G (am 1) (va_up P 4 (wh, de, t, sv, vt, ps) 1), gMoT G (am 2) (va_up P 4 (wh, de, t, sv, vt, ps) 2), gMoT G (am 3) (va_up P 4 (wh, de, t, sv, vt, ps) 3), gMoT G (am 4) (va_up P 4 (wh, de, t, sv, vt, ps) 4), gMoT G (am 5) (va_up P 4 (wh, de, t, sv, vt, ps) 5), gMoT G (am 6) (va_up P 4 (wh, de, t, sv, vt, ps) 6), gMoT G (am 7) (va_up P 4 (wh, de, t, sv, vt, ps) 7), gMoT G (am 8) (va_up P 4 (wh, de, t, sv, vt, ps) 8), gMoT G (am 9) (va_up P 4 (wh, de, t, sv, vt, ps) 9)]) := by
  refine KQ.mk (by decide +kernel) (fun _ _ => rfl) [some (.ref (a 0)), some (.ref (b 0)), none] (Nat.le_of_ble_eq_true rfl) rfl (fun C X Y hC => ?_)
  subst hC
  refine V_aload_n X dX5_remember_0 rfl ?_
  refine V_get X fl_X5_22 1 0 rfl rfl rfl dX5_remember_1 ?_
  refine V_if_ltN X dX5_remember_4 31 (by decide) (by omega) ?_
  refine V_aload_n X dX5_remember_7 rfl ?_
  refine V_get X fl_X5_22 1 0 rfl rfl rfl dX5_remember_8 ?_
  refine V_aload_n X dX5_remember_11 rfl ?_
  refine V_get X fl_X5_11 1 0 rfl rfl rfl dX5_remember_12 ?_
  refine V_alen X (t0 := 3) 1 1 (nI 10) rfl rfl rfl rfl dX5_remember_15 ?_
  refine V_icmp_geN X 31 dX5_remember_16 (by decide) (by decide) (by decide) (fun c_2 => ?_) (fun c_2 => ?_)
  · exfalso; omega
  · refine V_aload_n X dX5_remember_19 rfl ?_
    refine V_get X fl_X5_11 1 0 rfl rfl rfl dX5_remember_20 ?_
    refine V_aload_n X dX5_remember_23 rfl ?_
    refine V_get X fl_X5_22 1 0 rfl rfl rfl dX5_remember_24 ?_
    refine V_aaldN X (t0 := 3) 1 1 rfl rfl rfl (by decide) (by decide) dX5_remember_27 ?_
    refine V_goto X 32 dX5_remember_28 (by decide) ?_
    refine V_astore_n X dX5_remember_32 (by decide) rfl ?_
    refine V_aload_n X dX5_remember_33 rfl ?_
    refine V_ifnull X dX5_remember_34 ?_
    show V C 0 0 [gMo G b (nF wh) (nF de) t (nI sv) (nI vt) (nI ps), gPast G a (fun j => am j 0) (nI 4) (nI kn), gMoT G (am 0) (P 0), gMoT G (am 1) (P 1), gMoT G (am 2) (P 2), gMoT G (am 3) (P 3), gMo G (am 4) (nF ((P 4).1)) (nF ((P 4).2.1)) ((P 4).2.2.1) (nI ((P 4).2.2.2.1)) (nI ((P 4).2.2.2.2.1)) (nI ((P 4).2.2.2.2.2)), gMoT G (am 5) (P 5), gMoT G (am 6) (P 6), gMoT G (am 7) (P 7), gMoT G (am 8) (P 8), gMoT G (am 9) (P 9)] 37 [some (.ref (a 0)), some (.ref (b 0)), some (.ref (am 4 0))] []
    refine V_aload_n X dX5_remember_37 rfl ?_
    refine V_aload_n X dX5_remember_38 rfl ?_
    refine V_callV (rest := []) X (c_X3_copyFrom (Cl C) G (am 4) ((P 4).1) ((P 4).2.1) ((P 4).2.2.1) ((P 4).2.2.2.1) ((P 4).2.2.2.2.1) ((P 4).2.2.2.2.2) b wh de t sv vt ps) mi_X3_copyFrom kw_2_228 kw_2_125 kw_2_126 dX5_remember_39 [6, 0] rfl (by decide) 6 0 rfl rfl rfl rfl rfl rfl (by decide) (Nat.le_of_ble_eq_true rfl) ⟨rfl, rfl⟩ (fun _ _ => ?_)
    show V C 0 0 [gMo G b (nF wh) (nF de) t (nI sv) (nI vt) (nI ps), gPast G a (fun j => am j 0) (nI 4) (nI kn), gMoT G (am 0) (P 0), gMoT G (am 1) (P 1), gMoT G (am 2) (P 2), gMoT G (am 3) (P 3), gMo G (am 4) (nF wh) (nF de) t (nI sv) (nI vt) (nI ps), gMoT G (am 5) (P 5), gMoT G (am 6) (P 6), gMoT G (am 7) (P 7), gMoT G (am 8) (P 8), gMoT G (am 9) (P 9)] 42 [some (.ref (a 0)), some (.ref (b 0)), some (.ref (am 4 0))] []
    refine V_aload_n X dX5_remember_42 rfl ?_
    refine V_aload_n X dX5_remember_43 rfl ?_
    refine V_get X fl_X5_22 1 0 rfl rfl rfl dX5_remember_44 ?_
    refine V_iconst X (nI 1) dX5_remember_47 (by decide) ?_
    refine V_iaddN X dX5_remember_48 ?_
    refine V_bipush X (nI 10) dX5_remember_49 (by decide) ?_
    refine V_iremN X dX5_remember_51 (by omega) (by omega) (by omega) ?_
    refine V_put X fl_X5_22 1 0 rfl rfl rfl rfl (Nat.le_of_ble_eq_true rfl) dX5_remember_52 ?_
    show V C 0 0 [gMo G b (nF wh) (nF de) t (nI sv) (nI vt) (nI ps), gPast G a (fun j => am j 0) (nI ((4 + 1) % 10)) (nI kn), gMoT G (am 0) (P 0), gMoT G (am 1) (P 1), gMoT G (am 2) (P 2), gMoT G (am 3) (P 3), gMo G (am 4) (nF wh) (nF de) t (nI sv) (nI vt) (nI ps), gMoT G (am 5) (P 5), gMoT G (am 6) (P 6), gMoT G (am 7) (P 7), gMoT G (am 8) (P 8), gMoT G (am 9) (P 9)] 55 [some (.ref (a 0)), some (.ref (b 0)), some (.ref (am 4 0))] []
    refine V_aload_n X dX5_remember_55 rfl ?_
    refine V_bipush X (nI 10) dX5_remember_56 (by decide) ?_
    refine V_aload_n X dX5_remember_58 rfl ?_
    refine V_get X fl_X5_18 1 0 rfl rfl rfl dX5_remember_59 ?_
    refine V_iconst X (nI 1) dX5_remember_62 (by decide) ?_
    refine V_iaddN X dX5_remember_63 ?_
    refine V_mminN X kw_2_229 dX5_remember_64 (by decide) (Nat.le_of_ble_eq_true rfl) ⟨rfl, rfl⟩ (by omega) (by omega) ?_
    refine V_put X fl_X5_18 1 0 rfl rfl rfl rfl (Nat.le_of_ble_eq_true rfl) dX5_remember_67 ?_
    show V C 0 0 [gMo G b (nF wh) (nF de) t (nI sv) (nI vt) (nI ps), gPast G a (fun j => am j 0) (nI ((4 + 1) % 10)) (nI (min 10 (kn + 1))), gMoT G (am 0) (P 0), gMoT G (am 1) (P 1), gMoT G (am 2) (P 2), gMoT G (am 3) (P 3), gMo G (am 4) (nF wh) (nF de) t (nI sv) (nI vt) (nI ps), gMoT G (am 5) (P 5), gMoT G (am 6) (P 6), gMoT G (am 7) (P 7), gMoT G (am 8) (P 8), gMoT G (am 9) (P 9)] 70 [some (.ref (a 0)), some (.ref (b 0)), some (.ref (am 4 0))] []
    exact V_vret X Y () trivial rfl rfl dX5_remember_70
set_option maxHeartbeats 4000000 in
set_option maxRecDepth 100000 in
theorem c_X5_recall_4 (l : Launch) (G : mvG) (a : Nat → Nat) (am : Nat → Nat → Nat) (P : Nat → MoT) (kn : Nat) (b : Nat → Nat) (wh : Nat → Nat) (de : Nat → Nat) (t : Nat → Int32) (sv : Nat) (vt : Nat) (ps : Nat) (hk : 1 ≤ kn ∧ kn ≤ 10) : KQ l yX5_recall cX5_recall 4 none (2, 39) G [.ref (a 0), .ref (b 0)] [gMo G b (nF wh) (nF de) t (nI sv) (nI vt) (nI ps), gPast G a (fun j => am j 0) (nI 4) (nI kn), gMoT G (am 0) (P 0), gMoT G (am 1) (P 1), gMoT G (am 2) (P 2), gMoT G (am 3) (P 3), gMoT G (am 4) (P 4), gMoT G (am 5) (P 5), gMoT G (am 6) (P 6), gMoT G (am 7) (P 7), gMoT G (am 8) (P 8), gMoT G (am 9) (P 9)] (fun (_ : Unit) => none) (fun (_ : Unit) => True) (fun (_ : Unit) => [gMoT G b (P 3), gPast G a (fun j => am j 0) (nI 3) (nI (kn - 1)), gMoT G (am 0) (P 0), gMoT G (am 1) (P 1), gMoT G (am 2) (P 2), gMoT G (am 3) (P 3), gMoT G (am 4) (P 4), gMoT G (am 5) (P 5), gMoT G (am 6) (P 6), gMoT G (am 7) (P 7), gMoT G (am 8) (P 8), gMoT G (am 9) (P 9)]) := by
  refine KQ.mk (by decide +kernel) (fun _ _ => rfl) [some (.ref (a 0)), some (.ref (b 0)), none, none] (Nat.le_of_ble_eq_true rfl) rfl (fun C X Y hC => ?_)
  subst hC
  refine V_aload_n X dX5_recall_0 rfl ?_
  refine V_get X fl_X5_22 1 0 rfl rfl rfl dX5_recall_1 ?_
  refine V_bipush X (nI 10) dX5_recall_4 (by decide) ?_
  refine V_iaddN X dX5_recall_6 ?_
  refine V_iconst X (nI 1) dX5_recall_7 (by decide) ?_
  refine V_isubN X dX5_recall_8 (by omega) ?_
  refine V_bipush X (nI 10) dX5_recall_9 (by decide) ?_
  refine V_iremN X dX5_recall_11 (by omega) (by omega) (by omega) ?_
  refine V_istore_n X dX5_recall_12 (by decide) rfl ?_
  refine V_loc (y := (nI 3)) 2 rfl rfl ?_
  refine V_iload_n X dX5_recall_13 rfl ?_
  refine V_if_ltN X dX5_recall_14 35 (by decide) (by omega) ?_
  refine V_iload_n X dX5_recall_17 rfl ?_
  refine V_aload_n X dX5_recall_18 rfl ?_
  refine V_get X fl_X5_11 1 0 rfl rfl rfl dX5_recall_19 ?_
  refine V_alen X (t0 := 3) 1 1 (nI 10) rfl rfl rfl rfl dX5_recall_22 ?_
  refine V_icmp_geN X 35 dX5_recall_23 (by decide) (by decide) (by decide) (fun c_2 => ?_) (fun c_2 => ?_)
  · exfalso; omega
  · refine V_aload_n X dX5_recall_26 rfl ?_
    refine V_get X fl_X5_11 1 0 rfl rfl rfl dX5_recall_27 ?_
    refine V_iload_n X dX5_recall_30 rfl ?_
    refine V_aaldN X (t0 := 3) 1 1 rfl rfl rfl (by decide) (by decide) dX5_recall_31 ?_
    refine V_goto X 36 dX5_recall_32 (by decide) ?_
    refine V_astore_n X dX5_recall_36 (by decide) rfl ?_
    refine V_aload_n X dX5_recall_37 rfl ?_
    refine V_ifnull X dX5_recall_38 ?_
    refine V_aload_n X dX5_recall_41 rfl ?_
    refine V_get X fl_X5_18 1 0 rfl rfl rfl dX5_recall_42 ?_
    refine V_if_leN X 68 dX5_recall_45 (by decide) (by omega) (fun c_3 => ?_) (fun c_3 => ?_)
    · exfalso; omega
    · show V C 0 0 [gMo G b (nF wh) (nF de) t (nI sv) (nI vt) (nI ps), gPast G a (fun j => am j 0) (nI 4) (nI kn), gMoT G (am 0) (P 0), gMoT G (am 1) (P 1), gMoT G (am 2) (P 2), gMo G (am 3) (nF ((P 3).1)) (nF ((P 3).2.1)) ((P 3).2.2.1) (nI ((P 3).2.2.2.1)) (nI ((P 3).2.2.2.2.1)) (nI ((P 3).2.2.2.2.2)), gMoT G (am 4) (P 4), gMoT G (am 5) (P 5), gMoT G (am 6) (P 6), gMoT G (am 7) (P 7), gMoT G (am 8) (P 8), gMoT G (am 9) (P 9)] 48 [some (.ref (a 0)), some (.ref (b 0)), some (.int (nI 3)), some (.ref (am 3 0))] []
      refine V_aload_n X dX5_recall_48 rfl ?_
      refine V_aload_n X dX5_recall_49 rfl ?_
      refine V_callV (rest := []) X (c_X3_copyFrom (Cl C) G b wh de t sv vt ps (am 3) ((P 3).1) ((P 3).2.1) ((P 3).2.2.1) ((P 3).2.2.2.1) ((P 3).2.2.2.2.1) ((P 3).2.2.2.2.2)) mi_X3_copyFrom kw_2_228 kw_2_125 kw_2_126 dX5_recall_50 [0, 5] rfl (by decide) 0 0 rfl rfl rfl rfl rfl rfl (by decide) (Nat.le_of_ble_eq_true rfl) ⟨rfl, rfl⟩ (fun _ _ => ?_)
      show V C 0 0 [gMo G b (nF ((P 3).1)) (nF ((P 3).2.1)) ((P 3).2.2.1) (nI ((P 3).2.2.2.1)) (nI ((P 3).2.2.2.2.1)) (nI ((P 3).2.2.2.2.2)), gPast G a (fun j => am j 0) (nI 4) (nI kn), gMoT G (am 0) (P 0), gMoT G (am 1) (P 1), gMoT G (am 2) (P 2), gMo G (am 3) (nF ((P 3).1)) (nF ((P 3).2.1)) ((P 3).2.2.1) (nI ((P 3).2.2.2.1)) (nI ((P 3).2.2.2.2.1)) (nI ((P 3).2.2.2.2.2)), gMoT G (am 4) (P 4), gMoT G (am 5) (P 5), gMoT G (am 6) (P 6), gMoT G (am 7) (P 7), gMoT G (am 8) (P 8), gMoT G (am 9) (P 9)] 53 [some (.ref (a 0)), some (.ref (b 0)), some (.int (nI 3)), some (.ref (am 3 0))] []
      refine V_aload_n X dX5_recall_53 rfl ?_
      refine V_iload_n X dX5_recall_54 rfl ?_
      refine V_put X fl_X5_22 1 0 rfl rfl rfl rfl (Nat.le_of_ble_eq_true rfl) dX5_recall_55 ?_
      show V C 0 0 [gMo G b (nF ((P 3).1)) (nF ((P 3).2.1)) ((P 3).2.2.1) (nI ((P 3).2.2.2.1)) (nI ((P 3).2.2.2.2.1)) (nI ((P 3).2.2.2.2.2)), gPast G a (fun j => am j 0) (nI 3) (nI kn), gMoT G (am 0) (P 0), gMoT G (am 1) (P 1), gMoT G (am 2) (P 2), gMo G (am 3) (nF ((P 3).1)) (nF ((P 3).2.1)) ((P 3).2.2.1) (nI ((P 3).2.2.2.1)) (nI ((P 3).2.2.2.2.1)) (nI ((P 3).2.2.2.2.2)), gMoT G (am 4) (P 4), gMoT G (am 5) (P 5), gMoT G (am 6) (P 6), gMoT G (am 7) (P 7), gMoT G (am 8) (P 8), gMoT G (am 9) (P 9)] 58 [some (.ref (a 0)), some (.ref (b 0)), some (.int (nI 3)), some (.ref (am 3 0))] []
      refine V_aload_n X dX5_recall_58 rfl ?_
      refine V_dup X dX5_recall_59 rfl ?_
      refine V_get X fl_X5_18 1 0 rfl rfl rfl dX5_recall_60 ?_
      refine V_iconst X (nI 1) dX5_recall_63 (by decide) ?_
      refine V_isubN X dX5_recall_64 (by omega) ?_
      refine V_put X fl_X5_18 1 0 rfl rfl rfl rfl (Nat.le_of_ble_eq_true rfl) dX5_recall_65 ?_
      show V C 0 0 [gMo G b (nF ((P 3).1)) (nF ((P 3).2.1)) ((P 3).2.2.1) (nI ((P 3).2.2.2.1)) (nI ((P 3).2.2.2.2.1)) (nI ((P 3).2.2.2.2.2)), gPast G a (fun j => am j 0) (nI 3) (nI (kn - 1)), gMoT G (am 0) (P 0), gMoT G (am 1) (P 1), gMoT G (am 2) (P 2), gMo G (am 3) (nF ((P 3).1)) (nF ((P 3).2.1)) ((P 3).2.2.1) (nI ((P 3).2.2.2.1)) (nI ((P 3).2.2.2.2.1)) (nI ((P 3).2.2.2.2.2)), gMoT G (am 4) (P 4), gMoT G (am 5) (P 5), gMoT G (am 6) (P 6), gMoT G (am 7) (P 7), gMoT G (am 8) (P 8), gMoT G (am 9) (P 9)] 68 [some (.ref (a 0)), some (.ref (b 0)), some (.int (nI 3)), some (.ref (am 3 0))] []
      exact V_vret X Y () trivial rfl rfl dX5_recall_68
set_option maxHeartbeats 4000000 in
set_option maxRecDepth 100000 in
theorem c_X5_remember_5 (l : Launch) (G : mvG) (a : Nat → Nat) (am : Nat → Nat → Nat) (P : Nat → MoT) (kn : Nat) (b : Nat → Nat) (wh : Nat → Nat) (de : Nat → Nat) (t : Nat → Int32) (sv : Nat) (vt : Nat) (ps : Nat) (hk : kn ≤ 10) : KQ l yX5_remember cX5_remember 3 none (2, 39) G [.ref (a 0), .ref (b 0)] [gMo G b (nF wh) (nF de) t (nI sv) (nI vt) (nI ps), gPast G a (fun j => am j 0) (nI 5) (nI kn), gMoT G (am 0) (P 0), gMoT G (am 1) (P 1), gMoT G (am 2) (P 2), gMoT G (am 3) (P 3), gMoT G (am 4) (P 4), gMoT G (am 5) (P 5), gMoT G (am 6) (P 6), gMoT G (am 7) (P 7), gMoT G (am 8) (P 8), gMoT G (am 9) (P 9)] (fun (_ : Unit) => none) (fun (_ : Unit) => True) (fun (_ : Unit) => [gMo G b (nF wh) (nF de) t (nI sv) (nI vt) (nI ps), gPast G a (fun j => am j 0) (nI ((5 + 1) % 10)) (nI (min 10 (kn + 1))), gMoT G (am 0) (va_up P 5 (wh, de, t, sv, vt, ps) 0), gMoT G (am 1) (va_up P 5 (wh, de, t, sv, vt, ps) 1), gMoT G (am 2) (va_up P 5 (wh, de, t, sv, vt, ps) 2), gMoT G (am 3) (va_up P 5 (wh, de, t, sv, vt, ps) 3), gMoT G (am 4) (va_up P 5 (wh, de, t, sv, vt, ps) 4), gMoT G (am 5) (va_up P 5 (wh, de, t, sv, vt, ps) 5), gMoT G (am 6) (va_up P 5 (wh, de, t, sv, vt, ps) 6), gMoT G (am 7) (va_up P 5 (wh, de, t, sv, vt, ps) 7), gMoT G (am 8) (va_up P 5 (wh, de, t, sv, vt, ps) 8), gMoT G (am 9) (va_up P 5 (wh, de, t, sv, vt, ps) 9)]) := by
  refine KQ.mk (by decide +kernel) (fun _ _ => rfl) [some (.ref (a 0)), some (.ref (b 0)), none] (Nat.le_of_ble_eq_true rfl) rfl (fun C X Y hC => ?_)
  subst hC
  refine V_aload_n X dX5_remember_0 rfl ?_
  refine V_get X fl_X5_22 1 0 rfl rfl rfl dX5_remember_1 ?_
  refine V_if_ltN X dX5_remember_4 31 (by decide) (by omega) ?_
  refine V_aload_n X dX5_remember_7 rfl ?_
  refine V_get X fl_X5_22 1 0 rfl rfl rfl dX5_remember_8 ?_
  refine V_aload_n X dX5_remember_11 rfl ?_
  refine V_get X fl_X5_11 1 0 rfl rfl rfl dX5_remember_12 ?_
  refine V_alen X (t0 := 3) 1 1 (nI 10) rfl rfl rfl rfl dX5_remember_15 ?_
  refine V_icmp_geN X 31 dX5_remember_16 (by decide) (by decide) (by decide) (fun c_2 => ?_) (fun c_2 => ?_)
  · exfalso; omega
  · refine V_aload_n X dX5_remember_19 rfl ?_
    refine V_get X fl_X5_11 1 0 rfl rfl rfl dX5_remember_20 ?_
    refine V_aload_n X dX5_remember_23 rfl ?_
    refine V_get X fl_X5_22 1 0 rfl rfl rfl dX5_remember_24 ?_
    refine V_aaldN X (t0 := 3) 1 1 rfl rfl rfl (by decide) (by decide) dX5_remember_27 ?_
    refine V_goto X 32 dX5_remember_28 (by decide) ?_
    refine V_astore_n X dX5_remember_32 (by decide) rfl ?_
    refine V_aload_n X dX5_remember_33 rfl ?_
    refine V_ifnull X dX5_remember_34 ?_
    show V C 0 0 [gMo G b (nF wh) (nF de) t (nI sv) (nI vt) (nI ps), gPast G a (fun j => am j 0) (nI 5) (nI kn), gMoT G (am 0) (P 0), gMoT G (am 1) (P 1), gMoT G (am 2) (P 2), gMoT G (am 3) (P 3), gMoT G (am 4) (P 4), gMo G (am 5) (nF ((P 5).1)) (nF ((P 5).2.1)) ((P 5).2.2.1) (nI ((P 5).2.2.2.1)) (nI ((P 5).2.2.2.2.1)) (nI ((P 5).2.2.2.2.2)), gMoT G (am 6) (P 6), gMoT G (am 7) (P 7), gMoT G (am 8) (P 8), gMoT G (am 9) (P 9)] 37 [some (.ref (a 0)), some (.ref (b 0)), some (.ref (am 5 0))] []
    refine V_aload_n X dX5_remember_37 rfl ?_
    refine V_aload_n X dX5_remember_38 rfl ?_
    refine V_callV (rest := []) X (c_X3_copyFrom (Cl C) G (am 5) ((P 5).1) ((P 5).2.1) ((P 5).2.2.1) ((P 5).2.2.2.1) ((P 5).2.2.2.2.1) ((P 5).2.2.2.2.2) b wh de t sv vt ps) mi_X3_copyFrom kw_2_228 kw_2_125 kw_2_126 dX5_remember_39 [7, 0] rfl (by decide) 7 0 rfl rfl rfl rfl rfl rfl (by decide) (Nat.le_of_ble_eq_true rfl) ⟨rfl, rfl⟩ (fun _ _ => ?_)
    show V C 0 0 [gMo G b (nF wh) (nF de) t (nI sv) (nI vt) (nI ps), gPast G a (fun j => am j 0) (nI 5) (nI kn), gMoT G (am 0) (P 0), gMoT G (am 1) (P 1), gMoT G (am 2) (P 2), gMoT G (am 3) (P 3), gMoT G (am 4) (P 4), gMo G (am 5) (nF wh) (nF de) t (nI sv) (nI vt) (nI ps), gMoT G (am 6) (P 6), gMoT G (am 7) (P 7), gMoT G (am 8) (P 8), gMoT G (am 9) (P 9)] 42 [some (.ref (a 0)), some (.ref (b 0)), some (.ref (am 5 0))] []
    refine V_aload_n X dX5_remember_42 rfl ?_
    refine V_aload_n X dX5_remember_43 rfl ?_
    refine V_get X fl_X5_22 1 0 rfl rfl rfl dX5_remember_44 ?_
    refine V_iconst X (nI 1) dX5_remember_47 (by decide) ?_
    refine V_iaddN X dX5_remember_48 ?_
    refine V_bipush X (nI 10) dX5_remember_49 (by decide) ?_
    refine V_iremN X dX5_remember_51 (by omega) (by omega) (by omega) ?_
    refine V_put X fl_X5_22 1 0 rfl rfl rfl rfl (Nat.le_of_ble_eq_true rfl) dX5_remember_52 ?_
    show V C 0 0 [gMo G b (nF wh) (nF de) t (nI sv) (nI vt) (nI ps), gPast G a (fun j => am j 0) (nI ((5 + 1) % 10)) (nI kn), gMoT G (am 0) (P 0), gMoT G (am 1) (P 1), gMoT G (am 2) (P 2), gMoT G (am 3) (P 3), gMoT G (am 4) (P 4), gMo G (am 5) (nF wh) (nF de) t (nI sv) (nI vt) (nI ps), gMoT G (am 6) (P 6), gMoT G (am 7) (P 7), gMoT G (am 8) (P 8), gMoT G (am 9) (P 9)] 55 [some (.ref (a 0)), some (.ref (b 0)), some (.ref (am 5 0))] []
    refine V_aload_n X dX5_remember_55 rfl ?_
    refine V_bipush X (nI 10) dX5_remember_56 (by decide) ?_
    refine V_aload_n X dX5_remember_58 rfl ?_
    refine V_get X fl_X5_18 1 0 rfl rfl rfl dX5_remember_59 ?_
    refine V_iconst X (nI 1) dX5_remember_62 (by decide) ?_
    refine V_iaddN X dX5_remember_63 ?_
    refine V_mminN X kw_2_229 dX5_remember_64 (by decide) (Nat.le_of_ble_eq_true rfl) ⟨rfl, rfl⟩ (by omega) (by omega) ?_
    refine V_put X fl_X5_18 1 0 rfl rfl rfl rfl (Nat.le_of_ble_eq_true rfl) dX5_remember_67 ?_
    show V C 0 0 [gMo G b (nF wh) (nF de) t (nI sv) (nI vt) (nI ps), gPast G a (fun j => am j 0) (nI ((5 + 1) % 10)) (nI (min 10 (kn + 1))), gMoT G (am 0) (P 0), gMoT G (am 1) (P 1), gMoT G (am 2) (P 2), gMoT G (am 3) (P 3), gMoT G (am 4) (P 4), gMo G (am 5) (nF wh) (nF de) t (nI sv) (nI vt) (nI ps), gMoT G (am 6) (P 6), gMoT G (am 7) (P 7), gMoT G (am 8) (P 8), gMoT G (am 9) (P 9)] 70 [some (.ref (a 0)), some (.ref (b 0)), some (.ref (am 5 0))] []
    exact V_vret X Y () trivial rfl rfl dX5_remember_70
set_option maxHeartbeats 4000000 in
set_option maxRecDepth 100000 in
theorem c_X5_recall_5 (l : Launch) (G : mvG) (a : Nat → Nat) (am : Nat → Nat → Nat) (P : Nat → MoT) (kn : Nat) (b : Nat → Nat) (wh : Nat → Nat) (de : Nat → Nat) (t : Nat → Int32) (sv : Nat) (vt : Nat) (ps : Nat) (hk : 1 ≤ kn ∧ kn ≤ 10) : KQ l yX5_recall cX5_recall 4 none (2, 39) G [.ref (a 0), .ref (b 0)] [gMo G b (nF wh) (nF de) t (nI sv) (nI vt) (nI ps), gPast G a (fun j => am j 0) (nI 5) (nI kn), gMoT G (am 0) (P 0), gMoT G (am 1) (P 1), gMoT G (am 2) (P 2), gMoT G (am 3) (P 3), gMoT G (am 4) (P 4), gMoT G (am 5) (P 5), gMoT G (am 6) (P 6), gMoT G (am 7) (P 7), gMoT G (am 8) (P 8), gMoT G (am 9) (P 9)] (fun (_ : Unit) => none) (fun (_ : Unit) => True) (fun (_ : Unit) => [gMoT G b (P 4), gPast G a (fun j => am j 0) (nI 4) (nI (kn - 1)), gMoT G (am 0) (P 0), gMoT G (am 1) (P 1), gMoT G (am 2) (P 2), gMoT G (am 3) (P 3), gMoT G (am 4) (P 4), gMoT G (am 5) (P 5), gMoT G (am 6) (P 6), gMoT G (am 7) (P 7), gMoT G (am 8) (P 8), gMoT G (am 9) (P 9)]) := by
  refine KQ.mk (by decide +kernel) (fun _ _ => rfl) [some (.ref (a 0)), some (.ref (b 0)), none, none] (Nat.le_of_ble_eq_true rfl) rfl (fun C X Y hC => ?_)
  subst hC
  refine V_aload_n X dX5_recall_0 rfl ?_
  refine V_get X fl_X5_22 1 0 rfl rfl rfl dX5_recall_1 ?_
  refine V_bipush X (nI 10) dX5_recall_4 (by decide) ?_
  refine V_iaddN X dX5_recall_6 ?_
  refine V_iconst X (nI 1) dX5_recall_7 (by decide) ?_
  refine V_isubN X dX5_recall_8 (by omega) ?_
  refine V_bipush X (nI 10) dX5_recall_9 (by decide) ?_
  refine V_iremN X dX5_recall_11 (by omega) (by omega) (by omega) ?_
  refine V_istore_n X dX5_recall_12 (by decide) rfl ?_
  refine V_loc (y := (nI 4)) 2 rfl rfl ?_
  refine V_iload_n X dX5_recall_13 rfl ?_
  refine V_if_ltN X dX5_recall_14 35 (by decide) (by omega) ?_
  refine V_iload_n X dX5_recall_17 rfl ?_
  refine V_aload_n X dX5_recall_18 rfl ?_
  refine V_get X fl_X5_11 1 0 rfl rfl rfl dX5_recall_19 ?_
  refine V_alen X (t0 := 3) 1 1 (nI 10) rfl rfl rfl rfl dX5_recall_22 ?_
  refine V_icmp_geN X 35 dX5_recall_23 (by decide) (by decide) (by decide) (fun c_2 => ?_) (fun c_2 => ?_)
  · exfalso; omega
  · refine V_aload_n X dX5_recall_26 rfl ?_
    refine V_get X fl_X5_11 1 0 rfl rfl rfl dX5_recall_27 ?_
    refine V_iload_n X dX5_recall_30 rfl ?_
    refine V_aaldN X (t0 := 3) 1 1 rfl rfl rfl (by decide) (by decide) dX5_recall_31 ?_
    refine V_goto X 36 dX5_recall_32 (by decide) ?_
    refine V_astore_n X dX5_recall_36 (by decide) rfl ?_
    refine V_aload_n X dX5_recall_37 rfl ?_
    refine V_ifnull X dX5_recall_38 ?_
    refine V_aload_n X dX5_recall_41 rfl ?_
    refine V_get X fl_X5_18 1 0 rfl rfl rfl dX5_recall_42 ?_
    refine V_if_leN X 68 dX5_recall_45 (by decide) (by omega) (fun c_3 => ?_) (fun c_3 => ?_)
    · exfalso; omega
    · show V C 0 0 [gMo G b (nF wh) (nF de) t (nI sv) (nI vt) (nI ps), gPast G a (fun j => am j 0) (nI 5) (nI kn), gMoT G (am 0) (P 0), gMoT G (am 1) (P 1), gMoT G (am 2) (P 2), gMoT G (am 3) (P 3), gMo G (am 4) (nF ((P 4).1)) (nF ((P 4).2.1)) ((P 4).2.2.1) (nI ((P 4).2.2.2.1)) (nI ((P 4).2.2.2.2.1)) (nI ((P 4).2.2.2.2.2)), gMoT G (am 5) (P 5), gMoT G (am 6) (P 6), gMoT G (am 7) (P 7), gMoT G (am 8) (P 8), gMoT G (am 9) (P 9)] 48 [some (.ref (a 0)), some (.ref (b 0)), some (.int (nI 4)), some (.ref (am 4 0))] []
      refine V_aload_n X dX5_recall_48 rfl ?_
      refine V_aload_n X dX5_recall_49 rfl ?_
      refine V_callV (rest := []) X (c_X3_copyFrom (Cl C) G b wh de t sv vt ps (am 4) ((P 4).1) ((P 4).2.1) ((P 4).2.2.1) ((P 4).2.2.2.1) ((P 4).2.2.2.2.1) ((P 4).2.2.2.2.2)) mi_X3_copyFrom kw_2_228 kw_2_125 kw_2_126 dX5_recall_50 [0, 6] rfl (by decide) 0 0 rfl rfl rfl rfl rfl rfl (by decide) (Nat.le_of_ble_eq_true rfl) ⟨rfl, rfl⟩ (fun _ _ => ?_)
      show V C 0 0 [gMo G b (nF ((P 4).1)) (nF ((P 4).2.1)) ((P 4).2.2.1) (nI ((P 4).2.2.2.1)) (nI ((P 4).2.2.2.2.1)) (nI ((P 4).2.2.2.2.2)), gPast G a (fun j => am j 0) (nI 5) (nI kn), gMoT G (am 0) (P 0), gMoT G (am 1) (P 1), gMoT G (am 2) (P 2), gMoT G (am 3) (P 3), gMo G (am 4) (nF ((P 4).1)) (nF ((P 4).2.1)) ((P 4).2.2.1) (nI ((P 4).2.2.2.1)) (nI ((P 4).2.2.2.2.1)) (nI ((P 4).2.2.2.2.2)), gMoT G (am 5) (P 5), gMoT G (am 6) (P 6), gMoT G (am 7) (P 7), gMoT G (am 8) (P 8), gMoT G (am 9) (P 9)] 53 [some (.ref (a 0)), some (.ref (b 0)), some (.int (nI 4)), some (.ref (am 4 0))] []
      refine V_aload_n X dX5_recall_53 rfl ?_
      refine V_iload_n X dX5_recall_54 rfl ?_
      refine V_put X fl_X5_22 1 0 rfl rfl rfl rfl (Nat.le_of_ble_eq_true rfl) dX5_recall_55 ?_
      show V C 0 0 [gMo G b (nF ((P 4).1)) (nF ((P 4).2.1)) ((P 4).2.2.1) (nI ((P 4).2.2.2.1)) (nI ((P 4).2.2.2.2.1)) (nI ((P 4).2.2.2.2.2)), gPast G a (fun j => am j 0) (nI 4) (nI kn), gMoT G (am 0) (P 0), gMoT G (am 1) (P 1), gMoT G (am 2) (P 2), gMoT G (am 3) (P 3), gMo G (am 4) (nF ((P 4).1)) (nF ((P 4).2.1)) ((P 4).2.2.1) (nI ((P 4).2.2.2.1)) (nI ((P 4).2.2.2.2.1)) (nI ((P 4).2.2.2.2.2)), gMoT G (am 5) (P 5), gMoT G (am 6) (P 6), gMoT G (am 7) (P 7), gMoT G (am 8) (P 8), gMoT G (am 9) (P 9)] 58 [some (.ref (a 0)), some (.ref (b 0)), some (.int (nI 4)), some (.ref (am 4 0))] []
      refine V_aload_n X dX5_recall_58 rfl ?_
      refine V_dup X dX5_recall_59 rfl ?_
      refine V_get X fl_X5_18 1 0 rfl rfl rfl dX5_recall_60 ?_
      refine V_iconst X (nI 1) dX5_recall_63 (by decide) ?_
      refine V_isubN X dX5_recall_64 (by omega) ?_
      refine V_put X fl_X5_18 1 0 rfl rfl rfl rfl (Nat.le_of_ble_eq_true rfl) dX5_recall_65 ?_
      show V C 0 0 [gMo G b (nF ((P 4).1)) (nF ((P 4).2.1)) ((P 4).2.2.1) (nI ((P 4).2.2.2.1)) (nI ((P 4).2.2.2.2.1)) (nI ((P 4).2.2.2.2.2)), gPast G a (fun j => am j 0) (nI 4) (nI (kn - 1)), gMoT G (am 0) (P 0), gMoT G (am 1) (P 1), gMoT G (am 2) (P 2), gMoT G (am 3) (P 3), gMo G (am 4) (nF ((P 4).1)) (nF ((P 4).2.1)) ((P 4).2.2.1) (nI ((P 4).2.2.2.1)) (nI ((P 4).2.2.2.2.1)) (nI ((P 4).2.2.2.2.2)), gMoT G (am 5) (P 5), gMoT G (am 6) (P 6), gMoT G (am 7) (P 7), gMoT G (am 8) (P 8), gMoT G (am 9) (P 9)] 68 [some (.ref (a 0)), some (.ref (b 0)), some (.int (nI 4)), some (.ref (am 4 0))] []
      exact V_vret X Y () trivial rfl rfl dX5_recall_68
set_option maxHeartbeats 4000000 in
set_option maxRecDepth 100000 in
theorem c_X5_remember_6 (l : Launch) (G : mvG) (a : Nat → Nat) (am : Nat → Nat → Nat) (P : Nat → MoT) (kn : Nat) (b : Nat → Nat) (wh : Nat → Nat) (de : Nat → Nat) (t : Nat → Int32) (sv : Nat) (vt : Nat) (ps : Nat) (hk : kn ≤ 10) : KQ l yX5_remember cX5_remember 3 none (2, 39) G [.ref (a 0), .ref (b 0)] [gMo G b (nF wh) (nF de) t (nI sv) (nI vt) (nI ps), gPast G a (fun j => am j 0) (nI 6) (nI kn), gMoT G (am 0) (P 0), gMoT G (am 1) (P 1), gMoT G (am 2) (P 2), gMoT G (am 3) (P 3), gMoT G (am 4) (P 4), gMoT G (am 5) (P 5), gMoT G (am 6) (P 6), gMoT G (am 7) (P 7), gMoT G (am 8) (P 8), gMoT G (am 9) (P 9)] (fun (_ : Unit) => none) (fun (_ : Unit) => True) (fun (_ : Unit) => [gMo G b (nF wh) (nF de) t (nI sv) (nI vt) (nI ps), gPast G a (fun j => am j 0) (nI ((6 + 1) % 10)) (nI (min 10 (kn + 1))), gMoT G (am 0) (va_up P 6 (wh, de, t, sv, vt, ps) 0), gMoT G (am 1) (va_up P 6 (wh, de, t, sv, vt, ps) 1), gMoT G (am 2) (va_up P 6 (wh, de, t, sv, vt, ps) 2), gMoT G (am 3) (va_up P 6 (wh, de, t, sv, vt, ps) 3), gMoT G (am 4) (va_up P 6 (wh, de, t, sv, vt, ps) 4), gMoT G (am 5) (va_up P 6 (wh, de, t, sv, vt, ps) 5), gMoT G (am 6) (va_up P 6 (wh, de, t, sv, vt, ps) 6), gMoT G (am 7) (va_up P 6 (wh, de, t, sv, vt, ps) 7), gMoT G (am 8) (va_up P 6 (wh, de, t, sv, vt, ps) 8), gMoT G (am 9) (va_up P 6 (wh, de, t, sv, vt, ps) 9)]) := by
  refine KQ.mk (by decide +kernel) (fun _ _ => rfl) [some (.ref (a 0)), some (.ref (b 0)), none] (Nat.le_of_ble_eq_true rfl) rfl (fun C X Y hC => ?_)
  subst hC
  refine V_aload_n X dX5_remember_0 rfl ?_
  refine V_get X fl_X5_22 1 0 rfl rfl rfl dX5_remember_1 ?_
  refine V_if_ltN X dX5_remember_4 31 (by decide) (by omega) ?_
  refine V_aload_n X dX5_remember_7 rfl ?_
  refine V_get X fl_X5_22 1 0 rfl rfl rfl dX5_remember_8 ?_
  refine V_aload_n X dX5_remember_11 rfl ?_
  refine V_get X fl_X5_11 1 0 rfl rfl rfl dX5_remember_12 ?_
  refine V_alen X (t0 := 3) 1 1 (nI 10) rfl rfl rfl rfl dX5_remember_15 ?_
  refine V_icmp_geN X 31 dX5_remember_16 (by decide) (by decide) (by decide) (fun c_2 => ?_) (fun c_2 => ?_)
  · exfalso; omega
  · refine V_aload_n X dX5_remember_19 rfl ?_
    refine V_get X fl_X5_11 1 0 rfl rfl rfl dX5_remember_20 ?_
    refine V_aload_n X dX5_remember_23 rfl ?_
    refine V_get X fl_X5_22 1 0 rfl rfl rfl dX5_remember_24 ?_
    refine V_aaldN X (t0 := 3) 1 1 rfl rfl rfl (by decide) (by decide) dX5_remember_27 ?_
    refine V_goto X 32 dX5_remember_28 (by decide) ?_
    refine V_astore_n X dX5_remember_32 (by decide) rfl ?_
    refine V_aload_n X dX5_remember_33 rfl ?_
    refine V_ifnull X dX5_remember_34 ?_
    show V C 0 0 [gMo G b (nF wh) (nF de) t (nI sv) (nI vt) (nI ps), gPast G a (fun j => am j 0) (nI 6) (nI kn), gMoT G (am 0) (P 0), gMoT G (am 1) (P 1), gMoT G (am 2) (P 2), gMoT G (am 3) (P 3), gMoT G (am 4) (P 4), gMoT G (am 5) (P 5), gMo G (am 6) (nF ((P 6).1)) (nF ((P 6).2.1)) ((P 6).2.2.1) (nI ((P 6).2.2.2.1)) (nI ((P 6).2.2.2.2.1)) (nI ((P 6).2.2.2.2.2)), gMoT G (am 7) (P 7), gMoT G (am 8) (P 8), gMoT G (am 9) (P 9)] 37 [some (.ref (a 0)), some (.ref (b 0)), some (.ref (am 6 0))] []
    refine V_aload_n X dX5_remember_37 rfl ?_
    refine V_aload_n X dX5_remember_38 rfl ?_
    refine V_callV (rest := []) X (c_X3_copyFrom (Cl C) G (am 6) ((P 6).1) ((P 6).2.1) ((P 6).2.2.1) ((P 6).2.2.2.1) ((P 6).2.2.2.2.1) ((P 6).2.2.2.2.2) b wh de t sv vt ps) mi_X3_copyFrom kw_2_228 kw_2_125 kw_2_126 dX5_remember_39 [8, 0] rfl (by decide) 8 0 rfl rfl rfl rfl rfl rfl (by decide) (Nat.le_of_ble_eq_true rfl) ⟨rfl, rfl⟩ (fun _ _ => ?_)
    show V C 0 0 [gMo G b (nF wh) (nF de) t (nI sv) (nI vt) (nI ps), gPast G a (fun j => am j 0) (nI 6) (nI kn), gMoT G (am 0) (P 0), gMoT G (am 1) (P 1), gMoT G (am 2) (P 2), gMoT G (am 3) (P 3), gMoT G (am 4) (P 4), gMoT G (am 5) (P 5), gMo G (am 6) (nF wh) (nF de) t (nI sv) (nI vt) (nI ps), gMoT G (am 7) (P 7), gMoT G (am 8) (P 8), gMoT G (am 9) (P 9)] 42 [some (.ref (a 0)), some (.ref (b 0)), some (.ref (am 6 0))] []
    refine V_aload_n X dX5_remember_42 rfl ?_
    refine V_aload_n X dX5_remember_43 rfl ?_
    refine V_get X fl_X5_22 1 0 rfl rfl rfl dX5_remember_44 ?_
    refine V_iconst X (nI 1) dX5_remember_47 (by decide) ?_
    refine V_iaddN X dX5_remember_48 ?_
    refine V_bipush X (nI 10) dX5_remember_49 (by decide) ?_
    refine V_iremN X dX5_remember_51 (by omega) (by omega) (by omega) ?_
    refine V_put X fl_X5_22 1 0 rfl rfl rfl rfl (Nat.le_of_ble_eq_true rfl) dX5_remember_52 ?_
    show V C 0 0 [gMo G b (nF wh) (nF de) t (nI sv) (nI vt) (nI ps), gPast G a (fun j => am j 0) (nI ((6 + 1) % 10)) (nI kn), gMoT G (am 0) (P 0), gMoT G (am 1) (P 1), gMoT G (am 2) (P 2), gMoT G (am 3) (P 3), gMoT G (am 4) (P 4), gMoT G (am 5) (P 5), gMo G (am 6) (nF wh) (nF de) t (nI sv) (nI vt) (nI ps), gMoT G (am 7) (P 7), gMoT G (am 8) (P 8), gMoT G (am 9) (P 9)] 55 [some (.ref (a 0)), some (.ref (b 0)), some (.ref (am 6 0))] []
    refine V_aload_n X dX5_remember_55 rfl ?_
    refine V_bipush X (nI 10) dX5_remember_56 (by decide) ?_
    refine V_aload_n X dX5_remember_58 rfl ?_
    refine V_get X fl_X5_18 1 0 rfl rfl rfl dX5_remember_59 ?_
    refine V_iconst X (nI 1) dX5_remember_62 (by decide) ?_
    refine V_iaddN X dX5_remember_63 ?_
    refine V_mminN X kw_2_229 dX5_remember_64 (by decide) (Nat.le_of_ble_eq_true rfl) ⟨rfl, rfl⟩ (by omega) (by omega) ?_
    refine V_put X fl_X5_18 1 0 rfl rfl rfl rfl (Nat.le_of_ble_eq_true rfl) dX5_remember_67 ?_
    show V C 0 0 [gMo G b (nF wh) (nF de) t (nI sv) (nI vt) (nI ps), gPast G a (fun j => am j 0) (nI ((6 + 1) % 10)) (nI (min 10 (kn + 1))), gMoT G (am 0) (P 0), gMoT G (am 1) (P 1), gMoT G (am 2) (P 2), gMoT G (am 3) (P 3), gMoT G (am 4) (P 4), gMoT G (am 5) (P 5), gMo G (am 6) (nF wh) (nF de) t (nI sv) (nI vt) (nI ps), gMoT G (am 7) (P 7), gMoT G (am 8) (P 8), gMoT G (am 9) (P 9)] 70 [some (.ref (a 0)), some (.ref (b 0)), some (.ref (am 6 0))] []
    exact V_vret X Y () trivial rfl rfl dX5_remember_70
set_option maxHeartbeats 4000000 in
set_option maxRecDepth 100000 in
theorem c_X5_recall_6 (l : Launch) (G : mvG) (a : Nat → Nat) (am : Nat → Nat → Nat) (P : Nat → MoT) (kn : Nat) (b : Nat → Nat) (wh : Nat → Nat) (de : Nat → Nat) (t : Nat → Int32) (sv : Nat) (vt : Nat) (ps : Nat) (hk : 1 ≤ kn ∧ kn ≤ 10) : KQ l yX5_recall cX5_recall 4 none (2, 39) G [.ref (a 0), .ref (b 0)] [gMo G b (nF wh) (nF de) t (nI sv) (nI vt) (nI ps), gPast G a (fun j => am j 0) (nI 6) (nI kn), gMoT G (am 0) (P 0), gMoT G (am 1) (P 1), gMoT G (am 2) (P 2), gMoT G (am 3) (P 3), gMoT G (am 4) (P 4), gMoT G (am 5) (P 5), gMoT G (am 6) (P 6), gMoT G (am 7) (P 7), gMoT G (am 8) (P 8), gMoT G (am 9) (P 9)] (fun (_ : Unit) => none) (fun (_ : Unit) => True) (fun (_ : Unit) => [gMoT G b (P 5), gPast G a (fun j => am j 0) (nI 5) (nI (kn - 1)), gMoT G (am 0) (P 0), gMoT G (am 1) (P 1), gMoT G (am 2) (P 2), gMoT G (am 3) (P 3), gMoT G (am 4) (P 4), gMoT G (am 5) (P 5), gMoT G (am 6) (P 6), gMoT G (am 7) (P 7), gMoT G (am 8) (P 8), gMoT G (am 9) (P 9)]) := by
  refine KQ.mk (by decide +kernel) (fun _ _ => rfl) [some (.ref (a 0)), some (.ref (b 0)), none, none] (Nat.le_of_ble_eq_true rfl) rfl (fun C X Y hC => ?_)
  subst hC
  refine V_aload_n X dX5_recall_0 rfl ?_
  refine V_get X fl_X5_22 1 0 rfl rfl rfl dX5_recall_1 ?_
  refine V_bipush X (nI 10) dX5_recall_4 (by decide) ?_
  refine V_iaddN X dX5_recall_6 ?_
  refine V_iconst X (nI 1) dX5_recall_7 (by decide) ?_
  refine V_isubN X dX5_recall_8 (by omega) ?_
  refine V_bipush X (nI 10) dX5_recall_9 (by decide) ?_
  refine V_iremN X dX5_recall_11 (by omega) (by omega) (by omega) ?_
  refine V_istore_n X dX5_recall_12 (by decide) rfl ?_
  refine V_loc (y := (nI 5)) 2 rfl rfl ?_
  refine V_iload_n X dX5_recall_13 rfl ?_
  refine V_if_ltN X dX5_recall_14 35 (by decide) (by omega) ?_
  refine V_iload_n X dX5_recall_17 rfl ?_
  refine V_aload_n X dX5_recall_18 rfl ?_
  refine V_get X fl_X5_11 1 0 rfl rfl rfl dX5_recall_19 ?_
  refine V_alen X (t0 := 3) 1 1 (nI 10) rfl rfl rfl rfl dX5_recall_22 ?_
  refine V_icmp_geN X 35 dX5_recall_23 (by decide) (by decide) (by decide) (fun c_2 => ?_) (fun c_2 => ?_)
  · exfalso; omega
  · refine V_aload_n X dX5_recall_26 rfl ?_
    refine V_get X fl_X5_11 1 0 rfl rfl rfl dX5_recall_27 ?_
    refine V_iload_n X dX5_recall_30 rfl ?_
    refine V_aaldN X (t0 := 3) 1 1 rfl rfl rfl (by decide) (by decide) dX5_recall_31 ?_
    refine V_goto X 36 dX5_recall_32 (by decide) ?_
    refine V_astore_n X dX5_recall_36 (by decide) rfl ?_
    refine V_aload_n X dX5_recall_37 rfl ?_
    refine V_ifnull X dX5_recall_38 ?_
    refine V_aload_n X dX5_recall_41 rfl ?_
    refine V_get X fl_X5_18 1 0 rfl rfl rfl dX5_recall_42 ?_
    refine V_if_leN X 68 dX5_recall_45 (by decide) (by omega) (fun c_3 => ?_) (fun c_3 => ?_)
    · exfalso; omega
    · show V C 0 0 [gMo G b (nF wh) (nF de) t (nI sv) (nI vt) (nI ps), gPast G a (fun j => am j 0) (nI 6) (nI kn), gMoT G (am 0) (P 0), gMoT G (am 1) (P 1), gMoT G (am 2) (P 2), gMoT G (am 3) (P 3), gMoT G (am 4) (P 4), gMo G (am 5) (nF ((P 5).1)) (nF ((P 5).2.1)) ((P 5).2.2.1) (nI ((P 5).2.2.2.1)) (nI ((P 5).2.2.2.2.1)) (nI ((P 5).2.2.2.2.2)), gMoT G (am 6) (P 6), gMoT G (am 7) (P 7), gMoT G (am 8) (P 8), gMoT G (am 9) (P 9)] 48 [some (.ref (a 0)), some (.ref (b 0)), some (.int (nI 5)), some (.ref (am 5 0))] []
      refine V_aload_n X dX5_recall_48 rfl ?_
      refine V_aload_n X dX5_recall_49 rfl ?_
      refine V_callV (rest := []) X (c_X3_copyFrom (Cl C) G b wh de t sv vt ps (am 5) ((P 5).1) ((P 5).2.1) ((P 5).2.2.1) ((P 5).2.2.2.1) ((P 5).2.2.2.2.1) ((P 5).2.2.2.2.2)) mi_X3_copyFrom kw_2_228 kw_2_125 kw_2_126 dX5_recall_50 [0, 7] rfl (by decide) 0 0 rfl rfl rfl rfl rfl rfl (by decide) (Nat.le_of_ble_eq_true rfl) ⟨rfl, rfl⟩ (fun _ _ => ?_)
      show V C 0 0 [gMo G b (nF ((P 5).1)) (nF ((P 5).2.1)) ((P 5).2.2.1) (nI ((P 5).2.2.2.1)) (nI ((P 5).2.2.2.2.1)) (nI ((P 5).2.2.2.2.2)), gPast G a (fun j => am j 0) (nI 6) (nI kn), gMoT G (am 0) (P 0), gMoT G (am 1) (P 1), gMoT G (am 2) (P 2), gMoT G (am 3) (P 3), gMoT G (am 4) (P 4), gMo G (am 5) (nF ((P 5).1)) (nF ((P 5).2.1)) ((P 5).2.2.1) (nI ((P 5).2.2.2.1)) (nI ((P 5).2.2.2.2.1)) (nI ((P 5).2.2.2.2.2)), gMoT G (am 6) (P 6), gMoT G (am 7) (P 7), gMoT G (am 8) (P 8), gMoT G (am 9) (P 9)] 53 [some (.ref (a 0)), some (.ref (b 0)), some (.int (nI 5)), some (.ref (am 5 0))] []
      refine V_aload_n X dX5_recall_53 rfl ?_
      refine V_iload_n X dX5_recall_54 rfl ?_
      refine V_put X fl_X5_22 1 0 rfl rfl rfl rfl (Nat.le_of_ble_eq_true rfl) dX5_recall_55 ?_
      show V C 0 0 [gMo G b (nF ((P 5).1)) (nF ((P 5).2.1)) ((P 5).2.2.1) (nI ((P 5).2.2.2.1)) (nI ((P 5).2.2.2.2.1)) (nI ((P 5).2.2.2.2.2)), gPast G a (fun j => am j 0) (nI 5) (nI kn), gMoT G (am 0) (P 0), gMoT G (am 1) (P 1), gMoT G (am 2) (P 2), gMoT G (am 3) (P 3), gMoT G (am 4) (P 4), gMo G (am 5) (nF ((P 5).1)) (nF ((P 5).2.1)) ((P 5).2.2.1) (nI ((P 5).2.2.2.1)) (nI ((P 5).2.2.2.2.1)) (nI ((P 5).2.2.2.2.2)), gMoT G (am 6) (P 6), gMoT G (am 7) (P 7), gMoT G (am 8) (P 8), gMoT G (am 9) (P 9)] 58 [some (.ref (a 0)), some (.ref (b 0)), some (.int (nI 5)), some (.ref (am 5 0))] []
      refine V_aload_n X dX5_recall_58 rfl ?_
      refine V_dup X dX5_recall_59 rfl ?_
      refine V_get X fl_X5_18 1 0 rfl rfl rfl dX5_recall_60 ?_
      refine V_iconst X (nI 1) dX5_recall_63 (by decide) ?_
      refine V_isubN X dX5_recall_64 (by omega) ?_
      refine V_put X fl_X5_18 1 0 rfl rfl rfl rfl (Nat.le_of_ble_eq_true rfl) dX5_recall_65 ?_
      show V C 0 0 [gMo G b (nF ((P 5).1)) (nF ((P 5).2.1)) ((P 5).2.2.1) (nI ((P 5).2.2.2.1)) (nI ((P 5).2.2.2.2.1)) (nI ((P 5).2.2.2.2.2)), gPast G a (fun j => am j 0) (nI 5) (nI (kn - 1)), gMoT G (am 0) (P 0), gMoT G (am 1) (P 1), gMoT G (am 2) (P 2), gMoT G (am 3) (P 3), gMoT G (am 4) (P 4), gMo G (am 5) (nF ((P 5).1)) (nF ((P 5).2.1)) ((P 5).2.2.1) (nI ((P 5).2.2.2.1)) (nI ((P 5).2.2.2.2.1)) (nI ((P 5).2.2.2.2.2)), gMoT G (am 6) (P 6), gMoT G (am 7) (P 7), gMoT G (am 8) (P 8), gMoT G (am 9) (P 9)] 68 [some (.ref (a 0)), some (.ref (b 0)), some (.int (nI 5)), some (.ref (am 5 0))] []
      exact V_vret X Y () trivial rfl rfl dX5_recall_68
set_option maxHeartbeats 4000000 in
set_option maxRecDepth 100000 in
theorem c_X5_remember_7 (l : Launch) (G : mvG) (a : Nat → Nat) (am : Nat → Nat → Nat) (P : Nat → MoT) (kn : Nat) (b : Nat → Nat) (wh : Nat → Nat) (de : Nat → Nat) (t : Nat → Int32) (sv : Nat) (vt : Nat) (ps : Nat) (hk : kn ≤ 10) : KQ l yX5_remember cX5_remember 3 none (2, 39) G [.ref (a 0), .ref (b 0)] [gMo G b (nF wh) (nF de) t (nI sv) (nI vt) (nI ps), gPast G a (fun j => am j 0) (nI 7) (nI kn), gMoT G (am 0) (P 0), gMoT G (am 1) (P 1), gMoT G (am 2) (P 2), gMoT G (am 3) (P 3), gMoT G (am 4) (P 4), gMoT G (am 5) (P 5), gMoT G (am 6) (P 6), gMoT G (am 7) (P 7), gMoT G (am 8) (P 8), gMoT G (am 9) (P 9)] (fun (_ : Unit) => none) (fun (_ : Unit) => True) (fun (_ : Unit) => [gMo G b (nF wh) (nF de) t (nI sv) (nI vt) (nI ps), gPast G a (fun j => am j 0) (nI ((7 + 1) % 10)) (nI (min 10 (kn + 1))), gMoT G (am 0) (va_up P 7 (wh, de, t, sv, vt, ps) 0), gMoT G (am 1) (va_up P 7 (wh, de, t, sv, vt, ps) 1), gMoT G (am 2) (va_up P 7 (wh, de, t, sv, vt, ps) 2), gMoT G (am 3) (va_up P 7 (wh, de, t, sv, vt, ps) 3), gMoT G (am 4) (va_up P 7 (wh, de, t, sv, vt, ps) 4), gMoT G (am 5) (va_up P 7 (wh, de, t, sv, vt, ps) 5), gMoT G (am 6) (va_up P 7 (wh, de, t, sv, vt, ps) 6), gMoT G (am 7) (va_up P 7 (wh, de, t, sv, vt, ps) 7), gMoT G (am 8) (va_up P 7 (wh, de, t, sv, vt, ps) 8), gMoT G (am 9) (va_up P 7 (wh, de, t, sv, vt, ps) 9)]) := by
  refine KQ.mk (by decide +kernel) (fun _ _ => rfl) [some (.ref (a 0)), some (.ref (b 0)), none] (Nat.le_of_ble_eq_true rfl) rfl (fun C X Y hC => ?_)
  subst hC
  refine V_aload_n X dX5_remember_0 rfl ?_
  refine V_get X fl_X5_22 1 0 rfl rfl rfl dX5_remember_1 ?_
  refine V_if_ltN X dX5_remember_4 31 (by decide) (by omega) ?_
  refine V_aload_n X dX5_remember_7 rfl ?_
  refine V_get X fl_X5_22 1 0 rfl rfl rfl dX5_remember_8 ?_
  refine V_aload_n X dX5_remember_11 rfl ?_
  refine V_get X fl_X5_11 1 0 rfl rfl rfl dX5_remember_12 ?_
  refine V_alen X (t0 := 3) 1 1 (nI 10) rfl rfl rfl rfl dX5_remember_15 ?_
  refine V_icmp_geN X 31 dX5_remember_16 (by decide) (by decide) (by decide) (fun c_2 => ?_) (fun c_2 => ?_)
  · exfalso; omega
  · refine V_aload_n X dX5_remember_19 rfl ?_
    refine V_get X fl_X5_11 1 0 rfl rfl rfl dX5_remember_20 ?_
    refine V_aload_n X dX5_remember_23 rfl ?_
    refine V_get X fl_X5_22 1 0 rfl rfl rfl dX5_remember_24 ?_
    refine V_aaldN X (t0 := 3) 1 1 rfl rfl rfl (by decide) (by decide) dX5_remember_27 ?_
    refine V_goto X 32 dX5_remember_28 (by decide) ?_
    refine V_astore_n X dX5_remember_32 (by decide) rfl ?_
    refine V_aload_n X dX5_remember_33 rfl ?_
    refine V_ifnull X dX5_remember_34 ?_
    show V C 0 0 [gMo G b (nF wh) (nF de) t (nI sv) (nI vt) (nI ps), gPast G a (fun j => am j 0) (nI 7) (nI kn), gMoT G (am 0) (P 0), gMoT G (am 1) (P 1), gMoT G (am 2) (P 2), gMoT G (am 3) (P 3), gMoT G (am 4) (P 4), gMoT G (am 5) (P 5), gMoT G (am 6) (P 6), gMo G (am 7) (nF ((P 7).1)) (nF ((P 7).2.1)) ((P 7).2.2.1) (nI ((P 7).2.2.2.1)) (nI ((P 7).2.2.2.2.1)) (nI ((P 7).2.2.2.2.2)), gMoT G (am 8) (P 8), gMoT G (am 9) (P 9)] 37 [some (.ref (a 0)), some (.ref (b 0)), some (.ref (am 7 0))] []
    refine V_aload_n X dX5_remember_37 rfl ?_
    refine V_aload_n X dX5_remember_38 rfl ?_
    refine V_callV (rest := []) X (c_X3_copyFrom (Cl C) G (am 7) ((P 7).1) ((P 7).2.1) ((P 7).2.2.1) ((P 7).2.2.2.1) ((P 7).2.2.2.2.1) ((P 7).2.2.2.2.2) b wh de t sv vt ps) mi_X3_copyFrom kw_2_228 kw_2_125 kw_2_126 dX5_remember_39 [9, 0] rfl (by decide) 9 0 rfl rfl rfl rfl rfl rfl (by decide) (Nat.le_of_ble_eq_true rfl) ⟨rfl, rfl⟩ (fun _ _ => ?_)
    show V C 0 0 [gMo G b (nF wh) (nF de) t (nI sv) (nI vt) (nI ps), gPast G a (fun j => am j 0) (nI 7) (nI kn), gMoT G (am 0) (P 0), gMoT G (am 1) (P 1), gMoT G (am 2) (P 2), gMoT G (am 3) (P 3), gMoT G (am 4) (P 4), gMoT G (am 5) (P 5), gMoT G (am 6) (P 6), gMo G (am 7) (nF wh) (nF de) t (nI sv) (nI vt) (nI ps), gMoT G (am 8) (P 8), gMoT G (am 9) (P 9)] 42 [some (.ref (a 0)), some (.ref (b 0)), some (.ref (am 7 0))] []
    refine V_aload_n X dX5_remember_42 rfl ?_
    refine V_aload_n X dX5_remember_43 rfl ?_
    refine V_get X fl_X5_22 1 0 rfl rfl rfl dX5_remember_44 ?_
    refine V_iconst X (nI 1) dX5_remember_47 (by decide) ?_
    refine V_iaddN X dX5_remember_48 ?_
    refine V_bipush X (nI 10) dX5_remember_49 (by decide) ?_
    refine V_iremN X dX5_remember_51 (by omega) (by omega) (by omega) ?_
    refine V_put X fl_X5_22 1 0 rfl rfl rfl rfl (Nat.le_of_ble_eq_true rfl) dX5_remember_52 ?_
    show V C 0 0 [gMo G b (nF wh) (nF de) t (nI sv) (nI vt) (nI ps), gPast G a (fun j => am j 0) (nI ((7 + 1) % 10)) (nI kn), gMoT G (am 0) (P 0), gMoT G (am 1) (P 1), gMoT G (am 2) (P 2), gMoT G (am 3) (P 3), gMoT G (am 4) (P 4), gMoT G (am 5) (P 5), gMoT G (am 6) (P 6), gMo G (am 7) (nF wh) (nF de) t (nI sv) (nI vt) (nI ps), gMoT G (am 8) (P 8), gMoT G (am 9) (P 9)] 55 [some (.ref (a 0)), some (.ref (b 0)), some (.ref (am 7 0))] []
    refine V_aload_n X dX5_remember_55 rfl ?_
    refine V_bipush X (nI 10) dX5_remember_56 (by decide) ?_
    refine V_aload_n X dX5_remember_58 rfl ?_
    refine V_get X fl_X5_18 1 0 rfl rfl rfl dX5_remember_59 ?_
    refine V_iconst X (nI 1) dX5_remember_62 (by decide) ?_
    refine V_iaddN X dX5_remember_63 ?_
    refine V_mminN X kw_2_229 dX5_remember_64 (by decide) (Nat.le_of_ble_eq_true rfl) ⟨rfl, rfl⟩ (by omega) (by omega) ?_
    refine V_put X fl_X5_18 1 0 rfl rfl rfl rfl (Nat.le_of_ble_eq_true rfl) dX5_remember_67 ?_
    show V C 0 0 [gMo G b (nF wh) (nF de) t (nI sv) (nI vt) (nI ps), gPast G a (fun j => am j 0) (nI ((7 + 1) % 10)) (nI (min 10 (kn + 1))), gMoT G (am 0) (P 0), gMoT G (am 1) (P 1), gMoT G (am 2) (P 2), gMoT G (am 3) (P 3), gMoT G (am 4) (P 4), gMoT G (am 5) (P 5), gMoT G (am 6) (P 6), gMo G (am 7) (nF wh) (nF de) t (nI sv) (nI vt) (nI ps), gMoT G (am 8) (P 8), gMoT G (am 9) (P 9)] 70 [some (.ref (a 0)), some (.ref (b 0)), some (.ref (am 7 0))] []
    exact V_vret X Y () trivial rfl rfl dX5_remember_70
set_option maxHeartbeats 4000000 in
set_option maxRecDepth 100000 in
theorem c_X5_recall_7 (l : Launch) (G : mvG) (a : Nat → Nat) (am : Nat → Nat → Nat) (P : Nat → MoT) (kn : Nat) (b : Nat → Nat) (wh : Nat → Nat) (de : Nat → Nat) (t : Nat → Int32) (sv : Nat) (vt : Nat) (ps : Nat) (hk : 1 ≤ kn ∧ kn ≤ 10) : KQ l yX5_recall cX5_recall 4 none (2, 39) G [.ref (a 0), .ref (b 0)] [gMo G b (nF wh) (nF de) t (nI sv) (nI vt) (nI ps), gPast G a (fun j => am j 0) (nI 7) (nI kn), gMoT G (am 0) (P 0), gMoT G (am 1) (P 1), gMoT G (am 2) (P 2), gMoT G (am 3) (P 3), gMoT G (am 4) (P 4), gMoT G (am 5) (P 5), gMoT G (am 6) (P 6), gMoT G (am 7) (P 7), gMoT G (am 8) (P 8), gMoT G (am 9) (P 9)] (fun (_ : Unit) => none) (fun (_ : Unit) => True) (fun (_ : Unit) => [gMoT G b (P 6), gPast G a (fun j => am j 0) (nI 6) (nI (kn - 1)), gMoT G (am 0) (P 0), gMoT G (am 1) (P 1), gMoT G (am 2) (P 2), gMoT G (am 3) (P 3), gMoT G (am 4) (P 4), gMoT G (am 5) (P 5), gMoT G (am 6) (P 6), gMoT G (am 7) (P 7), gMoT G (am 8) (P 8), gMoT G (am 9) (P 9)]) := by
  refine KQ.mk (by decide +kernel) (fun _ _ => rfl) [some (.ref (a 0)), some (.ref (b 0)), none, none] (Nat.le_of_ble_eq_true rfl) rfl (fun C X Y hC => ?_)
  subst hC
  refine V_aload_n X dX5_recall_0 rfl ?_
  refine V_get X fl_X5_22 1 0 rfl rfl rfl dX5_recall_1 ?_
  refine V_bipush X (nI 10) dX5_recall_4 (by decide) ?_
  refine V_iaddN X dX5_recall_6 ?_
  refine V_iconst X (nI 1) dX5_recall_7 (by decide) ?_
  refine V_isubN X dX5_recall_8 (by omega) ?_
  refine V_bipush X (nI 10) dX5_recall_9 (by decide) ?_
  refine V_iremN X dX5_recall_11 (by omega) (by omega) (by omega) ?_
  refine V_istore_n X dX5_recall_12 (by decide) rfl ?_
  refine V_loc (y := (nI 6)) 2 rfl rfl ?_
  refine V_iload_n X dX5_recall_13 rfl ?_
  refine V_if_ltN X dX5_recall_14 35 (by decide) (by omega) ?_
  refine V_iload_n X dX5_recall_17 rfl ?_
  refine V_aload_n X dX5_recall_18 rfl ?_
  refine V_get X fl_X5_11 1 0 rfl rfl rfl dX5_recall_19 ?_
  refine V_alen X (t0 := 3) 1 1 (nI 10) rfl rfl rfl rfl dX5_recall_22 ?_
  refine V_icmp_geN X 35 dX5_recall_23 (by decide) (by decide) (by decide) (fun c_2 => ?_) (fun c_2 => ?_)
  · exfalso; omega
  · refine V_aload_n X dX5_recall_26 rfl ?_
    refine V_get X fl_X5_11 1 0 rfl rfl rfl dX5_recall_27 ?_
    refine V_iload_n X dX5_recall_30 rfl ?_
    refine V_aaldN X (t0 := 3) 1 1 rfl rfl rfl (by decide) (by decide) dX5_recall_31 ?_
    refine V_goto X 36 dX5_recall_32 (by decide) ?_
    refine V_astore_n X dX5_recall_36 (by decide) rfl ?_
    refine V_aload_n X dX5_recall_37 rfl ?_
    refine V_ifnull X dX5_recall_38 ?_
    refine V_aload_n X dX5_recall_41 rfl ?_
    refine V_get X fl_X5_18 1 0 rfl rfl rfl dX5_recall_42 ?_
    refine V_if_leN X 68 dX5_recall_45 (by decide) (by omega) (fun c_3 => ?_) (fun c_3 => ?_)
    · exfalso; omega
    · show V C 0 0 [gMo G b (nF wh) (nF de) t (nI sv) (nI vt) (nI ps), gPast G a (fun j => am j 0) (nI 7) (nI kn), gMoT G (am 0) (P 0), gMoT G (am 1) (P 1), gMoT G (am 2) (P 2), gMoT G (am 3) (P 3), gMoT G (am 4) (P 4), gMoT G (am 5) (P 5), gMo G (am 6) (nF ((P 6).1)) (nF ((P 6).2.1)) ((P 6).2.2.1) (nI ((P 6).2.2.2.1)) (nI ((P 6).2.2.2.2.1)) (nI ((P 6).2.2.2.2.2)), gMoT G (am 7) (P 7), gMoT G (am 8) (P 8), gMoT G (am 9) (P 9)] 48 [some (.ref (a 0)), some (.ref (b 0)), some (.int (nI 6)), some (.ref (am 6 0))] []
      refine V_aload_n X dX5_recall_48 rfl ?_
      refine V_aload_n X dX5_recall_49 rfl ?_
      refine V_callV (rest := []) X (c_X3_copyFrom (Cl C) G b wh de t sv vt ps (am 6) ((P 6).1) ((P 6).2.1) ((P 6).2.2.1) ((P 6).2.2.2.1) ((P 6).2.2.2.2.1) ((P 6).2.2.2.2.2)) mi_X3_copyFrom kw_2_228 kw_2_125 kw_2_126 dX5_recall_50 [0, 8] rfl (by decide) 0 0 rfl rfl rfl rfl rfl rfl (by decide) (Nat.le_of_ble_eq_true rfl) ⟨rfl, rfl⟩ (fun _ _ => ?_)
      show V C 0 0 [gMo G b (nF ((P 6).1)) (nF ((P 6).2.1)) ((P 6).2.2.1) (nI ((P 6).2.2.2.1)) (nI ((P 6).2.2.2.2.1)) (nI ((P 6).2.2.2.2.2)), gPast G a (fun j => am j 0) (nI 7) (nI kn), gMoT G (am 0) (P 0), gMoT G (am 1) (P 1), gMoT G (am 2) (P 2), gMoT G (am 3) (P 3), gMoT G (am 4) (P 4), gMoT G (am 5) (P 5), gMo G (am 6) (nF ((P 6).1)) (nF ((P 6).2.1)) ((P 6).2.2.1) (nI ((P 6).2.2.2.1)) (nI ((P 6).2.2.2.2.1)) (nI ((P 6).2.2.2.2.2)), gMoT G (am 7) (P 7), gMoT G (am 8) (P 8), gMoT G (am 9) (P 9)] 53 [some (.ref (a 0)), some (.ref (b 0)), some (.int (nI 6)), some (.ref (am 6 0))] []
      refine V_aload_n X dX5_recall_53 rfl ?_
      refine V_iload_n X dX5_recall_54 rfl ?_
      refine V_put X fl_X5_22 1 0 rfl rfl rfl rfl (Nat.le_of_ble_eq_true rfl) dX5_recall_55 ?_
      show V C 0 0 [gMo G b (nF ((P 6).1)) (nF ((P 6).2.1)) ((P 6).2.2.1) (nI ((P 6).2.2.2.1)) (nI ((P 6).2.2.2.2.1)) (nI ((P 6).2.2.2.2.2)), gPast G a (fun j => am j 0) (nI 6) (nI kn), gMoT G (am 0) (P 0), gMoT G (am 1) (P 1), gMoT G (am 2) (P 2), gMoT G (am 3) (P 3), gMoT G (am 4) (P 4), gMoT G (am 5) (P 5), gMo G (am 6) (nF ((P 6).1)) (nF ((P 6).2.1)) ((P 6).2.2.1) (nI ((P 6).2.2.2.1)) (nI ((P 6).2.2.2.2.1)) (nI ((P 6).2.2.2.2.2)), gMoT G (am 7) (P 7), gMoT G (am 8) (P 8), gMoT G (am 9) (P 9)] 58 [some (.ref (a 0)), some (.ref (b 0)), some (.int (nI 6)), some (.ref (am 6 0))] []
      refine V_aload_n X dX5_recall_58 rfl ?_
      refine V_dup X dX5_recall_59 rfl ?_
      refine V_get X fl_X5_18 1 0 rfl rfl rfl dX5_recall_60 ?_
      refine V_iconst X (nI 1) dX5_recall_63 (by decide) ?_
      refine V_isubN X dX5_recall_64 (by omega) ?_
      refine V_put X fl_X5_18 1 0 rfl rfl rfl rfl (Nat.le_of_ble_eq_true rfl) dX5_recall_65 ?_
      show V C 0 0 [gMo G b (nF ((P 6).1)) (nF ((P 6).2.1)) ((P 6).2.2.1) (nI ((P 6).2.2.2.1)) (nI ((P 6).2.2.2.2.1)) (nI ((P 6).2.2.2.2.2)), gPast G a (fun j => am j 0) (nI 6) (nI (kn - 1)), gMoT G (am 0) (P 0), gMoT G (am 1) (P 1), gMoT G (am 2) (P 2), gMoT G (am 3) (P 3), gMoT G (am 4) (P 4), gMoT G (am 5) (P 5), gMo G (am 6) (nF ((P 6).1)) (nF ((P 6).2.1)) ((P 6).2.2.1) (nI ((P 6).2.2.2.1)) (nI ((P 6).2.2.2.2.1)) (nI ((P 6).2.2.2.2.2)), gMoT G (am 7) (P 7), gMoT G (am 8) (P 8), gMoT G (am 9) (P 9)] 68 [some (.ref (a 0)), some (.ref (b 0)), some (.int (nI 6)), some (.ref (am 6 0))] []
      exact V_vret X Y () trivial rfl rfl dX5_recall_68
set_option maxHeartbeats 4000000 in
set_option maxRecDepth 100000 in
theorem c_X5_remember_8 (l : Launch) (G : mvG) (a : Nat → Nat) (am : Nat → Nat → Nat) (P : Nat → MoT) (kn : Nat) (b : Nat → Nat) (wh : Nat → Nat) (de : Nat → Nat) (t : Nat → Int32) (sv : Nat) (vt : Nat) (ps : Nat) (hk : kn ≤ 10) : KQ l yX5_remember cX5_remember 3 none (2, 39) G [.ref (a 0), .ref (b 0)] [gMo G b (nF wh) (nF de) t (nI sv) (nI vt) (nI ps), gPast G a (fun j => am j 0) (nI 8) (nI kn), gMoT G (am 0) (P 0), gMoT G (am 1) (P 1), gMoT G (am 2) (P 2), gMoT G (am 3) (P 3), gMoT G (am 4) (P 4), gMoT G (am 5) (P 5), gMoT G (am 6) (P 6), gMoT G (am 7) (P 7), gMoT G (am 8) (P 8), gMoT G (am 9) (P 9)] (fun (_ : Unit) => none) (fun (_ : Unit) => True) (fun (_ : Unit) => [gMo G b (nF wh) (nF de) t (nI sv) (nI vt) (nI ps), gPast G a (fun j => am j 0) (nI ((8 + 1) % 10)) (nI (min 10 (kn + 1))), gMoT G (am 0) (va_up P 8 (wh, de, t, sv, vt, ps) 0), gMoT G (am 1) (va_up P 8 (wh, de, t, sv, vt, ps) 1), gMoT G (am 2) (va_up P 8 (wh, de, t, sv, vt, ps) 2), gMoT G (am 3) (va_up P 8 (wh, de, t, sv, vt, ps) 3), gMoT G (am 4) (va_up P 8 (wh, de, t, sv, vt, ps) 4), gMoT G (am 5) (va_up P 8 (wh, de, t, sv, vt, ps) 5), gMoT G (am 6) (va_up P 8 (wh, de, t, sv, vt, ps) 6), gMoT G (am 7) (va_up P 8 (wh, de, t, sv, vt, ps) 7), gMoT G (am 8) (va_up P 8 (wh, de, t, sv, vt, ps) 8), gMoT G (am 9) (va_up P 8 (wh, de, t, sv, vt, ps) 9)]) := by
  refine KQ.mk (by decide +kernel) (fun _ _ => rfl) [some (.ref (a 0)), some (.ref (b 0)), none] (Nat.le_of_ble_eq_true rfl) rfl (fun C X Y hC => ?_)
  subst hC
  refine V_aload_n X dX5_remember_0 rfl ?_
  refine V_get X fl_X5_22 1 0 rfl rfl rfl dX5_remember_1 ?_
  refine V_if_ltN X dX5_remember_4 31 (by decide) (by omega) ?_
  refine V_aload_n X dX5_remember_7 rfl ?_
  refine V_get X fl_X5_22 1 0 rfl rfl rfl dX5_remember_8 ?_
  refine V_aload_n X dX5_remember_11 rfl ?_
  refine V_get X fl_X5_11 1 0 rfl rfl rfl dX5_remember_12 ?_
  refine V_alen X (t0 := 3) 1 1 (nI 10) rfl rfl rfl rfl dX5_remember_15 ?_
  refine V_icmp_geN X 31 dX5_remember_16 (by decide) (by decide) (by decide) (fun c_2 => ?_) (fun c_2 => ?_)
  · exfalso; omega
  · refine V_aload_n X dX5_remember_19 rfl ?_
    refine V_get X fl_X5_11 1 0 rfl rfl rfl dX5_remember_20 ?_
    refine V_aload_n X dX5_remember_23 rfl ?_
    refine V_get X fl_X5_22 1 0 rfl rfl rfl dX5_remember_24 ?_
    refine V_aaldN X (t0 := 3) 1 1 rfl rfl rfl (by decide) (by decide) dX5_remember_27 ?_
    refine V_goto X 32 dX5_remember_28 (by decide) ?_
    refine V_astore_n X dX5_remember_32 (by decide) rfl ?_
    refine V_aload_n X dX5_remember_33 rfl ?_
    refine V_ifnull X dX5_remember_34 ?_
    show V C 0 0 [gMo G b (nF wh) (nF de) t (nI sv) (nI vt) (nI ps), gPast G a (fun j => am j 0) (nI 8) (nI kn), gMoT G (am 0) (P 0), gMoT G (am 1) (P 1), gMoT G (am 2) (P 2), gMoT G (am 3) (P 3), gMoT G (am 4) (P 4), gMoT G (am 5) (P 5), gMoT G (am 6) (P 6), gMoT G (am 7) (P 7), gMo G (am 8) (nF ((P 8).1)) (nF ((P 8).2.1)) ((P 8).2.2.1) (nI ((P 8).2.2.2.1)) (nI ((P 8).2.2.2.2.1)) (nI ((P 8).2.2.2.2.2)), gMoT G (am 9) (P 9)] 37 [some (.ref (a 0)), some (.ref (b 0)), some (.ref (am 8 0))] []
    refine V_aload_n X dX5_remember_37 rfl ?_
    refine V_aload_n X dX5_remember_38 rfl ?_
    refine V_callV (rest := []) X (c_X3_copyFrom (Cl C) G (am 8) ((P 8).1) ((P 8).2.1) ((P 8).2.2.1) ((P 8).2.2.2.1) ((P 8).2.2.2.2.1) ((P 8).2.2.2.2.2) b wh de t sv vt ps) mi_X3_copyFrom kw_2_228 kw_2_125 kw_2_126 dX5_remember_39 [10, 0] rfl (by decide) 10 0 rfl rfl rfl rfl rfl rfl (by decide) (Nat.le_of_ble_eq_true rfl) ⟨rfl, rfl⟩ (fun _ _ => ?_)
    show V C 0 0 [gMo G b (nF wh) (nF de) t (nI sv) (nI vt) (nI ps), gPast G a (fun j => am j 0) (nI 8) (nI kn), gMoT G (am 0) (P 0), gMoT G (am 1) (P 1), gMoT G (am 2) (P 2), gMoT G (am 3) (P 3), gMoT G (am 4) (P 4), gMoT G (am 5) (P 5), gMoT G (am 6) (P 6), gMoT G (am 7) (P 7), gMo G (am 8) (nF wh) (nF de) t (nI sv) (nI vt) (nI ps), gMoT G (am 9) (P 9)] 42 [some (.ref (a 0)), some (.ref (b 0)), some (.ref (am 8 0))] []
    refine V_aload_n X dX5_remember_42 rfl ?_
    refine V_aload_n X dX5_remember_43 rfl ?_
    refine V_get X fl_X5_22 1 0 rfl rfl rfl dX5_remember_44 ?_
    refine V_iconst X (nI 1) dX5_remember_47 (by decide) ?_
    refine V_iaddN X dX5_remember_48 ?_
    refine V_bipush X (nI 10) dX5_remember_49 (by decide) ?_
    refine V_iremN X dX5_remember_51 (by omega) (by omega) (by omega) ?_
    refine V_put X fl_X5_22 1 0 rfl rfl rfl rfl (Nat.le_of_ble_eq_true rfl) dX5_remember_52 ?_
    show V C 0 0 [gMo G b (nF wh) (nF de) t (nI sv) (nI vt) (nI ps), gPast G a (fun j => am j 0) (nI ((8 + 1) % 10)) (nI kn), gMoT G (am 0) (P 0), gMoT G (am 1) (P 1), gMoT G (am 2) (P 2), gMoT G (am 3) (P 3), gMoT G (am 4) (P 4), gMoT G (am 5) (P 5), gMoT G (am 6) (P 6), gMoT G (am 7) (P 7), gMo G (am 8) (nF wh) (nF de) t (nI sv) (nI vt) (nI ps), gMoT G (am 9) (P 9)] 55 [some (.ref (a 0)), some (.ref (b 0)), some (.ref (am 8 0))] []
    refine V_aload_n X dX5_remember_55 rfl ?_
    refine V_bipush X (nI 10) dX5_remember_56 (by decide) ?_
    refine V_aload_n X dX5_remember_58 rfl ?_
    refine V_get X fl_X5_18 1 0 rfl rfl rfl dX5_remember_59 ?_
    refine V_iconst X (nI 1) dX5_remember_62 (by decide) ?_
    refine V_iaddN X dX5_remember_63 ?_
    refine V_mminN X kw_2_229 dX5_remember_64 (by decide) (Nat.le_of_ble_eq_true rfl) ⟨rfl, rfl⟩ (by omega) (by omega) ?_
    refine V_put X fl_X5_18 1 0 rfl rfl rfl rfl (Nat.le_of_ble_eq_true rfl) dX5_remember_67 ?_
    show V C 0 0 [gMo G b (nF wh) (nF de) t (nI sv) (nI vt) (nI ps), gPast G a (fun j => am j 0) (nI ((8 + 1) % 10)) (nI (min 10 (kn + 1))), gMoT G (am 0) (P 0), gMoT G (am 1) (P 1), gMoT G (am 2) (P 2), gMoT G (am 3) (P 3), gMoT G (am 4) (P 4), gMoT G (am 5) (P 5), gMoT G (am 6) (P 6), gMoT G (am 7) (P 7), gMo G (am 8) (nF wh) (nF de) t (nI sv) (nI vt) (nI ps), gMoT G (am 9) (P 9)] 70 [some (.ref (a 0)), some (.ref (b 0)), some (.ref (am 8 0))] []
    exact V_vret X Y () trivial rfl rfl dX5_remember_70
set_option maxHeartbeats 4000000 in
set_option maxRecDepth 100000 in
theorem c_X5_recall_8 (l : Launch) (G : mvG) (a : Nat → Nat) (am : Nat → Nat → Nat) (P : Nat → MoT) (kn : Nat) (b : Nat → Nat) (wh : Nat → Nat) (de : Nat → Nat) (t : Nat → Int32) (sv : Nat) (vt : Nat) (ps : Nat) (hk : 1 ≤ kn ∧ kn ≤ 10) : KQ l yX5_recall cX5_recall 4 none (2, 39) G [.ref (a 0), .ref (b 0)] [gMo G b (nF wh) (nF de) t (nI sv) (nI vt) (nI ps), gPast G a (fun j => am j 0) (nI 8) (nI kn), gMoT G (am 0) (P 0), gMoT G (am 1) (P 1), gMoT G (am 2) (P 2), gMoT G (am 3) (P 3), gMoT G (am 4) (P 4), gMoT G (am 5) (P 5), gMoT G (am 6) (P 6), gMoT G (am 7) (P 7), gMoT G (am 8) (P 8), gMoT G (am 9) (P 9)] (fun (_ : Unit) => none) (fun (_ : Unit) => True) (fun (_ : Unit) => [gMoT G b (P 7), gPast G a (fun j => am j 0) (nI 7) (nI (kn - 1)), gMoT G (am 0) (P 0), gMoT G (am 1) (P 1), gMoT G (am 2) (P 2), gMoT G (am 3) (P 3), gMoT G (am 4) (P 4), gMoT G (am 5) (P 5), gMoT G (am 6) (P 6), gMoT G (am 7) (P 7), gMoT G (am 8) (P 8), gMoT G (am 9) (P 9)]) := by
  refine KQ.mk (by decide +kernel) (fun _ _ => rfl) [some (.ref (a 0)), some (.ref (b 0)), none, none] (Nat.le_of_ble_eq_true rfl) rfl (fun C X Y hC => ?_)
  subst hC
  refine V_aload_n X dX5_recall_0 rfl ?_
  refine V_get X fl_X5_22 1 0 rfl rfl rfl dX5_recall_1 ?_
  refine V_bipush X (nI 10) dX5_recall_4 (by decide) ?_
  refine V_iaddN X dX5_recall_6 ?_
  refine V_iconst X (nI 1) dX5_recall_7 (by decide) ?_
  refine V_isubN X dX5_recall_8 (by omega) ?_
  refine V_bipush X (nI 10) dX5_recall_9 (by decide) ?_
  refine V_iremN X dX5_recall_11 (by omega) (by omega) (by omega) ?_
  refine V_istore_n X dX5_recall_12 (by decide) rfl ?_
  refine V_loc (y := (nI 7)) 2 rfl rfl ?_
  refine V_iload_n X dX5_recall_13 rfl ?_
  refine V_if_ltN X dX5_recall_14 35 (by decide) (by omega) ?_
  refine V_iload_n X dX5_recall_17 rfl ?_
  refine V_aload_n X dX5_recall_18 rfl ?_
  refine V_get X fl_X5_11 1 0 rfl rfl rfl dX5_recall_19 ?_
  refine V_alen X (t0 := 3) 1 1 (nI 10) rfl rfl rfl rfl dX5_recall_22 ?_
  refine V_icmp_geN X 35 dX5_recall_23 (by decide) (by decide) (by decide) (fun c_2 => ?_) (fun c_2 => ?_)
  · exfalso; omega
  · refine V_aload_n X dX5_recall_26 rfl ?_
    refine V_get X fl_X5_11 1 0 rfl rfl rfl dX5_recall_27 ?_
    refine V_iload_n X dX5_recall_30 rfl ?_
    refine V_aaldN X (t0 := 3) 1 1 rfl rfl rfl (by decide) (by decide) dX5_recall_31 ?_
    refine V_goto X 36 dX5_recall_32 (by decide) ?_
    refine V_astore_n X dX5_recall_36 (by decide) rfl ?_
    refine V_aload_n X dX5_recall_37 rfl ?_
    refine V_ifnull X dX5_recall_38 ?_
    refine V_aload_n X dX5_recall_41 rfl ?_
    refine V_get X fl_X5_18 1 0 rfl rfl rfl dX5_recall_42 ?_
    refine V_if_leN X 68 dX5_recall_45 (by decide) (by omega) (fun c_3 => ?_) (fun c_3 => ?_)
    · exfalso; omega
    · show V C 0 0 [gMo G b (nF wh) (nF de) t (nI sv) (nI vt) (nI ps), gPast G a (fun j => am j 0) (nI 8) (nI kn), gMoT G (am 0) (P 0), gMoT G (am 1) (P 1), gMoT G (am 2) (P 2), gMoT G (am 3) (P 3), gMoT G (am 4) (P 4), gMoT G (am 5) (P 5), gMoT G (am 6) (P 6), gMo G (am 7) (nF ((P 7).1)) (nF ((P 7).2.1)) ((P 7).2.2.1) (nI ((P 7).2.2.2.1)) (nI ((P 7).2.2.2.2.1)) (nI ((P 7).2.2.2.2.2)), gMoT G (am 8) (P 8), gMoT G (am 9) (P 9)] 48 [some (.ref (a 0)), some (.ref (b 0)), some (.int (nI 7)), some (.ref (am 7 0))] []
      refine V_aload_n X dX5_recall_48 rfl ?_
      refine V_aload_n X dX5_recall_49 rfl ?_
      refine V_callV (rest := []) X (c_X3_copyFrom (Cl C) G b wh de t sv vt ps (am 7) ((P 7).1) ((P 7).2.1) ((P 7).2.2.1) ((P 7).2.2.2.1) ((P 7).2.2.2.2.1) ((P 7).2.2.2.2.2)) mi_X3_copyFrom kw_2_228 kw_2_125 kw_2_126 dX5_recall_50 [0, 9] rfl (by decide) 0 0 rfl rfl rfl rfl rfl rfl (by decide) (Nat.le_of_ble_eq_true rfl) ⟨rfl, rfl⟩ (fun _ _ => ?_)
      show V C 0 0 [gMo G b (nF ((P 7).1)) (nF ((P 7).2.1)) ((P 7).2.2.1) (nI ((P 7).2.2.2.1)) (nI ((P 7).2.2.2.2.1)) (nI ((P 7).2.2.2.2.2)), gPast G a (fun j => am j 0) (nI 8) (nI kn), gMoT G (am 0) (P 0), gMoT G (am 1) (P 1), gMoT G (am 2) (P 2), gMoT G (am 3) (P 3), gMoT G (am 4) (P 4), gMoT G (am 5) (P 5), gMoT G (am 6) (P 6), gMo G (am 7) (nF ((P 7).1)) (nF ((P 7).2.1)) ((P 7).2.2.1) (nI ((P 7).2.2.2.1)) (nI ((P 7).2.2.2.2.1)) (nI ((P 7).2.2.2.2.2)), gMoT G (am 8) (P 8), gMoT G (am 9) (P 9)] 53 [some (.ref (a 0)), some (.ref (b 0)), some (.int (nI 7)), some (.ref (am 7 0))] []
      refine V_aload_n X dX5_recall_53 rfl ?_
      refine V_iload_n X dX5_recall_54 rfl ?_
      refine V_put X fl_X5_22 1 0 rfl rfl rfl rfl (Nat.le_of_ble_eq_true rfl) dX5_recall_55 ?_
      show V C 0 0 [gMo G b (nF ((P 7).1)) (nF ((P 7).2.1)) ((P 7).2.2.1) (nI ((P 7).2.2.2.1)) (nI ((P 7).2.2.2.2.1)) (nI ((P 7).2.2.2.2.2)), gPast G a (fun j => am j 0) (nI 7) (nI kn), gMoT G (am 0) (P 0), gMoT G (am 1) (P 1), gMoT G (am 2) (P 2), gMoT G (am 3) (P 3), gMoT G (am 4) (P 4), gMoT G (am 5) (P 5), gMoT G (am 6) (P 6), gMo G (am 7) (nF ((P 7).1)) (nF ((P 7).2.1)) ((P 7).2.2.1) (nI ((P 7).2.2.2.1)) (nI ((P 7).2.2.2.2.1)) (nI ((P 7).2.2.2.2.2)), gMoT G (am 8) (P 8), gMoT G (am 9) (P 9)] 58 [some (.ref (a 0)), some (.ref (b 0)), some (.int (nI 7)), some (.ref (am 7 0))] []
      refine V_aload_n X dX5_recall_58 rfl ?_
      refine V_dup X dX5_recall_59 rfl ?_
      refine V_get X fl_X5_18 1 0 rfl rfl rfl dX5_recall_60 ?_
      refine V_iconst X (nI 1) dX5_recall_63 (by decide) ?_
      refine V_isubN X dX5_recall_64 (by omega) ?_
      refine V_put X fl_X5_18 1 0 rfl rfl rfl rfl (Nat.le_of_ble_eq_true rfl) dX5_recall_65 ?_
      show V C 0 0 [gMo G b (nF ((P 7).1)) (nF ((P 7).2.1)) ((P 7).2.2.1) (nI ((P 7).2.2.2.1)) (nI ((P 7).2.2.2.2.1)) (nI ((P 7).2.2.2.2.2)), gPast G a (fun j => am j 0) (nI 7) (nI (kn - 1)), gMoT G (am 0) (P 0), gMoT G (am 1) (P 1), gMoT G (am 2) (P 2), gMoT G (am 3) (P 3), gMoT G (am 4) (P 4), gMoT G (am 5) (P 5), gMoT G (am 6) (P 6), gMo G (am 7) (nF ((P 7).1)) (nF ((P 7).2.1)) ((P 7).2.2.1) (nI ((P 7).2.2.2.1)) (nI ((P 7).2.2.2.2.1)) (nI ((P 7).2.2.2.2.2)), gMoT G (am 8) (P 8), gMoT G (am 9) (P 9)] 68 [some (.ref (a 0)), some (.ref (b 0)), some (.int (nI 7)), some (.ref (am 7 0))] []
      exact V_vret X Y () trivial rfl rfl dX5_recall_68
set_option maxHeartbeats 4000000 in
set_option maxRecDepth 100000 in
theorem c_X5_remember_9 (l : Launch) (G : mvG) (a : Nat → Nat) (am : Nat → Nat → Nat) (P : Nat → MoT) (kn : Nat) (b : Nat → Nat) (wh : Nat → Nat) (de : Nat → Nat) (t : Nat → Int32) (sv : Nat) (vt : Nat) (ps : Nat) (hk : kn ≤ 10) : KQ l yX5_remember cX5_remember 3 none (2, 39) G [.ref (a 0), .ref (b 0)] [gMo G b (nF wh) (nF de) t (nI sv) (nI vt) (nI ps), gPast G a (fun j => am j 0) (nI 9) (nI kn), gMoT G (am 0) (P 0), gMoT G (am 1) (P 1), gMoT G (am 2) (P 2), gMoT G (am 3) (P 3), gMoT G (am 4) (P 4), gMoT G (am 5) (P 5), gMoT G (am 6) (P 6), gMoT G (am 7) (P 7), gMoT G (am 8) (P 8), gMoT G (am 9) (P 9)] (fun (_ : Unit) => none) (fun (_ : Unit) => True) (fun (_ : Unit) => [gMo G b (nF wh) (nF de) t (nI sv) (nI vt) (nI ps), gPast G a (fun j => am j 0) (nI ((9 + 1) % 10)) (nI (min 10 (kn + 1))), gMoT G (am 0) (va_up P 9 (wh, de, t, sv, vt, ps) 0), gMoT G (am 1) (va_up P 9 (wh, de, t, sv, vt, ps) 1), gMoT G (am 2) (va_up P 9 (wh, de, t, sv, vt, ps) 2), gMoT G (am 3) (va_up P 9 (wh, de, t, sv, vt, ps) 3), gMoT G (am 4) (va_up P 9 (wh, de, t, sv, vt, ps) 4), gMoT G (am 5) (va_up P 9 (wh, de, t, sv, vt, ps) 5), gMoT G (am 6) (va_up P 9 (wh, de, t, sv, vt, ps) 6), gMoT G (am 7) (va_up P 9 (wh, de, t, sv, vt, ps) 7), gMoT G (am 8) (va_up P 9 (wh, de, t, sv, vt, ps) 8), gMoT G (am 9) (va_up P 9 (wh, de, t, sv, vt, ps) 9)]) := by
  refine KQ.mk (by decide +kernel) (fun _ _ => rfl) [some (.ref (a 0)), some (.ref (b 0)), none] (Nat.le_of_ble_eq_true rfl) rfl (fun C X Y hC => ?_)
  subst hC
  refine V_aload_n X dX5_remember_0 rfl ?_
  refine V_get X fl_X5_22 1 0 rfl rfl rfl dX5_remember_1 ?_
  refine V_if_ltN X dX5_remember_4 31 (by decide) (by omega) ?_
  refine V_aload_n X dX5_remember_7 rfl ?_
  refine V_get X fl_X5_22 1 0 rfl rfl rfl dX5_remember_8 ?_
  refine V_aload_n X dX5_remember_11 rfl ?_
  refine V_get X fl_X5_11 1 0 rfl rfl rfl dX5_remember_12 ?_
  refine V_alen X (t0 := 3) 1 1 (nI 10) rfl rfl rfl rfl dX5_remember_15 ?_
  refine V_icmp_geN X 31 dX5_remember_16 (by decide) (by decide) (by decide) (fun c_2 => ?_) (fun c_2 => ?_)
  · exfalso; omega
  · refine V_aload_n X dX5_remember_19 rfl ?_
    refine V_get X fl_X5_11 1 0 rfl rfl rfl dX5_remember_20 ?_
    refine V_aload_n X dX5_remember_23 rfl ?_
    refine V_get X fl_X5_22 1 0 rfl rfl rfl dX5_remember_24 ?_
    refine V_aaldN X (t0 := 3) 1 1 rfl rfl rfl (by decide) (by decide) dX5_remember_27 ?_
    refine V_goto X 32 dX5_remember_28 (by decide) ?_
    refine V_astore_n X dX5_remember_32 (by decide) rfl ?_
    refine V_aload_n X dX5_remember_33 rfl ?_
    refine V_ifnull X dX5_remember_34 ?_
    show V C 0 0 [gMo G b (nF wh) (nF de) t (nI sv) (nI vt) (nI ps), gPast G a (fun j => am j 0) (nI 9) (nI kn), gMoT G (am 0) (P 0), gMoT G (am 1) (P 1), gMoT G (am 2) (P 2), gMoT G (am 3) (P 3), gMoT G (am 4) (P 4), gMoT G (am 5) (P 5), gMoT G (am 6) (P 6), gMoT G (am 7) (P 7), gMoT G (am 8) (P 8), gMo G (am 9) (nF ((P 9).1)) (nF ((P 9).2.1)) ((P 9).2.2.1) (nI ((P 9).2.2.2.1)) (nI ((P 9).2.2.2.2.1)) (nI ((P 9).2.2.2.2.2))] 37 [some (.ref (a 0)), some (.ref (b 0)), some (.ref (am 9 0))] []
    refine V_aload_n X dX5_remember_37 rfl ?_
    refine V_aload_n X dX5_remember_38 rfl ?_
    refine V_callV (rest := []) X (c_X3_copyFrom (Cl C) G (am 9) ((P 9).1) ((P 9).2.1) ((P 9).2.2.1) ((P 9).2.2.2.1) ((P 9).2.2.2.2.1) ((P 9).2.2.2.2.2) b wh de t sv vt ps) mi_X3_copyFrom kw_2_228 kw_2_125 kw_2_126 dX5_remember_39 [11, 0] rfl (by decide) 11 0 rfl rfl rfl rfl rfl rfl (by decide) (Nat.le_of_ble_eq_true rfl) ⟨rfl, rfl⟩ (fun _ _ => ?_)
    show V C 0 0 [gMo G b (nF wh) (nF de) t (nI sv) (nI vt) (nI ps), gPast G a (fun j => am j 0) (nI 9) (nI kn), gMoT G (am 0) (P 0), gMoT G (am 1) (P 1), gMoT G (am 2) (P 2), gMoT G (am 3) (P 3), gMoT G (am 4) (P 4), gMoT G (am 5) (P 5), gMoT G (am 6) (P 6), gMoT G (am 7) (P 7), gMoT G (am 8) (P 8), gMo G (am 9) (nF wh) (nF de) t (nI sv) (nI vt) (nI ps)] 42 [some (.ref (a 0)), some (.ref (b 0)), some (.ref (am 9 0))] []
    refine V_aload_n X dX5_remember_42 rfl ?_
    refine V_aload_n X dX5_remember_43 rfl ?_
    refine V_get X fl_X5_22 1 0 rfl rfl rfl dX5_remember_44 ?_
    refine V_iconst X (nI 1) dX5_remember_47 (by decide) ?_
    refine V_iaddN X dX5_remember_48 ?_
    refine V_bipush X (nI 10) dX5_remember_49 (by decide) ?_
    refine V_iremN X dX5_remember_51 (by omega) (by omega) (by omega) ?_
    refine V_put X fl_X5_22 1 0 rfl rfl rfl rfl (Nat.le_of_ble_eq_true rfl) dX5_remember_52 ?_
    show V C 0 0 [gMo G b (nF wh) (nF de) t (nI sv) (nI vt) (nI ps), gPast G a (fun j => am j 0) (nI ((9 + 1) % 10)) (nI kn), gMoT G (am 0) (P 0), gMoT G (am 1) (P 1), gMoT G (am 2) (P 2), gMoT G (am 3) (P 3), gMoT G (am 4) (P 4), gMoT G (am 5) (P 5), gMoT G (am 6) (P 6), gMoT G (am 7) (P 7), gMoT G (am 8) (P 8), gMo G (am 9) (nF wh) (nF de) t (nI sv) (nI vt) (nI ps)] 55 [some (.ref (a 0)), some (.ref (b 0)), some (.ref (am 9 0))] []
    refine V_aload_n X dX5_remember_55 rfl ?_
    refine V_bipush X (nI 10) dX5_remember_56 (by decide) ?_
    refine V_aload_n X dX5_remember_58 rfl ?_
    refine V_get X fl_X5_18 1 0 rfl rfl rfl dX5_remember_59 ?_
    refine V_iconst X (nI 1) dX5_remember_62 (by decide) ?_
    refine V_iaddN X dX5_remember_63 ?_
    refine V_mminN X kw_2_229 dX5_remember_64 (by decide) (Nat.le_of_ble_eq_true rfl) ⟨rfl, rfl⟩ (by omega) (by omega) ?_
    refine V_put X fl_X5_18 1 0 rfl rfl rfl rfl (Nat.le_of_ble_eq_true rfl) dX5_remember_67 ?_
    show V C 0 0 [gMo G b (nF wh) (nF de) t (nI sv) (nI vt) (nI ps), gPast G a (fun j => am j 0) (nI ((9 + 1) % 10)) (nI (min 10 (kn + 1))), gMoT G (am 0) (P 0), gMoT G (am 1) (P 1), gMoT G (am 2) (P 2), gMoT G (am 3) (P 3), gMoT G (am 4) (P 4), gMoT G (am 5) (P 5), gMoT G (am 6) (P 6), gMoT G (am 7) (P 7), gMoT G (am 8) (P 8), gMo G (am 9) (nF wh) (nF de) t (nI sv) (nI vt) (nI ps)] 70 [some (.ref (a 0)), some (.ref (b 0)), some (.ref (am 9 0))] []
    exact V_vret X Y () trivial rfl rfl dX5_remember_70
set_option maxHeartbeats 4000000 in
set_option maxRecDepth 100000 in
theorem c_X5_recall_9 (l : Launch) (G : mvG) (a : Nat → Nat) (am : Nat → Nat → Nat) (P : Nat → MoT) (kn : Nat) (b : Nat → Nat) (wh : Nat → Nat) (de : Nat → Nat) (t : Nat → Int32) (sv : Nat) (vt : Nat) (ps : Nat) (hk : 1 ≤ kn ∧ kn ≤ 10) : KQ l yX5_recall cX5_recall 4 none (2, 39) G [.ref (a 0), .ref (b 0)] [gMo G b (nF wh) (nF de) t (nI sv) (nI vt) (nI ps), gPast G a (fun j => am j 0) (nI 9) (nI kn), gMoT G (am 0) (P 0), gMoT G (am 1) (P 1), gMoT G (am 2) (P 2), gMoT G (am 3) (P 3), gMoT G (am 4) (P 4), gMoT G (am 5) (P 5), gMoT G (am 6) (P 6), gMoT G (am 7) (P 7), gMoT G (am 8) (P 8), gMoT G (am 9) (P 9)] (fun (_ : Unit) => none) (fun (_ : Unit) => True) (fun (_ : Unit) => [gMoT G b (P 8), gPast G a (fun j => am j 0) (nI 8) (nI (kn - 1)), gMoT G (am 0) (P 0), gMoT G (am 1) (P 1), gMoT G (am 2) (P 2), gMoT G (am 3) (P 3), gMoT G (am 4) (P 4), gMoT G (am 5) (P 5), gMoT G (am 6) (P 6), gMoT G (am 7) (P 7), gMoT G (am 8) (P 8), gMoT G (am 9) (P 9)]) := by
  refine KQ.mk (by decide +kernel) (fun _ _ => rfl) [some (.ref (a 0)), some (.ref (b 0)), none, none] (Nat.le_of_ble_eq_true rfl) rfl (fun C X Y hC => ?_)
  subst hC
  refine V_aload_n X dX5_recall_0 rfl ?_
  refine V_get X fl_X5_22 1 0 rfl rfl rfl dX5_recall_1 ?_
  refine V_bipush X (nI 10) dX5_recall_4 (by decide) ?_
  refine V_iaddN X dX5_recall_6 ?_
  refine V_iconst X (nI 1) dX5_recall_7 (by decide) ?_
  refine V_isubN X dX5_recall_8 (by omega) ?_
  refine V_bipush X (nI 10) dX5_recall_9 (by decide) ?_
  refine V_iremN X dX5_recall_11 (by omega) (by omega) (by omega) ?_
  refine V_istore_n X dX5_recall_12 (by decide) rfl ?_
  refine V_loc (y := (nI 8)) 2 rfl rfl ?_
  refine V_iload_n X dX5_recall_13 rfl ?_
  refine V_if_ltN X dX5_recall_14 35 (by decide) (by omega) ?_
  refine V_iload_n X dX5_recall_17 rfl ?_
  refine V_aload_n X dX5_recall_18 rfl ?_
  refine V_get X fl_X5_11 1 0 rfl rfl rfl dX5_recall_19 ?_
  refine V_alen X (t0 := 3) 1 1 (nI 10) rfl rfl rfl rfl dX5_recall_22 ?_
  refine V_icmp_geN X 35 dX5_recall_23 (by decide) (by decide) (by decide) (fun c_2 => ?_) (fun c_2 => ?_)
  · exfalso; omega
  · refine V_aload_n X dX5_recall_26 rfl ?_
    refine V_get X fl_X5_11 1 0 rfl rfl rfl dX5_recall_27 ?_
    refine V_iload_n X dX5_recall_30 rfl ?_
    refine V_aaldN X (t0 := 3) 1 1 rfl rfl rfl (by decide) (by decide) dX5_recall_31 ?_
    refine V_goto X 36 dX5_recall_32 (by decide) ?_
    refine V_astore_n X dX5_recall_36 (by decide) rfl ?_
    refine V_aload_n X dX5_recall_37 rfl ?_
    refine V_ifnull X dX5_recall_38 ?_
    refine V_aload_n X dX5_recall_41 rfl ?_
    refine V_get X fl_X5_18 1 0 rfl rfl rfl dX5_recall_42 ?_
    refine V_if_leN X 68 dX5_recall_45 (by decide) (by omega) (fun c_3 => ?_) (fun c_3 => ?_)
    · exfalso; omega
    · show V C 0 0 [gMo G b (nF wh) (nF de) t (nI sv) (nI vt) (nI ps), gPast G a (fun j => am j 0) (nI 9) (nI kn), gMoT G (am 0) (P 0), gMoT G (am 1) (P 1), gMoT G (am 2) (P 2), gMoT G (am 3) (P 3), gMoT G (am 4) (P 4), gMoT G (am 5) (P 5), gMoT G (am 6) (P 6), gMoT G (am 7) (P 7), gMo G (am 8) (nF ((P 8).1)) (nF ((P 8).2.1)) ((P 8).2.2.1) (nI ((P 8).2.2.2.1)) (nI ((P 8).2.2.2.2.1)) (nI ((P 8).2.2.2.2.2)), gMoT G (am 9) (P 9)] 48 [some (.ref (a 0)), some (.ref (b 0)), some (.int (nI 8)), some (.ref (am 8 0))] []
      refine V_aload_n X dX5_recall_48 rfl ?_
      refine V_aload_n X dX5_recall_49 rfl ?_
      refine V_callV (rest := []) X (c_X3_copyFrom (Cl C) G b wh de t sv vt ps (am 8) ((P 8).1) ((P 8).2.1) ((P 8).2.2.1) ((P 8).2.2.2.1) ((P 8).2.2.2.2.1) ((P 8).2.2.2.2.2)) mi_X3_copyFrom kw_2_228 kw_2_125 kw_2_126 dX5_recall_50 [0, 10] rfl (by decide) 0 0 rfl rfl rfl rfl rfl rfl (by decide) (Nat.le_of_ble_eq_true rfl) ⟨rfl, rfl⟩ (fun _ _ => ?_)
      show V C 0 0 [gMo G b (nF ((P 8).1)) (nF ((P 8).2.1)) ((P 8).2.2.1) (nI ((P 8).2.2.2.1)) (nI ((P 8).2.2.2.2.1)) (nI ((P 8).2.2.2.2.2)), gPast G a (fun j => am j 0) (nI 9) (nI kn), gMoT G (am 0) (P 0), gMoT G (am 1) (P 1), gMoT G (am 2) (P 2), gMoT G (am 3) (P 3), gMoT G (am 4) (P 4), gMoT G (am 5) (P 5), gMoT G (am 6) (P 6), gMoT G (am 7) (P 7), gMo G (am 8) (nF ((P 8).1)) (nF ((P 8).2.1)) ((P 8).2.2.1) (nI ((P 8).2.2.2.1)) (nI ((P 8).2.2.2.2.1)) (nI ((P 8).2.2.2.2.2)), gMoT G (am 9) (P 9)] 53 [some (.ref (a 0)), some (.ref (b 0)), some (.int (nI 8)), some (.ref (am 8 0))] []
      refine V_aload_n X dX5_recall_53 rfl ?_
      refine V_iload_n X dX5_recall_54 rfl ?_
      refine V_put X fl_X5_22 1 0 rfl rfl rfl rfl (Nat.le_of_ble_eq_true rfl) dX5_recall_55 ?_
      show V C 0 0 [gMo G b (nF ((P 8).1)) (nF ((P 8).2.1)) ((P 8).2.2.1) (nI ((P 8).2.2.2.1)) (nI ((P 8).2.2.2.2.1)) (nI ((P 8).2.2.2.2.2)), gPast G a (fun j => am j 0) (nI 8) (nI kn), gMoT G (am 0) (P 0), gMoT G (am 1) (P 1), gMoT G (am 2) (P 2), gMoT G (am 3) (P 3), gMoT G (am 4) (P 4), gMoT G (am 5) (P 5), gMoT G (am 6) (P 6), gMoT G (am 7) (P 7), gMo G (am 8) (nF ((P 8).1)) (nF ((P 8).2.1)) ((P 8).2.2.1) (nI ((P 8).2.2.2.1)) (nI ((P 8).2.2.2.2.1)) (nI ((P 8).2.2.2.2.2)), gMoT G (am 9) (P 9)] 58 [some (.ref (a 0)), some (.ref (b 0)), some (.int (nI 8)), some (.ref (am 8 0))] []
      refine V_aload_n X dX5_recall_58 rfl ?_
      refine V_dup X dX5_recall_59 rfl ?_
      refine V_get X fl_X5_18 1 0 rfl rfl rfl dX5_recall_60 ?_
      refine V_iconst X (nI 1) dX5_recall_63 (by decide) ?_
      refine V_isubN X dX5_recall_64 (by omega) ?_
      refine V_put X fl_X5_18 1 0 rfl rfl rfl rfl (Nat.le_of_ble_eq_true rfl) dX5_recall_65 ?_
      show V C 0 0 [gMo G b (nF ((P 8).1)) (nF ((P 8).2.1)) ((P 8).2.2.1) (nI ((P 8).2.2.2.1)) (nI ((P 8).2.2.2.2.1)) (nI ((P 8).2.2.2.2.2)), gPast G a (fun j => am j 0) (nI 8) (nI (kn - 1)), gMoT G (am 0) (P 0), gMoT G (am 1) (P 1), gMoT G (am 2) (P 2), gMoT G (am 3) (P 3), gMoT G (am 4) (P 4), gMoT G (am 5) (P 5), gMoT G (am 6) (P 6), gMoT G (am 7) (P 7), gMo G (am 8) (nF ((P 8).1)) (nF ((P 8).2.1)) ((P 8).2.2.1) (nI ((P 8).2.2.2.1)) (nI ((P 8).2.2.2.2.1)) (nI ((P 8).2.2.2.2.2)), gMoT G (am 9) (P 9)] 68 [some (.ref (a 0)), some (.ref (b 0)), some (.int (nI 8)), some (.ref (am 8 0))] []
      exact V_vret X Y () trivial rfl rfl dX5_recall_68
set_option maxRecDepth 100000 in
theorem c_X5_remember (l : Launch) (G : mvG) (a : Nat → Nat) (am : Nat → Nat → Nat) (P : Nat → MoT) (q : Nat) (kn : Nat) (b : Nat → Nat) (wh : Nat → Nat) (de : Nat → Nat) (t : Nat → Int32) (sv : Nat) (vt : Nat) (ps : Nat) (hk : kn ≤ 10) (hq : q < 10) : KQ l yX5_remember cX5_remember 3 none (2, 39) G [.ref (a 0), .ref (b 0)] [gMo G b (nF wh) (nF de) t (nI sv) (nI vt) (nI ps), gPast G a (fun j => am j 0) (nI q) (nI kn), gMoT G (am 0) (P 0), gMoT G (am 1) (P 1), gMoT G (am 2) (P 2), gMoT G (am 3) (P 3), gMoT G (am 4) (P 4), gMoT G (am 5) (P 5), gMoT G (am 6) (P 6), gMoT G (am 7) (P 7), gMoT G (am 8) (P 8), gMoT G (am 9) (P 9)] (fun (_ : Unit) => none) (fun (_ : Unit) => True) (fun (_ : Unit) => [gMo G b (nF wh) (nF de) t (nI sv) (nI vt) (nI ps), gPast G a (fun j => am j 0) (nI ((q + 1) % 10)) (nI (min 10 (kn + 1))), gMoT G (am 0) (va_up P q (wh, de, t, sv, vt, ps) 0), gMoT G (am 1) (va_up P q (wh, de, t, sv, vt, ps) 1), gMoT G (am 2) (va_up P q (wh, de, t, sv, vt, ps) 2), gMoT G (am 3) (va_up P q (wh, de, t, sv, vt, ps) 3), gMoT G (am 4) (va_up P q (wh, de, t, sv, vt, ps) 4), gMoT G (am 5) (va_up P q (wh, de, t, sv, vt, ps) 5), gMoT G (am 6) (va_up P q (wh, de, t, sv, vt, ps) 6), gMoT G (am 7) (va_up P q (wh, de, t, sv, vt, ps) 7), gMoT G (am 8) (va_up P q (wh, de, t, sv, vt, ps) 8), gMoT G (am 9) (va_up P q (wh, de, t, sv, vt, ps) 9)]) :=
  match q, hq with
  | 0, _ => c_X5_remember_0 l G a am P kn b wh de t sv vt ps hk
  | 1, _ => c_X5_remember_1 l G a am P kn b wh de t sv vt ps hk
  | 2, _ => c_X5_remember_2 l G a am P kn b wh de t sv vt ps hk
  | 3, _ => c_X5_remember_3 l G a am P kn b wh de t sv vt ps hk
  | 4, _ => c_X5_remember_4 l G a am P kn b wh de t sv vt ps hk
  | 5, _ => c_X5_remember_5 l G a am P kn b wh de t sv vt ps hk
  | 6, _ => c_X5_remember_6 l G a am P kn b wh de t sv vt ps hk
  | 7, _ => c_X5_remember_7 l G a am P kn b wh de t sv vt ps hk
  | 8, _ => c_X5_remember_8 l G a am P kn b wh de t sv vt ps hk
  | 9, _ => c_X5_remember_9 l G a am P kn b wh de t sv vt ps hk
  | j + 10, z => absurd z (by omega)
set_option maxRecDepth 100000 in
theorem c_X5_recall (l : Launch) (G : mvG) (a : Nat → Nat) (am : Nat → Nat → Nat) (P : Nat → MoT) (q : Nat) (kn : Nat) (b : Nat → Nat) (wh : Nat → Nat) (de : Nat → Nat) (t : Nat → Int32) (sv : Nat) (vt : Nat) (ps : Nat) (hk : 1 ≤ kn ∧ kn ≤ 10) (hq : q < 10) : KQ l yX5_recall cX5_recall 4 none (2, 39) G [.ref (a 0), .ref (b 0)] [gMo G b (nF wh) (nF de) t (nI sv) (nI vt) (nI ps), gPast G a (fun j => am j 0) (nI q) (nI kn), gMoT G (am 0) (P 0), gMoT G (am 1) (P 1), gMoT G (am 2) (P 2), gMoT G (am 3) (P 3), gMoT G (am 4) (P 4), gMoT G (am 5) (P 5), gMoT G (am 6) (P 6), gMoT G (am 7) (P 7), gMoT G (am 8) (P 8), gMoT G (am 9) (P 9)] (fun (_ : Unit) => none) (fun (_ : Unit) => True) (fun (_ : Unit) => [gMoT G b (P ((q + 9) % 10)), gPast G a (fun j => am j 0) (nI ((q + 9) % 10)) (nI (kn - 1)), gMoT G (am 0) (P 0), gMoT G (am 1) (P 1), gMoT G (am 2) (P 2), gMoT G (am 3) (P 3), gMoT G (am 4) (P 4), gMoT G (am 5) (P 5), gMoT G (am 6) (P 6), gMoT G (am 7) (P 7), gMoT G (am 8) (P 8), gMoT G (am 9) (P 9)]) :=
  match q, hq with
  | 0, _ => c_X5_recall_0 l G a am P kn b wh de t sv vt ps hk
  | 1, _ => c_X5_recall_1 l G a am P kn b wh de t sv vt ps hk
  | 2, _ => c_X5_recall_2 l G a am P kn b wh de t sv vt ps hk
  | 3, _ => c_X5_recall_3 l G a am P kn b wh de t sv vt ps hk
  | 4, _ => c_X5_recall_4 l G a am P kn b wh de t sv vt ps hk
  | 5, _ => c_X5_recall_5 l G a am P kn b wh de t sv vt ps hk
  | 6, _ => c_X5_recall_6 l G a am P kn b wh de t sv vt ps hk
  | 7, _ => c_X5_recall_7 l G a am P kn b wh de t sv vt ps hk
  | 8, _ => c_X5_recall_8 l G a am P kn b wh de t sv vt ps hk
  | 9, _ => c_X5_recall_9 l G a am P kn b wh de t sv vt ps hk
  | j + 10, z => absurd z (by omega)
