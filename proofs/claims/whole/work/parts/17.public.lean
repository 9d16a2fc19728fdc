def spType (L : Nat → Nat) (len : Nat) (x : Int) : Int × (Nat → Nat) × Nat := if 0 ≤ x ∧ x ≤ 255 then (if len < 100 then ((len : Int) + 1, va_up L len x.toNat, len + 1) else (-3, L, len)) else (-1, L, len)
def spBack (I : Nat → MoT) (K : Nat → Nat) (M : MoT) (kn : Nat) (x : Int) : Int × MoT × Nat := if 0 ≤ x ∧ x < 2 then (if K x.toNat = 0 then (-2, M, kn) else (((I x.toNat).2.2.2.1 : Int), I x.toNat, 0)) else (-1, M, kn)
def spKeep (I : Nat → MoT) (K : Nat → Nat) (M : MoT) (x : Int) : Int × (Nat → MoT) × (Nat → Nat) := if 0 ≤ x ∧ x < 2 then ((M.2.2.2.1 : Int), va_up I x.toNat M, va_up K x.toNat 1) else (-1, I, K)
def spBest (de : Nat → Nat) (B : Nat → Int) (k i : Int) : Int := if 1 ≤ k ∧ k ≤ 3 ∧ -1 ≤ i ∧ i < 3 then (if k ≤ i then -9 else if i < 0 then (seek1 (trT de) k.toNat (-1, B)).1 else 10 * ((seek1 (trT de) k.toNat (-1, B)).2 i.toNat / 5) + (seek1 (trT de) k.toNat (-1, B)).2 i.toNat % 5) else -1
theorem nb_le {c d : Nat} (hc : c < 36) : -9 ≤ nb c d ∧ nb c d < 36 := by
  simp only [nb]
  (repeat' split) <;> omega
theorem p2_lt {p : Nat} (h : p < 5) : 2 ^ p < 32 := Nat.pow_lt_pow_right (by decide) h
theorem p2_pos (n : Nat) : 0 < 2 ^ n := Nat.pow_pos (by decide)
theorem askS_le (cn : Nat → Nat) (al : Nat) : ∀ p, (askS cn al p).1 ≤ al ∧ -9 ≤ (askS cn al p).2 ∧ (askS cn al p).2 ≤ p
  | 0 => by simp [askS]
  | p + 1 => by
    have h := askS_le cn al p
    simp only [askS]
    split
    · refine ⟨by simp only []; omega, by simp only []; omega, by simp only []; omega⟩
    · omega
theorem gz9 {k d : Nat} (hk : 1 ≤ k ∧ k ≤ 9) (hd : d ≤ 9) : (d + k - 1) / k ≤ 9 := by
  have h3 := Nat.div_lt_of_lt_mul (m := d + k - 1) (n := k) (k := 10) (by omega)
  omega
theorem eucl_le : ∀ (f x y M : Nat), x ≤ M → y ≤ M → eucl f x y ≤ M
  | 0, x, y, M, h, _ => h
  | f + 1, x, y, M, h, h2 => by
    simp only [eucl]
    split
    · exact h
    · exact eucl_le f y (x % y) M h2 (Nat.le_trans (Nat.mod_le _ _) h)
set_option maxHeartbeats 4000000 in
set_option maxRecDepth 100000 in
theorem c_X6_add (l : Launch) (G : mvG) (rr : Nat → Nat) (ro : Nat) (fi : Nat) (L : Nat → Nat) (Nn : Nat → Nat) (len : Nat) (sk : Nat) (att : Nat) (ts1 : Nat) (tk : Nat) (nb1 : Nat) (x : Nat) (hlen : len ≤ 100) (hx : x < 65536) : KQ l yX6_add cX6_add 2 (some .boolean) (0, 0) G [.ref (rr 0), .int (nI x)] [gRead G rr ro fi (nF L) (nF Nn) (nI len) (nI sk) (nI att) (nI ts1) (nI tk) (nI nb1)] (fun (zz : Nat × (Nat → Nat) × Nat) => some (.int (nI zz.1))) (fun (zz : Nat × (Nat → Nat) × Nat) => (len < 100 ∧ zz.1 = 1 ∧ zz.2.1 = va_up L len x ∧ zz.2.2 = len + 1) ∨ (len = 100 ∧ zz.1 = 0 ∧ zz.2.1 = L ∧ zz.2.2 = len)) (fun (zz : Nat × (Nat → Nat) × Nat) => [gRead G rr ro fi (nF zz.2.1) (nF Nn) (nI zz.2.2) (nI sk) (nI att) (nI ts1) (nI tk) (nI nb1)]) := by
  refine KQ.mk (by decide +kernel) (fun _ _ => rfl) [some (.ref (rr 0)), some (.int (nI x))] (Nat.le_of_ble_eq_true rfl) rfl (fun C X Y hC => ?_)
  subst hC
  refine V_aload_n X dX6_add_0 rfl ?_
  refine V_get X fl_X6_33 0 0 rfl rfl rfl dX6_add_1 ?_
  refine V_if_ltN X dX6_add_4 19 (by decide) (by omega) ?_
  refine V_aload_n X dX6_add_7 rfl ?_
  refine V_get X fl_X6_33 0 0 rfl rfl rfl dX6_add_8 ?_
  refine V_aload_n X dX6_add_11 rfl ?_
  refine V_get X fl_X6_9 0 0 rfl rfl rfl dX6_add_12 ?_
  refine V_alen X (t0 := 2) 0 1 (nI 100) rfl rfl rfl rfl dX6_add_15 ?_
  refine V_icmp_ltN X 21 dX6_add_16 (by decide) (by omega) (by decide) (fun c_2 => ?_) (fun c_2 => ?_)
  · refine V_aload_n X dX6_add_21 rfl ?_
    refine V_get X fl_X6_9 0 0 rfl rfl rfl dX6_add_22 ?_
    refine V_aload_n X dX6_add_25 rfl ?_
    refine V_get X fl_X6_33 0 0 rfl rfl rfl dX6_add_26 ?_
    refine V_iload_n X dX6_add_29 rfl ?_
    refine V_castN X 0 1 rfl rfl (by omega) (by decide) (by omega) dX6_add_30 ?_
    show V C 0 0 [gRead G rr ro fi (nF (va_up L len x)) (nF Nn) (nI len) (nI sk) (nI att) (nI ts1) (nI tk) (nI nb1)] 31 [some (.ref (rr 0)), some (.int (nI x))] []
    refine V_aload_n X dX6_add_31 rfl ?_
    refine V_dup X dX6_add_32 rfl ?_
    refine V_get X fl_X6_33 0 0 rfl rfl rfl dX6_add_33 ?_
    refine V_iconst X (nI 1) dX6_add_36 (by decide) ?_
    refine V_iaddN X dX6_add_37 ?_
    refine V_put X fl_X6_33 0 0 rfl rfl rfl rfl (Nat.le_of_ble_eq_true rfl) dX6_add_38 ?_
    show V C 0 0 [gRead G rr ro fi (nF (va_up L len x)) (nF Nn) (nI (len + 1)) (nI sk) (nI att) (nI ts1) (nI tk) (nI nb1)] 41 [some (.ref (rr 0)), some (.int (nI x))] []
    refine V_iconst X (nI 1) dX6_add_41 (by decide) ?_
    exact V_iret X Y ⟨1, va_up L len x, len + 1⟩ (show (len < 100 ∧ 1 = 1 ∧ (va_up L len x) = va_up L len x ∧ (len + 1) = len + 1) ∨ (len = 100 ∧ 1 = 0 ∧ (va_up L len x) = L ∧ (len + 1) = len) from (by first | exact Or.inl ⟨by omega, rfl, rfl, rfl⟩ | exact Or.inr ⟨by omega, rfl, rfl, rfl⟩)) rfl rfl rfl dX6_add_42
  · refine V_iconst X (nI 0) dX6_add_19 (by decide) ?_
    exact V_iret X Y ⟨0, L, len⟩ (show (len < 100 ∧ 0 = 1 ∧ L = va_up L len x ∧ len = len + 1) ∨ (len = 100 ∧ 0 = 0 ∧ L = L ∧ len = len) from (by first | exact Or.inl ⟨by omega, rfl, rfl, rfl⟩ | exact Or.inr ⟨by omega, rfl, rfl, rfl⟩)) rfl rfl rfl dX6_add_20
set_option maxHeartbeats 4000000 in
set_option maxRecDepth 100000 in
theorem c_X11_type (l : Launch) (G : mvG) (a : Nat → Nat) (im : Nat → Nat → Nat) (kd : Nat → Nat) (pa : Nat) (fa : Nat) (b : Nat → Nat) (c : Nat → Nat) (kk : Nat → Nat) (ts : Nat → Nat) (bt : Nat → Int) (sp : Nat → Int) (qu : Nat → Nat) (bs : Int) (tr : Nat) (rr : Nat → Nat) (ro : Nat) (fi : Nat) (L : Nat → Nat) (Nn : Nat → Nat) (len : Nat) (sk : Nat) (att : Nat) (ts1 : Nat) (tk : Nat) (nb1 : Nat) (x : Int) (hlen : len ≤ 100) (hx : -2147483648 ≤ x ∧ x < 2147483648) : KQ l yX11_type cX11_type 2 (some .int) (1, 21) G [.ref (a 0), .int (iI x)] [gMoot G a (fun j => im j 0) kd (rr 0) (b 0) (c 0) pa fa (nF kk) (nF ts) (sF bt) (sF sp) (nF qu) (iI bs) (lN tr), gRead G rr ro fi (nF L) (nF Nn) (nI len) (nI sk) (nI att) (nI ts1) (nI tk) (nI nb1)] (fun (zz : Int × (Nat → Nat) × Nat) => some (.int (iI zz.1))) (fun (zz : Int × (Nat → Nat) × Nat) => (zz.1, zz.2.1, zz.2.2) = spType L len x) (fun (zz : Int × (Nat → Nat) × Nat) => [gMoot G a (fun j => im j 0) kd (rr 0) (b 0) (c 0) pa fa (nF kk) (nF ts) (sF bt) (sF sp) (nF qu) (iI bs) (lN tr), gRead G rr ro fi (nF zz.2.1) (nF Nn) (nI zz.2.2) (nI sk) (nI att) (nI ts1) (nI tk) (nI nb1)]) := by
  refine KQ.mk (by decide +kernel) (fun _ _ => rfl) [some (.ref (a 0)), some (.int (iI x))] (Nat.le_of_ble_eq_true rfl) rfl (fun C X Y hC => ?_)
  subst hC
  refine V_iload_n X dX11_type_0 rfl ?_
  refine V_if_ltI (i := x) X 11 dX11_type_1 (by decide) (iI_toInt (by omega) (by omega)) (fun c_1 => ?_) (fun c_1 => ?_)
  · refine V_iconst X (-1) dX11_type_11 (by decide) ?_
    exact V_iret X Y ⟨-1, L, len⟩ (show ((-1), L, len) = spType L len x from (by simp only [spType]; (repeat (first | rw [if_pos (by omega)] | rw [if_neg (by omega)])) <;> rfl)) (mv_ri (by rfl)) rfl rfl dX11_type_12
  · refine V_iload_n X dX11_type_4 rfl ?_
    refine V_sipush X (nI 255) dX11_type_5 (by decide) ?_
    refine V_icmp_leI (i := x) (j := 255) X 13 dX11_type_8 (by decide) (iI_toInt (by omega) (by omega)) (nI_toInt (by decide)) (fun c_2 => ?_) (fun c_2 => ?_)
    · refine V_loc (y := (nI x.toNat)) 1 rfl (mv_sn (by omega)) ?_
      refine V_aload_n X dX11_type_13 rfl ?_
      refine V_get X fl_X11_12 0 0 rfl rfl rfl dX11_type_14 ?_
      refine V_iload_n X dX11_type_17 rfl ?_
      refine V_i2c X (nI x.toNat) dX11_type_18 (mv_i2c (by omega)) ?_
      refine V_callV (rest := []) X (c_X6_add (Cl C) G rr ro fi L Nn len sk att ts1 tk nb1 x.toNat (by first | assumption | omega) (by first | assumption | omega)) mi_X6_add kw_2_28 kw_2_29 kw_2_30 dX11_type_19 [1] rfl (by decide) 1 0 rfl rfl rfl rfl rfl rfl (by decide) (Nat.le_of_ble_eq_true rfl) ⟨rfl, rfl⟩ (fun u_ hu_6 => ?_)
      obtain ⟨b_3, L_4, l_5⟩ := u_
      have hu_6 : (len < 100 ∧ b_3 = 1 ∧ L_4 = va_up L len x.toNat ∧ l_5 = len + 1) ∨ (len = 100 ∧ b_3 = 0 ∧ L_4 = L ∧ l_5 = len) := hu_6
      show V C 0 0 [gMoot G a (fun j => im j 0) kd (rr 0) (b 0) (c 0) pa fa (nF kk) (nF ts) (sF bt) (sF sp) (nF qu) (iI bs) (lN tr), gRead G rr ro fi (nF L_4) (nF Nn) (nI l_5) (nI sk) (nI att) (nI ts1) (nI tk) (nI nb1)] 22 [some (.ref (a 0)), some (.int (nI x.toNat))] [.int (nI b_3)]
      have hw := hu_6
      refine V_if_eqN X 35 dX11_type_22 (by decide) (by omega) (fun c_7 => ?_) (fun c_7 => ?_)
      · refine V_bipush X (-3) dX11_type_35 (by decide) ?_
        exact V_iret X Y ⟨-3, L_4, l_5⟩ (show ((-3), L_4, l_5) = spType L len x from (by simp only [spType]; rcases hw with ⟨h1, h2, h3, h4⟩ | ⟨h1, h2, h3, h4⟩ <;> first | omega | (subst h3 h4; rw [if_pos (by omega), if_pos (by omega)]; rfl) | (subst h3 h4; rw [if_pos (by omega), if_neg (by omega)]))) (mv_ri (by rfl)) rfl rfl dX11_type_37
      · refine V_aload_n X dX11_type_25 rfl ?_
        refine V_get X fl_X11_12 0 0 rfl rfl rfl dX11_type_26 ?_
        refine V_get X fl_X11_91 1 0 rfl rfl rfl dX11_type_29 ?_
        refine V_goto X 37 dX11_type_32 (by decide) ?_
        exact V_iret X Y ⟨((l_5 : Nat) : Int), L_4, l_5⟩ (show (((l_5 : Nat) : Int), L_4, l_5) = spType L len x from (by simp only [spType]; rcases hw with ⟨h1, h2, h3, h4⟩ | ⟨h1, h2, h3, h4⟩ <;> first | omega | (subst h3 h4; rw [if_pos (by omega), if_pos (by omega)]; rfl) | (subst h3 h4; rw [if_pos (by omega), if_neg (by omega)]))) (mv_ri (by rfl)) rfl rfl dX11_type_37
    · refine V_iconst X (-1) dX11_type_11 (by decide) ?_
      exact V_iret X Y ⟨-1, L, len⟩ (show ((-1), L, len) = spType L len x from (by simp only [spType]; (repeat (first | rw [if_pos (by omega)] | rw [if_neg (by omega)])) <;> rfl)) (mv_ri (by rfl)) rfl rfl dX11_type_12
set_option maxHeartbeats 4000000 in
set_option maxRecDepth 100000 in
theorem c_X11_clear (l : Launch) (G : mvG) (a : Nat → Nat) (im : Nat → Nat → Nat) (kd : Nat → Nat) (pa : Nat) (fa : Nat) (b : Nat → Nat) (c : Nat → Nat) (kk : Nat → Nat) (ts : Nat → Nat) (bt : Nat → Int) (sp : Nat → Int) (qu : Nat → Nat) (bs : Int) (tr : Nat) (rr : Nat → Nat) (ro : Nat) (fi : Nat) (L : Nat → Nat) (Nn : Nat → Nat) (len : Nat) (sk : Nat) (att : Nat) (ts1 : Nat) (tk : Nat) (nb1 : Nat) : KQ l yX11_clear cX11_clear 2 (some .int) (0, 0) G [.ref (a 0)] [gMoot G a (fun j => im j 0) kd (rr 0) (b 0) (c 0) pa fa (nF kk) (nF ts) (sF bt) (sF sp) (nF qu) (iI bs) (lN tr), gRead G rr ro fi (nF L) (nF Nn) (nI len) (nI sk) (nI att) (nI ts1) (nI tk) (nI nb1)] (fun (_ : Unit) => some (.int (nI len))) (fun (_ : Unit) => True) (fun (_ : Unit) => [gMoot G a (fun j => im j 0) kd (rr 0) (b 0) (c 0) pa fa (nF kk) (nF ts) (sF bt) (sF sp) (nF qu) (iI bs) (lN tr), gRead G rr ro fi (nF L) (nF Nn) (nI 0) (nI sk) (nI att) (nI ts1) (nI tk) (nI nb1)]) := by
  refine KQ.mk (by decide +kernel) (fun _ _ => rfl) [some (.ref (a 0)), none] (Nat.le_of_ble_eq_true rfl) rfl (fun C X Y hC => ?_)
  subst hC
  refine V_aload_n X dX11_clear_0 rfl ?_
  refine V_get X fl_X11_12 0 0 rfl rfl rfl dX11_clear_1 ?_
  refine V_get X fl_X11_91 1 0 rfl rfl rfl dX11_clear_4 ?_
  refine V_istore_n X dX11_clear_7 (by decide) rfl ?_
  refine V_aload_n X dX11_clear_8 rfl ?_
  refine V_get X fl_X11_12 0 0 rfl rfl rfl dX11_clear_9 ?_
  refine V_iconst X (nI 0) dX11_clear_12 (by decide) ?_
  refine V_put X fl_X11_91 1 0 rfl rfl rfl rfl (Nat.le_of_ble_eq_true rfl) dX11_clear_13 ?_
  show V C 0 0 [gMoot G a (fun j => im j 0) kd (rr 0) (b 0) (c 0) pa fa (nF kk) (nF ts) (sF bt) (sF sp) (nF qu) (iI bs) (lN tr), gRead G rr ro fi (nF L) (nF Nn) (nI 0) (nI sk) (nI att) (nI ts1) (nI tk) (nI nb1)] 16 [some (.ref (a 0)), some (.int (nI len))] []
  refine V_iload_n X dX11_clear_16 rfl ?_
  exact V_iret X Y () trivial rfl rfl rfl dX11_clear_17
set_option maxHeartbeats 4000000 in
set_option maxRecDepth 100000 in
theorem c_X11_field (l : Launch) (G : mvG) (a : Nat → Nat) (im : Nat → Nat → Nat) (kd : Nat → Nat) (b : Nat → Nat) (c : Nat → Nat) (kk : Nat → Nat) (ts : Nat → Nat) (bt : Nat → Int) (sp : Nat → Int) (qu : Nat → Nat) (bs : Int) (tr : Nat) (rr : Nat → Nat) (L : Nat → Nat) (Nn : Nat → Nat) (len : Nat) (sk : Nat) (att : Nat) (ts1 : Nat) (tk : Nat) (nb1 : Nat) (g : Nat → Nat) (w1 : Nat → Nat) (v1 : Nat → Nat) (n1 : Nat) (k1 : Nat) (h : Nat → Nat) (h1 : Nat → Nat) (d1 : Nat → Nat) (t1 : Nat → Int32) (s1 : Nat) (u1 : Nat) (p1 : Nat) (w : Nat → Nat) (v : Nat → Nat) (n : Nat) (k : Nat) (wh : Nat → Nat) (de : Nat → Nat) (t : Nat → Int32) (sv : Nat) (vt : Nat) (ps : Nat) (pp : Nat → Nat) (pr : Nat → Nat) (q : Nat) (kn : Nat) (f : Nat → Nat) (el : Nat → Nat) (fd : Nat → Nat) (m : Nat) (hlen : len ≤ 100) (hL : ∀ j, L j < 256) (hnb : nb1 ≤ 100) (hwb : ∀ j, w1 j ≤ 4 ∧ v1 j ≤ 9) : KQ l yX11_field cX11_field 2 (some .int) (6, 127) G [.ref (a 0)] [gMoot G a (fun j => im j 0) kd (rr 0) (b 0) (c 0) (pp 0) (f 0) (nF kk) (nF ts) (sF bt) (sF sp) (nF qu) (iI bs) (lN tr), gRead G rr (g 0) (h 0) (nF L) (nF Nn) (nI len) (nI sk) (nI att) (nI ts1) (nI tk) (nI nb1), gRoll G g (nF w1) (nF v1) (nI n1) (nI k1), gMo G h (nF h1) (nF d1) t1 (nI s1) (nI u1) (nI p1), gRoll G b (nF w) (nF v) (nI n) (nI k), gMo G c (nF wh) (nF de) t (nI sv) (nI vt) (nI ps), gPast G pp pr (nI q) (nI kn), gFind G f (nF el) (nF fd) (nI m)] (fun (zz : Int × (Nat → Nat) × Nat × Nat × Nat × Nat × Nat × Nat × (Nat → Nat) × (Nat → Nat) × Nat × Nat × (Nat → Nat) × (Nat → Nat) × (Nat → Int32) × Nat × Nat × Nat × (Nat → Nat) × (Nat → Nat) × Nat × Nat × (Nat → Nat) × (Nat → Nat) × (Nat → Int32) × Nat × Nat × Nat × Nat × Nat × (Nat → Nat)) => some (.int (iI zz.1))) (fun (zz : Int × (Nat → Nat) × Nat × Nat × Nat × Nat × Nat × Nat × (Nat → Nat) × (Nat → Nat) × Nat × Nat × (Nat → Nat) × (Nat → Nat) × (Nat → Int32) × Nat × Nat × Nat × (Nat → Nat) × (Nat → Nat) × Nat × Nat × (Nat → Nat) × (Nat → Nat) × (Nat → Int32) × Nat × Nat × Nat × Nat × Nat × (Nat → Nat)) => ((∃ itx sx, prs L len 101 0 (w1, v1, 0, 1, 0, fun _ => 0, fun _ => 0) 0 = .inr (itx, (zz.2.2.2.2.2.2.2.2.2.2.2.2.2.2.2.2.2.2.1, zz.2.2.2.2.2.2.2.2.2.2.2.2.2.2.2.2.2.2.2.1, zz.2.2.2.2.2.2.2.2.2.2.2.2.2.2.2.2.2.2.2.2.1, zz.2.2.2.2.2.2.2.2.2.2.2.2.2.2.2.2.2.2.2.2.2.1, sx, zz.2.2.2.2.2.2.2.2.2.2.2.2.2.2.2.2.2.2.2.2.2.2.1, zz.2.2.2.2.2.2.2.2.2.2.2.2.2.2.2.2.2.2.2.2.2.2.2.1)) ∧ zz.1 = ((itx : Nat) : Int) ∧ zz.2.2.2.2.2.2.2.2.2.2.2.2.2.2.2.2.2.2.2.2.2.2.2.2.1 = (fun _ => (-9)) ∧ zz.2.2.2.2.2.2.2.2.2.2.2.2.2.2.2.2.2.2.2.2.2.2.2.2.2.1 = 0 ∧ zz.2.2.2.2.2.2.2.2.2.2.2.2.2.2.2.2.2.2.2.2.2.2.2.2.2.2.1 = 0 ∧ zz.2.2.2.2.2.2.2.2.2.2.2.2.2.2.2.2.2.2.2.2.2.2.2.2.2.2.2.1 = 0 ∧ zz.2.2.2.2.2.2.2.2.2.2.2.2.2.2.2.2.2.2.2.2.2.2.2.2.2.2.2.2.1 = 0 ∧ zz.2.2.2.2.2.2.2.2.2.2.2.2.2.2.2.2.2.2.2.2.2.2.2.2.2.2.2.2.2.1 = 0 ∧ (∀ j, zz.2.2.2.2.2.2.2.2.2.2.2.2.2.2.2.2.2.2.2.2.2.2.2.2.2.2.2.2.2.2 j = 0) ∧ zz.2.2.1 = 0) ∨ (∃ qx : Nat, prs L len 101 0 (w1, v1, 0, 1, 0, fun _ => 0, fun _ => 0) 0 = .inl qx ∧ zz.1 = -10 - (qx : Int) ∧ zz.2.2.2.2.2.2.2.2.2.2.2.2.2.2.2.2.2.2.1 = w ∧ zz.2.2.2.2.2.2.2.2.2.2.2.2.2.2.2.2.2.2.2.1 = v ∧ zz.2.2.2.2.2.2.2.2.2.2.2.2.2.2.2.2.2.2.2.2.1 = n ∧ zz.2.2.2.2.2.2.2.2.2.2.2.2.2.2.2.2.2.2.2.2.2.1 = k ∧ zz.2.2.2.2.2.2.2.2.2.2.2.2.2.2.2.2.2.2.2.2.2.2.1 = wh ∧ zz.2.2.2.2.2.2.2.2.2.2.2.2.2.2.2.2.2.2.2.2.2.2.2.1 = de ∧ zz.2.2.2.2.2.2.2.2.2.2.2.2.2.2.2.2.2.2.2.2.2.2.2.2.1 = t ∧ zz.2.2.2.2.2.2.2.2.2.2.2.2.2.2.2.2.2.2.2.2.2.2.2.2.2.1 = sv ∧ zz.2.2.2.2.2.2.2.2.2.2.2.2.2.2.2.2.2.2.2.2.2.2.2.2.2.2.1 = vt ∧ zz.2.2.2.2.2.2.2.2.2.2.2.2.2.2.2.2.2.2.2.2.2.2.2.2.2.2.2.1 = ps ∧ zz.2.2.2.2.2.2.2.2.2.2.2.2.2.2.2.2.2.2.2.2.2.2.2.2.2.2.2.2.1 = kn ∧ zz.2.2.2.2.2.2.2.2.2.2.2.2.2.2.2.2.2.2.2.2.2.2.2.2.2.2.2.2.2.1 = m ∧ zz.2.2.2.2.2.2.2.2.2.2.2.2.2.2.2.2.2.2.2.2.2.2.2.2.2.2.2.2.2.2 = kk ∧ zz.2.2.1 = len)) ∧ zz.2.2.2.2.2.2.2.1 ≤ 100 ∧ (∀ j, zz.2.2.2.2.2.2.2.2.1 j ≤ 4 ∧ zz.2.2.2.2.2.2.2.2.2.1 j ≤ 9)) (fun (zz : Int × (Nat → Nat) × Nat × Nat × Nat × Nat × Nat × Nat × (Nat → Nat) × (Nat → Nat) × Nat × Nat × (Nat → Nat) × (Nat → Nat) × (Nat → Int32) × Nat × Nat × Nat × (Nat → Nat) × (Nat → Nat) × Nat × Nat × (Nat → Nat) × (Nat → Nat) × (Nat → Int32) × Nat × Nat × Nat × Nat × Nat × (Nat → Nat)) => [gMoot G a (fun j => im j 0) kd (rr 0) (b 0) (c 0) (pp 0) (f 0) (nF zz.2.2.2.2.2.2.2.2.2.2.2.2.2.2.2.2.2.2.2.2.2.2.2.2.2.2.2.2.2.2) (nF ts) (sF bt) (sF sp) (nF qu) (iI bs) (lN tr), gRead G rr (g 0) (h 0) (nF L) (nF zz.2.1) (nI zz.2.2.1) (nI zz.2.2.2.1) (nI zz.2.2.2.2.1) (nI zz.2.2.2.2.2.1) (nI zz.2.2.2.2.2.2.1) (nI zz.2.2.2.2.2.2.2.1), gRoll G g (nF zz.2.2.2.2.2.2.2.2.1) (nF zz.2.2.2.2.2.2.2.2.2.1) (nI zz.2.2.2.2.2.2.2.2.2.2.1) (nI zz.2.2.2.2.2.2.2.2.2.2.2.1), gMo G h (nF zz.2.2.2.2.2.2.2.2.2.2.2.2.1) (nF zz.2.2.2.2.2.2.2.2.2.2.2.2.2.1) zz.2.2.2.2.2.2.2.2.2.2.2.2.2.2.1 (nI zz.2.2.2.2.2.2.2.2.2.2.2.2.2.2.2.1) (nI zz.2.2.2.2.2.2.2.2.2.2.2.2.2.2.2.2.1) (nI zz.2.2.2.2.2.2.2.2.2.2.2.2.2.2.2.2.2.1), gRoll G b (nF zz.2.2.2.2.2.2.2.2.2.2.2.2.2.2.2.2.2.2.1) (nF zz.2.2.2.2.2.2.2.2.2.2.2.2.2.2.2.2.2.2.2.1) (nI zz.2.2.2.2.2.2.2.2.2.2.2.2.2.2.2.2.2.2.2.2.1) (nI zz.2.2.2.2.2.2.2.2.2.2.2.2.2.2.2.2.2.2.2.2.2.1), gMo G c (nF zz.2.2.2.2.2.2.2.2.2.2.2.2.2.2.2.2.2.2.2.2.2.2.1) (nF zz.2.2.2.2.2.2.2.2.2.2.2.2.2.2.2.2.2.2.2.2.2.2.2.1) zz.2.2.2.2.2.2.2.2.2.2.2.2.2.2.2.2.2.2.2.2.2.2.2.2.1 (nI zz.2.2.2.2.2.2.2.2.2.2.2.2.2.2.2.2.2.2.2.2.2.2.2.2.2.1) (nI zz.2.2.2.2.2.2.2.2.2.2.2.2.2.2.2.2.2.2.2.2.2.2.2.2.2.2.1) (nI zz.2.2.2.2.2.2.2.2.2.2.2.2.2.2.2.2.2.2.2.2.2.2.2.2.2.2.2.1), gPast G pp pr (nI q) (nI zz.2.2.2.2.2.2.2.2.2.2.2.2.2.2.2.2.2.2.2.2.2.2.2.2.2.2.2.2.1), gFind G f (nF el) (nF fd) (nI zz.2.2.2.2.2.2.2.2.2.2.2.2.2.2.2.2.2.2.2.2.2.2.2.2.2.2.2.2.2.1)]) := by
  refine KQ.mk (by decide +kernel) (fun _ _ => rfl) [some (.ref (a 0)), none] (Nat.le_of_ble_eq_true rfl) rfl (fun C X Y hC => ?_)
  subst hC
  refine V_aload_n X dX11_field_0 rfl ?_
  refine V_get X fl_X11_12 0 0 rfl rfl rfl dX11_field_1 ?_
  refine V_callV (rest := []) X (c_X6_readAll (Cl C) G rr L Nn len sk att ts1 tk nb1 g w1 v1 n1 k1 h h1 d1 t1 s1 u1 p1 (by first | assumption | omega) (by first | assumption | omega) (by first | assumption | omega) (by first | assumption | omega)) mi_X6_readAll kw_2_40 kw_2_41 kw_2_42 dX11_field_4 [1, 2, 3] rfl (by decide) 1 0 rfl rfl rfl rfl rfl rfl (by decide) (Nat.le_of_ble_eq_true rfl) ⟨rfl, rfl⟩ (fun u_ hu_14 => ?_)
  obtain ⟨r_1, N_2, p_3, q_4, t_5, x_6, w_7, v_8, n_9, k_10, s_11, h_12, d_13⟩ := u_
  have hu_14 : ((∃ itx : Nat, prs L len 101 0 (w1, v1, 0, 1, 0, fun _ => 0, fun _ => 0) 0 = .inr (itx, (w_7, v_8, n_9, k_10, s_11, h_12, d_13)) ∧ r_1 = (itx : Int) ∧ itx ≤ 100) ∨ (∃ qx : Nat, prs L len 101 0 (w1, v1, 0, 1, 0, fun _ => 0, fun _ => 0) 0 = .inl qx ∧ r_1 = -10 - (qx : Int) ∧ qx ≤ 100)) ∧ x_6 ≤ 100 ∧ (∀ j, w_7 j ≤ 4 ∧ v_8 j ≤ 9) := hu_14
  show V C 0 0 [gMoot G a (fun j => im j 0) kd (rr 0) (b 0) (c 0) (pp 0) (f 0) (nF kk) (nF ts) (sF bt) (sF sp) (nF qu) (iI bs) (lN tr), gRead G rr (g 0) (h 0) (nF L) (nF N_2) (nI len) (nI s_11) (nI p_3) (nI q_4) (nI t_5) (nI x_6), gRoll G g (nF w_7) (nF v_8) (nI n_9) (nI k_10), gMo G h (nF h_12) (nF d_13) (fun _ => (-9)) (nI 0) (nI 0) (nI 0), gRoll G b (nF w) (nF v) (nI n) (nI k), gMo G c (nF wh) (nF de) t (nI sv) (nI vt) (nI ps), gPast G pp pr (nI q) (nI kn), gFind G f (nF el) (nF fd) (nI m)] 7 [some (.ref (a 0)), none] [.int (iI r_1)]
  have hra := hu_14
  have hrx := hra.2
  replace hra := hra.1
  refine V_istore_n X dX11_field_7 (by decide) rfl ?_
  refine V_iload_n X dX11_field_8 rfl ?_
  refine V_if_geI (i := r_1) X 14 dX11_field_9 (by decide) (iI_toInt (by omega) (by omega)) (fun c_15 => ?_) (fun c_15 => ?_)
  · refine V_aload_n X dX11_field_14 rfl ?_
    refine V_get X fl_X11_19 0 0 rfl rfl rfl dX11_field_15 ?_
    refine V_aload_n X dX11_field_18 rfl ?_
    refine V_get X fl_X11_12 0 0 rfl rfl rfl dX11_field_19 ?_
    refine V_get X fl_X11_99 1 0 rfl rfl rfl dX11_field_22 ?_
    refine V_callV (rest := []) X (c_X7_copyFrom (Cl C) G b w v n k g w_7 v_8 n_9 k_10) mi_X7_copyFrom kw_2_117 kw_2_118 kw_2_119 dX11_field_25 [4, 2] rfl (by decide) 4 0 rfl rfl rfl rfl rfl rfl (by decide) (Nat.le_of_ble_eq_true rfl) ⟨rfl, rfl⟩ (fun _ _ => ?_)
    show V C 0 0 [gMoot G a (fun j => im j 0) kd (rr 0) (b 0) (c 0) (pp 0) (f 0) (nF kk) (nF ts) (sF bt) (sF sp) (nF qu) (iI bs) (lN tr), gRead G rr (g 0) (h 0) (nF L) (nF N_2) (nI len) (nI s_11) (nI p_3) (nI q_4) (nI t_5) (nI x_6), gRoll G g (nF w_7) (nF v_8) (nI n_9) (nI k_10), gMo G h (nF h_12) (nF d_13) (fun _ => (-9)) (nI 0) (nI 0) (nI 0), gRoll G b (nF w_7) (nF v_8) (nI n_9) (nI k_10), gMo G c (nF wh) (nF de) t (nI sv) (nI vt) (nI ps), gPast G pp pr (nI q) (nI kn), gFind G f (nF el) (nF fd) (nI m)] 28 [some (.ref (a 0)), some (.int (iI r_1))] []
    refine V_aload_n X dX11_field_28 rfl ?_
    refine V_get X fl_X11_26 0 0 rfl rfl rfl dX11_field_29 ?_
    refine V_aload_n X dX11_field_32 rfl ?_
    refine V_get X fl_X11_12 0 0 rfl rfl rfl dX11_field_33 ?_
    refine V_get X fl_X11_104 1 0 rfl rfl rfl dX11_field_36 ?_
    refine V_callV (rest := []) X (c_X3_copyFrom (Cl C) G c wh de t sv vt ps h h_12 d_13 (fun _ => (-9)) 0 0 0) mi_X3_copyFrom kw_2_124 kw_2_125 kw_2_126 dX11_field_39 [5, 3] rfl (by decide) 5 0 rfl rfl rfl rfl rfl rfl (by decide) (Nat.le_of_ble_eq_true rfl) ⟨rfl, rfl⟩ (fun _ _ => ?_)
    show V C 0 0 [gMoot G a (fun j => im j 0) kd (rr 0) (b 0) (c 0) (pp 0) (f 0) (nF kk) (nF ts) (sF bt) (sF sp) (nF qu) (iI bs) (lN tr), gRead G rr (g 0) (h 0) (nF L) (nF N_2) (nI len) (nI s_11) (nI p_3) (nI q_4) (nI t_5) (nI x_6), gRoll G g (nF w_7) (nF v_8) (nI n_9) (nI k_10), gMo G h (nF h_12) (nF d_13) (fun _ => (-9)) (nI 0) (nI 0) (nI 0), gRoll G b (nF w_7) (nF v_8) (nI n_9) (nI k_10), gMo G c (nF h_12) (nF d_13) (fun _ => (-9)) (nI 0) (nI 0) (nI 0), gPast G pp pr (nI q) (nI kn), gFind G f (nF el) (nF fd) (nI m)] 42 [some (.ref (a 0)), some (.int (iI r_1))] []
    refine V_aload_n X dX11_field_42 rfl ?_
    refine V_get X fl_X11_12 0 0 rfl rfl rfl dX11_field_43 ?_
    refine V_iconst X (nI 0) dX11_field_46 (by decide) ?_
    refine V_put X fl_X11_91 1 0 rfl rfl rfl rfl (Nat.le_of_ble_eq_true rfl) dX11_field_47 ?_
    show V C 0 0 [gMoot G a (fun j => im j 0) kd (rr 0) (b 0) (c 0) (pp 0) (f 0) (nF kk) (nF ts) (sF bt) (sF sp) (nF qu) (iI bs) (lN tr), gRead G rr (g 0) (h 0) (nF L) (nF N_2) (nI 0) (nI s_11) (nI p_3) (nI q_4) (nI t_5) (nI x_6), gRoll G g (nF w_7) (nF v_8) (nI n_9) (nI k_10), gMo G h (nF h_12) (nF d_13) (fun _ => (-9)) (nI 0) (nI 0) (nI 0), gRoll G b (nF w_7) (nF v_8) (nI n_9) (nI k_10), gMo G c (nF h_12) (nF d_13) (fun _ => (-9)) (nI 0) (nI 0) (nI 0), gPast G pp pr (nI q) (nI kn), gFind G f (nF el) (nF fd) (nI m)] 50 [some (.ref (a 0)), some (.int (iI r_1))] []
    refine V_aload_n X dX11_field_50 rfl ?_
    refine V_get X fl_X11_33 0 0 rfl rfl rfl dX11_field_51 ?_
    refine V_callV (rest := []) X (c_X5_lose (Cl C) G pp pr q kn) mi_X5_lose kw_2_129 kw_2_130 kw_2_131 dX11_field_54 [6] rfl (by decide) 6 0 rfl rfl rfl rfl rfl rfl (by decide) (Nat.le_of_ble_eq_true rfl) ⟨rfl, rfl⟩ (fun _ _ => ?_)
    show V C 0 0 [gMoot G a (fun j => im j 0) kd (rr 0) (b 0) (c 0) (pp 0) (f 0) (nF kk) (nF ts) (sF bt) (sF sp) (nF qu) (iI bs) (lN tr), gRead G rr (g 0) (h 0) (nF L) (nF N_2) (nI 0) (nI s_11) (nI p_3) (nI q_4) (nI t_5) (nI x_6), gRoll G g (nF w_7) (nF v_8) (nI n_9) (nI k_10), gMo G h (nF h_12) (nF d_13) (fun _ => (-9)) (nI 0) (nI 0) (nI 0), gRoll G b (nF w_7) (nF v_8) (nI n_9) (nI k_10), gMo G c (nF h_12) (nF d_13) (fun _ => (-9)) (nI 0) (nI 0) (nI 0), gPast G pp pr (nI q) (nI 0), gFind G f (nF el) (nF fd) (nI m)] 57 [some (.ref (a 0)), some (.int (iI r_1))] []
    refine V_aload_n X dX11_field_57 rfl ?_
    refine V_get X fl_X11_40 0 0 rfl rfl rfl dX11_field_58 ?_
    refine V_iconst X (nI 0) dX11_field_61 (by decide) ?_
    refine V_put X fl_X11_113 7 0 rfl rfl rfl rfl (Nat.le_of_ble_eq_true rfl) dX11_field_62 ?_
    show V C 0 0 [gMoot G a (fun j => im j 0) kd (rr 0) (b 0) (c 0) (pp 0) (f 0) (nF kk) (nF ts) (sF bt) (sF sp) (nF qu) (iI bs) (lN tr), gRead G rr (g 0) (h 0) (nF L) (nF N_2) (nI 0) (nI s_11) (nI p_3) (nI q_4) (nI t_5) (nI x_6), gRoll G g (nF w_7) (nF v_8) (nI n_9) (nI k_10), gMo G h (nF h_12) (nF d_13) (fun _ => (-9)) (nI 0) (nI 0) (nI 0), gRoll G b (nF w_7) (nF v_8) (nI n_9) (nI k_10), gMo G c (nF h_12) (nF d_13) (fun _ => (-9)) (nI 0) (nI 0) (nI 0), gPast G pp pr (nI q) (nI 0), gFind G f (nF el) (nF fd) (nI 0)] 65 [some (.ref (a 0)), some (.int (iI r_1))] []
    refine V_aload_n X dX11_field_65 rfl ?_
    refine V_callV (rest := []) X (c_X11_loseImages (Cl C) G a im kd (rr 0) (pp 0) (f 0) b c kk ts bt sp qu bs (lN tr)) mi_X11_loseImages kw_2_133 kw_2_135 kw_s_8 dX11_field_66 [0] rfl (by decide) 0 0 rfl rfl rfl rfl rfl rfl (by decide) (Nat.le_of_ble_eq_true rfl) ⟨rfl, rfl⟩ (fun _ _ => ?_)
    show V C 0 0 [gMoot G a (fun j => im j 0) kd (rr 0) (b 0) (c 0) (pp 0) (f 0) (nF (fun _ => 0)) (nF ts) (sF bt) (sF sp) (nF qu) (iI bs) (lN tr), gRead G rr (g 0) (h 0) (nF L) (nF N_2) (nI 0) (nI s_11) (nI p_3) (nI q_4) (nI t_5) (nI x_6), gRoll G g (nF w_7) (nF v_8) (nI n_9) (nI k_10), gMo G h (nF h_12) (nF d_13) (fun _ => (-9)) (nI 0) (nI 0) (nI 0), gRoll G b (nF w_7) (nF v_8) (nI n_9) (nI k_10), gMo G c (nF h_12) (nF d_13) (fun _ => (-9)) (nI 0) (nI 0) (nI 0), gPast G pp pr (nI q) (nI 0), gFind G f (nF el) (nF fd) (nI 0)] 69 [some (.ref (a 0)), some (.int (iI r_1))] []
    refine V_iload_n X dX11_field_69 rfl ?_
    exact V_iret X Y ⟨r_1, N_2, 0, s_11, p_3, q_4, t_5, x_6, w_7, v_8, n_9, k_10, h_12, d_13, (fun _ => (-9)), 0, 0, 0, w_7, v_8, n_9, k_10, h_12, d_13, (fun _ => (-9)), 0, 0, 0, 0, 0, fun _ => 0⟩ (show ((∃ itx sx, prs L len 101 0 (w1, v1, 0, 1, 0, fun _ => 0, fun _ => 0) 0 = .inr (itx, (w_7, v_8, n_9, k_10, sx, h_12, d_13)) ∧ r_1 = ((itx : Nat) : Int) ∧ (fun _ => (-9)) = (fun _ => (-9)) ∧ 0 = 0 ∧ 0 = 0 ∧ 0 = 0 ∧ 0 = 0 ∧ 0 = 0 ∧ (∀ j, (fun _ => 0) j = 0) ∧ 0 = 0) ∨ (∃ qx : Nat, prs L len 101 0 (w1, v1, 0, 1, 0, fun _ => 0, fun _ => 0) 0 = .inl qx ∧ r_1 = -10 - (qx : Int) ∧ w_7 = w ∧ v_8 = v ∧ n_9 = n ∧ k_10 = k ∧ h_12 = wh ∧ d_13 = de ∧ (fun _ => (-9)) = t ∧ 0 = sv ∧ 0 = vt ∧ 0 = ps ∧ 0 = kn ∧ 0 = m ∧ (fun _ => 0) = kk ∧ 0 = len)) ∧ x_6 ≤ 100 ∧ (∀ j, w_7 j ≤ 4 ∧ v_8 j ≤ 9) from (by rcases hra with ⟨itx, h1, h2, h3⟩ | ⟨qx, h1, h2, h3⟩; exact ⟨Or.inl ⟨itx, _, h1, h2, rfl, rfl, rfl, rfl, rfl, rfl, (fun _ => rfl), rfl⟩, hrx⟩; omega)) rfl rfl rfl dX11_field_70
  · refine V_iload_n X dX11_field_12 rfl ?_
    exact V_iret X Y ⟨r_1, N_2, len, s_11, p_3, q_4, t_5, x_6, w_7, v_8, n_9, k_10, h_12, d_13, fun _ => (-9), 0, 0, 0, w, v, n, k, wh, de, t, sv, vt, ps, kn, m, kk⟩ (show ((∃ itx sx, prs L len 101 0 (w1, v1, 0, 1, 0, fun _ => 0, fun _ => 0) 0 = .inr (itx, (w, v, n, k, sx, wh, de)) ∧ r_1 = ((itx : Nat) : Int) ∧ t = (fun _ => (-9)) ∧ sv = 0 ∧ vt = 0 ∧ ps = 0 ∧ kn = 0 ∧ m = 0 ∧ (∀ j, kk j = 0) ∧ len = 0) ∨ (∃ qx : Nat, prs L len 101 0 (w1, v1, 0, 1, 0, fun _ => 0, fun _ => 0) 0 = .inl qx ∧ r_1 = -10 - (qx : Int) ∧ w = w ∧ v = v ∧ n = n ∧ k = k ∧ wh = wh ∧ de = de ∧ t = t ∧ sv = sv ∧ vt = vt ∧ ps = ps ∧ kn = kn ∧ m = m ∧ kk = kk ∧ len = len)) ∧ x_6 ≤ 100 ∧ (∀ j, w_7 j ≤ 4 ∧ v_8 j ≤ 9) from (by rcases hra with ⟨itx, h1, h2, h3⟩ | ⟨qx, h1, h2, h3⟩; omega; exact ⟨Or.inr ⟨qx, h1, h2, rfl, rfl, rfl, rfl, rfl, rfl, rfl, rfl, rfl, rfl, rfl, rfl, rfl, rfl⟩, hrx⟩)) rfl rfl rfl dX11_field_13
set_option maxHeartbeats 4000000 in
set_option maxRecDepth 100000 in
theorem c_X11_cell (l : Launch) (G : mvG) (a : Nat → Nat) (im : Nat → Nat → Nat) (kd : Nat → Nat) (re : Nat) (pa : Nat) (fa : Nat) (b : Nat → Nat) (c : Nat → Nat) (kk : Nat → Nat) (ts : Nat → Nat) (bt : Nat → Int) (sp : Nat → Int) (qu : Nat → Nat) (bs : Int) (tr : Nat) (w : Nat → Nat) (v : Nat → Nat) (n : Nat) (k : Nat) (wh : Nat → Nat) (de : Nat → Nat) (t : Nat → Int32) (sv : Nat) (vt : Nat) (ps : Nat) (x : Int) (y : Int) (hn : n ≤ 5) (hwh : ∀ j, wh j < 36) (hde : ∀ j, de j ≤ 9) (hk : 1 ≤ k ∧ k ≤ 9) (hx : -2147483648 ≤ x ∧ x < 2147483648) (hy : -2147483648 ≤ y ∧ y < 2147483648) : KQ l yX11_cell cX11_cell 4 (some .int) (3, 61) G [.ref (a 0), .int (iI x), .int (iI y)] [gMoot G a (fun j => im j 0) kd re (b 0) (c 0) pa fa (nF kk) (nF ts) (sF bt) (sF sp) (nF qu) (iI bs) (lN tr), gRoll G b (nF w) (nF v) (nI n) (nI k), gMo G c (nF wh) (nF de) t (nI sv) (nI vt) (nI ps)] (fun (_ : Unit) => some (.int (spCell wh de t n k x y))) (fun (_ : Unit) => True) (fun (_ : Unit) => [gMoot G a (fun j => im j 0) kd re (b 0) (c 0) pa fa (nF kk) (nF ts) (sF bt) (sF sp) (nF qu) (iI bs) (lN tr), gRoll G b (nF w) (nF v) (nI n) (nI k), gMo G c (nF wh) (nF de) t (nI sv) (nI vt) (nI ps)]) := by
  refine KQ.mk (by decide +kernel) (fun _ _ => rfl) [some (.ref (a 0)), some (.int (iI x)), some (.int (iI y)), none] (Nat.le_of_ble_eq_true rfl) rfl (fun C X Y hC => ?_)
  subst hC
  refine V_iload_n X dX11_cell_0 rfl ?_
  refine V_callS (rest := []) X (c_X11_placeOfCell (Cl C) G x (by first | assumption | omega)) mi_X11_placeOfCell kw_2_141 kw_2_142 dX11_cell_1 [] rfl (by decide) rfl rfl (by decide) (Nat.le_of_ble_eq_true rfl) ⟨rfl, rfl⟩ (fun u_ hu_2 => ?_)
  obtain ⟨z_1, rfl⟩ : ∃ z, z = u_ := ⟨_, rfl⟩
  have hu_2 : (0 ≤ x ∧ x / 10 < 6 ∧ x % 10 < 6 ∧ z_1 = 6 * (x / 10) + x % 10) ∨ ((x < 0 ∨ 6 ≤ x / 10 ∨ 6 ≤ x % 10) ∧ z_1 = -9) := hu_2
  show V C 0 0 [gMoot G a (fun j => im j 0) kd re (b 0) (c 0) pa fa (nF kk) (nF ts) (sF bt) (sF sp) (nF qu) (iI bs) (lN tr), gRoll G b (nF w) (nF v) (nI n) (nI k), gMo G c (nF wh) (nF de) t (nI sv) (nI vt) (nI ps)] 4 [some (.ref (a 0)), some (.int (iI x)), some (.int (iI y)), none] [.int (iI z_1)]
  have hzz := hu_2
  refine V_istore_n X dX11_cell_4 (by decide) rfl ?_
  refine V_iload_n X dX11_cell_5 rfl ?_
  refine V_if_geI (i := z_1) X 11 dX11_cell_6 (by decide) (iI_toInt (by omega) (by omega)) (fun c_3 => ?_) (fun c_3 => ?_)
  · refine V_loc (y := (nI z_1.toNat)) 3 rfl (mv_sn (by omega)) ?_
    have hze : z_1 = 6 * (x / 10) + x % 10 := by omega
    have hzl : z_1.toNat < 36 := by omega
    refine V_iload_n X dX11_cell_11 rfl ?_
    by_cases c_4 : y = 0
    · refine V_tableInI (i := y) (off := 32) X 44 dX11_cell_12 0 (iI_toInt (by omega) (by omega)) c_4 (by decide) (by decide) (by decide) ?_
      refine V_aload_n X dX11_cell_44 rfl ?_
      refine V_get X fl_X11_26 0 0 rfl rfl rfl dX11_cell_45 ?_
      refine V_iload_n X dX11_cell_48 rfl ?_
      refine V_callV (rest := []) X (c_X3_deepAt (Cl C) G c wh de t sv vt ps z_1.toNat (by first | assumption | omega)) mi_X3_deepAt kw_2_145 kw_2_146 kw_2_147 dX11_cell_49 [2] rfl (by decide) 2 0 rfl rfl rfl rfl rfl rfl (by decide) (Nat.le_of_ble_eq_true rfl) ⟨rfl, rfl⟩ (fun _ _ => ?_)
      show V C 0 0 [gMoot G a (fun j => im j 0) kd re (b 0) (c 0) pa fa (nF kk) (nF ts) (sF bt) (sF sp) (nF qu) (iI bs) (lN tr), gRoll G b (nF w) (nF v) (nI n) (nI k), gMo G c (nF wh) (nF de) t (nI sv) (nI vt) (nI ps)] 52 [some (.ref (a 0)), some (.int (iI x)), some (.int (iI y)), some (.int (nI z_1.toNat))] [.int (nI (de z_1.toNat))]
      exact V_iret X Y () trivial (mv_ri (by simp only [spCell]; first | (rw [← hze]; repeat (first | rw [if_pos (by omega)] | rw [if_neg (by omega)])) | (repeat (first | rw [if_pos (by omega)] | rw [if_neg (by omega)])))) rfl rfl dX11_cell_52
    · by_cases c_5 : y = 1
      · refine V_tableInI (i := y) (off := 41) X 53 dX11_cell_12 1 (iI_toInt (by omega) (by omega)) c_5 (by decide) (by decide) (by decide) ?_
        refine V_aload_n X dX11_cell_53 rfl ?_
        refine V_get X fl_X11_26 0 0 rfl rfl rfl dX11_cell_54 ?_
        refine V_iload_n X dX11_cell_57 rfl ?_
        refine V_callV (rest := []) X (c_X3_toesAt (Cl C) G c wh de t sv vt ps z_1.toNat (by first | assumption | omega)) mi_X3_toesAt kw_2_149 kw_2_150 kw_2_151 dX11_cell_58 [2] rfl (by decide) 2 0 rfl rfl rfl rfl rfl rfl (by decide) (Nat.le_of_ble_eq_true rfl) ⟨rfl, rfl⟩ (fun _ _ => ?_)
        show V C 0 0 [gMoot G a (fun j => im j 0) kd re (b 0) (c 0) pa fa (nF kk) (nF ts) (sF bt) (sF sp) (nF qu) (iI bs) (lN tr), gRoll G b (nF w) (nF v) (nI n) (nI k), gMo G c (nF wh) (nF de) t (nI sv) (nI vt) (nI ps)] 61 [some (.ref (a 0)), some (.int (iI x)), some (.int (iI y)), some (.int (nI z_1.toNat))] [.int (t z_1.toNat)]
        exact V_iret X Y () trivial (mv_ri (by simp only [spCell]; first | (rw [← hze]; repeat (first | rw [if_pos (by omega)] | rw [if_neg (by omega)])) | (repeat (first | rw [if_pos (by omega)] | rw [if_neg (by omega)])))) rfl rfl dX11_cell_61
      · by_cases c_6 : y = 2
        · refine V_tableInI (i := y) (off := 50) X 62 dX11_cell_12 2 (iI_toInt (by omega) (by omega)) c_6 (by decide) (by decide) (by decide) ?_
          refine V_aload_n X dX11_cell_62 rfl ?_
          refine V_iload_n X dX11_cell_63 rfl ?_
          refine V_callV (rest := []) X (c_X11_peopleAt (Cl C) G a im kd re pa fa b c kk ts bt sp qu bs (lN tr) w v n k wh de t sv vt ps z_1.toNat (by first | assumption | omega) (by first | assumption | omega) (by first | assumption | omega)) mi_X11_peopleAt kw_2_153 kw_2_155 kw_s_9 dX11_cell_64 [0, 1, 2] rfl (by decide) 0 0 rfl rfl rfl rfl rfl rfl (by decide) (Nat.le_of_ble_eq_true rfl) ⟨rfl, rfl⟩ (fun _ _ => ?_)
          show V C 0 0 [gMoot G a (fun j => im j 0) kd re (b 0) (c 0) pa fa (nF kk) (nF ts) (sF bt) (sF sp) (nF qu) (iI bs) (lN tr), gRoll G b (nF w) (nF v) (nI n) (nI k), gMo G c (nF wh) (nF de) t (nI sv) (nI vt) (nI ps)] 67 [some (.ref (a 0)), some (.int (iI x)), some (.int (iI y)), some (.int (nI z_1.toNat))] [.int (nI (pAt wh z_1.toNat n))]
          exact V_iret X Y () trivial (mv_ri (by simp only [spCell]; first | (rw [← hze]; repeat (first | rw [if_pos (by omega)] | rw [if_neg (by omega)])) | (repeat (first | rw [if_pos (by omega)] | rw [if_neg (by omega)])))) rfl rfl dX11_cell_67
        · by_cases c_7 : y = 3
          · refine V_tableInI (i := y) (off := 56) X 68 dX11_cell_12 3 (iI_toInt (by omega) (by omega)) c_7 (by decide) (by decide) (by decide) ?_
            refine V_aload_n X dX11_cell_68 rfl ?_
            refine V_iload_n X dX11_cell_69 rfl ?_
            refine V_callV (rest := []) X (c_X11_rainsUntilGone (Cl C) G a im kd re pa fa b c kk ts bt sp qu bs (lN tr) w v n k wh de t sv vt ps z_1.toNat (by first | assumption | omega) (by first | assumption | omega) (by first | assumption | omega)) mi_X11_rainsUntilGone kw_2_161 kw_2_163 kw_s_10 dX11_cell_70 [0, 1, 2] rfl (by decide) 0 0 rfl rfl rfl rfl rfl rfl (by decide) (Nat.le_of_ble_eq_true rfl) ⟨rfl, rfl⟩ (fun _ _ => ?_)
            show V C 0 0 [gMoot G a (fun j => im j 0) kd re (b 0) (c 0) pa fa (nF kk) (nF ts) (sF bt) (sF sp) (nF qu) (iI bs) (lN tr), gRoll G b (nF w) (nF v) (nI n) (nI k), gMo G c (nF wh) (nF de) t (nI sv) (nI vt) (nI ps)] 73 [some (.ref (a 0)), some (.int (iI x)), some (.int (iI y)), some (.int (nI z_1.toNat))] [.int (nI ((de z_1.toNat + k - 1) / k))]
            exact V_iret X Y () trivial (mv_ri (by simp only [spCell]; first | (rw [← hze]; repeat (first | rw [if_pos (by omega)] | rw [if_neg (by omega)])) | (repeat (first | rw [if_pos (by omega)] | rw [if_neg (by omega)])))) rfl rfl dX11_cell_73
          · refine V_tableOutI (i := y) X 74 dX11_cell_12 (iI_toInt (by omega) (by omega)) (by omega) (by decide) ?_
            refine V_iconst X (-1) dX11_cell_74 (by decide) ?_
            exact V_iret X Y () trivial (mv_ri (by simp only [spCell]; first | (rw [← hze]; repeat (first | rw [if_pos (by omega)] | rw [if_neg (by omega)])) | (repeat (first | rw [if_pos (by omega)] | rw [if_neg (by omega)])))) rfl rfl dX11_cell_75
  · refine V_iconst X (-1) dX11_cell_9 (by decide) ?_
    exact V_iret X Y () trivial (mv_ri (by simp only [spCell]; first | (rw [← hze]; repeat (first | rw [if_pos (by omega)] | rw [if_neg (by omega)])) | (repeat (first | rw [if_pos (by omega)] | rw [if_neg (by omega)])))) rfl rfl dX11_cell_10
set_option maxHeartbeats 4000000 in
set_option maxRecDepth 100000 in
theorem c_X11_person (l : Launch) (G : mvG) (a : Nat → Nat) (im : Nat → Nat → Nat) (kd : Nat → Nat) (re : Nat) (pa : Nat) (fa : Nat) (b : Nat → Nat) (c : Nat → Nat) (kk : Nat → Nat) (ts : Nat → Nat) (bt : Nat → Int) (sp : Nat → Int) (qu : Nat → Nat) (bs : Int) (tr : Nat) (w : Nat → Nat) (v : Nat → Nat) (n : Nat) (k : Nat) (wh : Nat → Nat) (de : Nat → Nat) (t : Nat → Int32) (sv : Nat) (vt : Nat) (ps : Nat) (p : Int) (y : Int) (hn : n ≤ 5) (hwh : ∀ j, wh j < 36) (hp : -2147483648 ≤ p ∧ p < 2147483648) (hy : -2147483648 ≤ y ∧ y < 2147483648) : KQ l yX11_person cX11_person 3 (some .int) (1, 21) G [.ref (a 0), .int (iI p), .int (iI y)] [gMoot G a (fun j => im j 0) kd re (b 0) (c 0) pa fa (nF kk) (nF ts) (sF bt) (sF sp) (nF qu) (iI bs) (lN tr), gRoll G b (nF w) (nF v) (nI n) (nI k), gMo G c (nF wh) (nF de) t (nI sv) (nI vt) (nI ps)] (fun (_ : Unit) => some (.int (iI (spPerson w v wh n p y)))) (fun (_ : Unit) => True) (fun (_ : Unit) => [gMoot G a (fun j => im j 0) kd re (b 0) (c 0) pa fa (nF kk) (nF ts) (sF bt) (sF sp) (nF qu) (iI bs) (lN tr), gRoll G b (nF w) (nF v) (nI n) (nI k), gMo G c (nF wh) (nF de) t (nI sv) (nI vt) (nI ps)]) := by
  refine KQ.mk (by decide +kernel) (fun _ _ => rfl) [some (.ref (a 0)), some (.int (iI p)), some (.int (iI y))] (Nat.le_of_ble_eq_true rfl) rfl (fun C X Y hC => ?_)
  subst hC
  refine V_aload_n X dX11_person_0 rfl ?_
  refine V_get X fl_X11_19 0 0 rfl rfl rfl dX11_person_1 ?_
  refine V_iload_n X dX11_person_4 rfl ?_
  refine V_callV (rest := []) X (c_X7_has (Cl C) G b w v n k p (by first | assumption | omega) (by first | assumption | omega)) mi_X7_has kw_2_169 kw_2_170 kw_2_171 dX11_person_5 [1] rfl (by decide) 1 0 rfl rfl rfl rfl rfl rfl (by decide) (Nat.le_of_ble_eq_true rfl) ⟨rfl, rfl⟩ (fun u_ hu_2 => ?_)
  obtain ⟨b_1, rfl⟩ : ∃ z, z = u_ := ⟨_, rfl⟩
  have hu_2 : (b_1 = 1 ∧ 0 ≤ p ∧ p < (n : Int)) ∨ (b_1 = 0 ∧ (p < 0 ∨ (n : Int) ≤ p)) := hu_2
  show V C 0 0 [gMoot G a (fun j => im j 0) kd re (b 0) (c 0) pa fa (nF kk) (nF ts) (sF bt) (sF sp) (nF qu) (iI bs) (lN tr), gRoll G b (nF w) (nF v) (nI n) (nI k), gMo G c (nF wh) (nF de) t (nI sv) (nI vt) (nI ps)] 8 [some (.ref (a 0)), some (.int (iI p)), some (.int (iI y))] [.int (nI b_1)]
  refine V_if_neN X 13 dX11_person_8 (by decide) (by omega) (fun c_3 => ?_) (fun c_3 => ?_)
  · refine V_loc (y := (nI p.toNat)) 1 rfl (mv_sn (by omega)) ?_
    refine V_iload_n X dX11_person_13 rfl ?_
    by_cases c_4 : y = 0
    · refine V_tableInI (i := y) (off := 26) X 40 dX11_person_14 0 (iI_toInt (by omega) (by omega)) c_4 (by decide) (by decide) (by decide) ?_
      refine V_aload_n X dX11_person_40 rfl ?_
      refine V_get X fl_X11_26 0 0 rfl rfl rfl dX11_person_41 ?_
      refine V_iload_n X dX11_person_44 rfl ?_
      refine V_callV (rest := []) X (c_X3_placeOf (Cl C) G c wh de t sv vt ps p.toNat (by first | assumption | omega)) mi_X3_placeOf kw_2_157 kw_2_158 kw_2_159 dX11_person_45 [2] rfl (by decide) 2 0 rfl rfl rfl rfl rfl rfl (by decide) (Nat.le_of_ble_eq_true rfl) ⟨rfl, rfl⟩ (fun _ _ => ?_)
      show V C 0 0 [gMoot G a (fun j => im j 0) kd re (b 0) (c 0) pa fa (nF kk) (nF ts) (sF bt) (sF sp) (nF qu) (iI bs) (lN tr), gRoll G b (nF w) (nF v) (nI n) (nI k), gMo G c (nF wh) (nF de) t (nI sv) (nI vt) (nI ps)] 48 [some (.ref (a 0)), some (.int (nI p.toNat)), some (.int (iI y))] [.int (nI (wh p.toNat))]
      have hwp := hwh p.toNat
      refine V_callS (rest := []) X (c_X11_cellOfPlace (Cl C) G (wh p.toNat) (by first | assumption | omega)) mi_X11_cellOfPlace kw_2_173 kw_2_174 dX11_person_48 [] rfl (by decide) rfl rfl (by decide) (Nat.le_of_ble_eq_true rfl) ⟨rfl, rfl⟩ (fun _ _ => ?_)
      show V C 0 0 [gMoot G a (fun j => im j 0) kd re (b 0) (c 0) pa fa (nF kk) (nF ts) (sF bt) (sF sp) (nF qu) (iI bs) (lN tr), gRoll G b (nF w) (nF v) (nI n) (nI k), gMo G c (nF wh) (nF de) t (nI sv) (nI vt) (nI ps)] 51 [some (.ref (a 0)), some (.int (nI p.toNat)), some (.int (iI y))] [.int (nI (10 * ((wh p.toNat) / 6) + (wh p.toNat) % 6))]
      exact V_iret X Y () trivial (mv_ri (by simp only [spPerson]; (repeat (first | rw [if_pos (by omega)] | rw [if_neg (by omega)])) <;> rfl)) rfl rfl dX11_person_51
    · by_cases c_5 : y = 1
      · refine V_tableInI (i := y) (off := 38) X 52 dX11_person_14 1 (iI_toInt (by omega) (by omega)) c_5 (by decide) (by decide) (by decide) ?_
        refine V_aload_n X dX11_person_52 rfl ?_
        refine V_get X fl_X11_19 0 0 rfl rfl rfl dX11_person_53 ?_
        refine V_iload_n X dX11_person_56 rfl ?_
        refine V_callV (rest := []) X (c_X7_weightOf (Cl C) G b w v n k p.toNat (by first | assumption | omega)) mi_X7_weightOf kw_2_176 kw_2_177 kw_2_178 dX11_person_57 [1] rfl (by decide) 1 0 rfl rfl rfl rfl rfl rfl (by decide) (Nat.le_of_ble_eq_true rfl) ⟨rfl, rfl⟩ (fun _ _ => ?_)
        show V C 0 0 [gMoot G a (fun j => im j 0) kd re (b 0) (c 0) pa fa (nF kk) (nF ts) (sF bt) (sF sp) (nF qu) (iI bs) (lN tr), gRoll G b (nF w) (nF v) (nI n) (nI k), gMo G c (nF wh) (nF de) t (nI sv) (nI vt) (nI ps)] 60 [some (.ref (a 0)), some (.int (nI p.toNat)), some (.int (iI y))] [.int (nI (w p.toNat))]
        exact V_iret X Y () trivial (mv_ri (by simp only [spPerson]; (repeat (first | rw [if_pos (by omega)] | rw [if_neg (by omega)])) <;> rfl)) rfl rfl dX11_person_60
      · by_cases c_6 : y = 2
        · refine V_tableInI (i := y) (off := 47) X 61 dX11_person_14 2 (iI_toInt (by omega) (by omega)) c_6 (by decide) (by decide) (by decide) ?_
          refine V_aload_n X dX11_person_61 rfl ?_
          refine V_get X fl_X11_19 0 0 rfl rfl rfl dX11_person_62 ?_
          refine V_iload_n X dX11_person_65 rfl ?_
          refine V_callV (rest := []) X (c_X7_voicesOf (Cl C) G b w v n k p.toNat (by first | assumption | omega)) mi_X7_voicesOf kw_2_180 kw_2_181 kw_2_182 dX11_person_66 [1] rfl (by decide) 1 0 rfl rfl rfl rfl rfl rfl (by decide) (Nat.le_of_ble_eq_true rfl) ⟨rfl, rfl⟩ (fun _ _ => ?_)
          show V C 0 0 [gMoot G a (fun j => im j 0) kd re (b 0) (c 0) pa fa (nF kk) (nF ts) (sF bt) (sF sp) (nF qu) (iI bs) (lN tr), gRoll G b (nF w) (nF v) (nI n) (nI k), gMo G c (nF wh) (nF de) t (nI sv) (nI vt) (nI ps)] 69 [some (.ref (a 0)), some (.int (nI p.toNat)), some (.int (iI y))] [.int (nI (v p.toNat))]
          exact V_iret X Y () trivial (mv_ri (by simp only [spPerson]; (repeat (first | rw [if_pos (by omega)] | rw [if_neg (by omega)])) <;> rfl)) rfl rfl dX11_person_69
        · refine V_tableOutI (i := y) X 70 dX11_person_14 (iI_toInt (by omega) (by omega)) (by omega) (by decide) ?_
          refine V_iconst X (-1) dX11_person_70 (by decide) ?_
          exact V_iret X Y () trivial (mv_ri (by simp only [spPerson]; (repeat (first | rw [if_pos (by omega)] | rw [if_neg (by omega)])) <;> rfl)) rfl rfl dX11_person_71
  · refine V_iconst X (-1) dX11_person_11 (by decide) ?_
    exact V_iret X Y () trivial (mv_ri (by simp only [spPerson]; (repeat (first | rw [if_pos (by omega)] | rw [if_neg (by omega)])) <;> rfl)) rfl rfl dX11_person_12
set_option maxHeartbeats 4000000 in
set_option maxRecDepth 100000 in
theorem c_X11_now (l : Launch) (G : mvG) (a : Nat → Nat) (im : Nat → Nat → Nat) (kd : Nat → Nat) (re : Nat) (fa : Nat) (b : Nat → Nat) (c : Nat → Nat) (kk : Nat → Nat) (ts : Nat → Nat) (bt : Nat → Int) (sp : Nat → Int) (qu : Nat → Nat) (bs : Int) (tr : Nat) (w : Nat → Nat) (v : Nat → Nat) (n : Nat) (k : Nat) (wh : Nat → Nat) (de : Nat → Nat) (t : Nat → Int32) (sv : Nat) (vt : Nat) (ps : Nat) (pp : Nat → Nat) (pr : Nat → Nat) (q : Nat) (kn : Nat) (y : Int) (hn : n ≤ 5) (hwh : ∀ j, wh j < 36) (hde : ∀ j, de j ≤ 9) (hv : ∀ j, v j ≤ 9) (hy : -2147483648 ≤ y ∧ y < 2147483648) : KQ l yX11_now cX11_now 2 (some .int) (5, 110) G [.ref (a 0), .int (iI y)] [gMoot G a (fun j => im j 0) kd re (b 0) (c 0) (pp 0) fa (nF kk) (nF ts) (sF bt) (sF sp) (nF qu) (iI bs) (lN tr), gRoll G b (nF w) (nF v) (nI n) (nI k), gMo G c (nF wh) (nF de) t (nI sv) (nI vt) (nI ps), gPast G pp pr (nI q) (nI kn)] (fun (zz : Int32) => some (.int zz)) (fun (zz : Int32) => (y = 0 ∧ zz = nI (dSum de 36)) ∨ (y = 1 ∧ zz = nI sv) ∨ (y = 2 ∧ zz = nI vt) ∨ (y = 3 ∧ zz = nI ps) ∨ (y = 4 ∧ zz = nI (lns wh v n 6)) ∨ (y = 5 ∧ ∃ x, wid de x ∧ zz = nI x) ∨ (y = 6 ∧ ∃ x z, wid de x ∧ csq de x z ∧ zz = iI z) ∨ (y = 7 ∧ zz = nI kn) ∨ ((y < 0 ∨ 7 < y) ∧ zz = -1)) (fun (zz : Int32) => [gMoot G a (fun j => im j 0) kd re (b 0) (c 0) (pp 0) fa (nF kk) (nF ts) (sF bt) (sF sp) (nF qu) (iI bs) (lN tr), gRoll G b (nF w) (nF v) (nI n) (nI k), gMo G c (nF wh) (nF de) t (nI sv) (nI vt) (nI ps), gPast G pp pr (nI q) (nI kn)]) := by
  refine KQ.mk (by decide +kernel) (fun _ _ => rfl) [some (.ref (a 0)), some (.int (iI y))] (Nat.le_of_ble_eq_true rfl) rfl (fun C X Y hC => ?_)
  subst hC
  refine V_iload_n X dX11_now_0 rfl ?_
  by_cases c_1 : y = 0
  · refine V_tableInI (i := y) (off := 47) X 48 dX11_now_1 0 (iI_toInt (by omega) (by omega)) c_1 (by decide) (by decide) (by decide) ?_
    refine V_aload_n X dX11_now_48 rfl ?_
    refine V_get X fl_X11_26 0 0 rfl rfl rfl dX11_now_49 ?_
    refine V_callV (rest := []) X (c_X3_deepTogether (Cl C) G c wh de t sv vt ps) mi_X3_deepTogether kw_2_188 kw_2_189 kw_2_190 dX11_now_52 [2] rfl (by decide) 2 0 rfl rfl rfl rfl rfl rfl (by decide) (Nat.le_of_ble_eq_true rfl) ⟨rfl, rfl⟩ (fun _ _ => ?_)
    show V C 0 0 [gMoot G a (fun j => im j 0) kd re (b 0) (c 0) (pp 0) fa (nF kk) (nF ts) (sF bt) (sF sp) (nF qu) (iI bs) (lN tr), gRoll G b (nF w) (nF v) (nI n) (nI k), gMo G c (nF wh) (nF de) t (nI sv) (nI vt) (nI ps), gPast G pp pr (nI q) (nI kn)] 55 [some (.ref (a 0)), some (.int (iI y))] [.int (nI (dSum de 36))]
    exact V_iret X Y (nI (dSum de 36)) (by exact Or.inl ⟨by assumption, rfl⟩) (mv_ri (by rfl)) rfl rfl dX11_now_55
  · by_cases c_2 : y = 1
    · refine V_tableInI (i := y) (off := 55) X 56 dX11_now_1 1 (iI_toInt (by omega) (by omega)) c_2 (by decide) (by decide) (by decide) ?_
      refine V_aload_n X dX11_now_56 rfl ?_
      refine V_get X fl_X11_26 0 0 rfl rfl rfl dX11_now_57 ?_
      refine V_get X fl_X11_154 2 0 rfl rfl rfl dX11_now_60 ?_
      exact V_iret X Y (nI sv) (by exact Or.inr (Or.inl ⟨by assumption, rfl⟩)) (mv_ri (by rfl)) rfl rfl dX11_now_63
    · by_cases c_3 : y = 2
      · refine V_tableInI (i := y) (off := 63) X 64 dX11_now_1 2 (iI_toInt (by omega) (by omega)) c_3 (by decide) (by decide) (by decide) ?_
        refine V_aload_n X dX11_now_64 rfl ?_
        refine V_get X fl_X11_26 0 0 rfl rfl rfl dX11_now_65 ?_
        refine V_get X fl_X11_157 2 0 rfl rfl rfl dX11_now_68 ?_
        exact V_iret X Y (nI vt) (by exact Or.inr (Or.inr (Or.inl ⟨by assumption, rfl⟩))) (mv_ri (by rfl)) rfl rfl dX11_now_71
      · by_cases c_4 : y = 3
        · refine V_tableInI (i := y) (off := 71) X 72 dX11_now_1 3 (iI_toInt (by omega) (by omega)) c_4 (by decide) (by decide) (by decide) ?_
          refine V_aload_n X dX11_now_72 rfl ?_
          refine V_get X fl_X11_26 0 0 rfl rfl rfl dX11_now_73 ?_
          refine V_get X fl_X11_160 2 0 rfl rfl rfl dX11_now_76 ?_
          exact V_iret X Y (nI ps) (by exact Or.inr (Or.inr (Or.inr (Or.inl ⟨by assumption, rfl⟩)))) (mv_ri (by rfl)) rfl rfl dX11_now_79
        · by_cases c_5 : y = 4
          · refine V_tableInI (i := y) (off := 79) X 80 dX11_now_1 4 (iI_toInt (by omega) (by omega)) c_5 (by decide) (by decide) (by decide) ?_
            refine V_aload_n X dX11_now_80 rfl ?_
            refine V_callV (rest := []) X (c_X11_passingLines (Cl C) G a im kd re (pp 0) fa b c kk ts bt sp qu bs (lN tr) w v n k wh de t sv vt ps (by first | assumption | omega) (by first | assumption | omega) (by first | assumption | omega)) mi_X11_passingLines kw_2_192 kw_2_194 kw_s_11 dX11_now_81 [0, 1, 2] rfl (by decide) 0 0 rfl rfl rfl rfl rfl rfl (by decide) (Nat.le_of_ble_eq_true rfl) ⟨rfl, rfl⟩ (fun _ _ => ?_)
            show V C 0 0 [gMoot G a (fun j => im j 0) kd re (b 0) (c 0) (pp 0) fa (nF kk) (nF ts) (sF bt) (sF sp) (nF qu) (iI bs) (lN tr), gRoll G b (nF w) (nF v) (nI n) (nI k), gMo G c (nF wh) (nF de) t (nI sv) (nI vt) (nI ps), gPast G pp pr (nI q) (nI kn)] 84 [some (.ref (a 0)), some (.int (iI y))] [.int (nI (lns wh v n 6))]
            exact V_iret X Y (nI (lns wh v n 6)) (by exact Or.inr (Or.inr (Or.inr (Or.inr (Or.inl ⟨by assumption, rfl⟩))))) (mv_ri (by rfl)) rfl rfl dX11_now_84
          · by_cases c_6 : y = 5
            · refine V_tableInI (i := y) (off := 84) X 85 dX11_now_1 5 (iI_toInt (by omega) (by omega)) c_6 (by decide) (by decide) (by decide) ?_
              refine V_aload_n X dX11_now_85 rfl ?_
              refine V_callV (rest := []) X (c_X11_widestClear (Cl C) G a im kd re (pp 0) fa b c kk ts bt sp qu bs (lN tr) wh de t sv vt ps (by first | assumption | omega)) mi_X11_widestClear kw_2_200 kw_2_202 kw_s_13 dX11_now_86 [0, 2] rfl (by decide) 0 0 rfl rfl rfl rfl rfl rfl (by decide) (Nat.le_of_ble_eq_true rfl) ⟨rfl, rfl⟩ (fun u_ hu_10 => ?_)
              obtain ⟨w_9, rfl⟩ : ∃ z, z = u_ := ⟨_, rfl⟩
              have hu_10 : wid de w_9 := hu_10
              show V C 0 0 [gMoot G a (fun j => im j 0) kd re (b 0) (c 0) (pp 0) fa (nF kk) (nF ts) (sF bt) (sF sp) (nF qu) (iI bs) (lN tr), gRoll G b (nF w) (nF v) (nI n) (nI k), gMo G c (nF wh) (nF de) t (nI sv) (nI vt) (nI ps), gPast G pp pr (nI q) (nI kn)] 89 [some (.ref (a 0)), some (.int (iI y))] [.int (nI w_9)]
              have hwd := hu_10
              exact V_iret X Y (nI w_9) (by exact Or.inr (Or.inr (Or.inr (Or.inr (Or.inr (Or.inl ⟨by assumption, _, hwd, rfl⟩)))))) (mv_ri (by rfl)) rfl rfl dX11_now_89
            · by_cases c_7 : y = 6
              · refine V_tableInI (i := y) (off := 89) X 90 dX11_now_1 6 (iI_toInt (by omega) (by omega)) c_7 (by decide) (by decide) (by decide) ?_
                refine V_aload_n X dX11_now_90 rfl ?_
                refine V_aload_n X dX11_now_91 rfl ?_
                refine V_callV (rest := [.ref (a 0)]) X (c_X11_widestClear (Cl C) G a im kd re (pp 0) fa b c kk ts bt sp qu bs (lN tr) wh de t sv vt ps (by first | assumption | omega)) mi_X11_widestClear kw_2_200 kw_2_202 kw_s_13 dX11_now_92 [0, 2] rfl (by decide) 0 0 rfl rfl rfl rfl rfl rfl (by decide) (Nat.le_of_ble_eq_true rfl) ⟨rfl, rfl⟩ (fun u_ hu_12 => ?_)
                obtain ⟨w_11, rfl⟩ : ∃ z, z = u_ := ⟨_, rfl⟩
                have hu_12 : wid de w_11 := hu_12
                show V C 0 0 [gMoot G a (fun j => im j 0) kd re (b 0) (c 0) (pp 0) fa (nF kk) (nF ts) (sF bt) (sF sp) (nF qu) (iI bs) (lN tr), gRoll G b (nF w) (nF v) (nI n) (nI k), gMo G c (nF wh) (nF de) t (nI sv) (nI vt) (nI ps), gPast G pp pr (nI q) (nI kn)] 95 [some (.ref (a 0)), some (.int (iI y))] [.int (nI w_11), .ref (a 0)]
                have hwd := hu_12
                have hwl := hwd.1
                refine V_callV (rest := []) X (c_X11_clearSquare (Cl C) G a im kd re (pp 0) fa b c kk ts bt sp qu bs (lN tr) wh de t sv vt ps w_11 (by first | assumption | omega) (by first | assumption | omega)) mi_X11_clearSquare kw_2_204 kw_2_206 kw_s_14 dX11_now_95 [0, 2] rfl (by decide) 0 0 rfl rfl rfl rfl rfl rfl (by decide) (Nat.le_of_ble_eq_true rfl) ⟨rfl, rfl⟩ (fun u_ hu_14 => ?_)
                obtain ⟨z_13, rfl⟩ : ∃ z, z = u_ := ⟨_, rfl⟩
                have hu_14 : csq de w_11 z_13 := hu_14
                show V C 0 0 [gMoot G a (fun j => im j 0) kd re (b 0) (c 0) (pp 0) fa (nF kk) (nF ts) (sF bt) (sF sp) (nF qu) (iI bs) (lN tr), gRoll G b (nF w) (nF v) (nI n) (nI k), gMo G c (nF wh) (nF de) t (nI sv) (nI vt) (nI ps), gPast G pp pr (nI q) (nI kn)] 98 [some (.ref (a 0)), some (.int (iI y))] [.int (iI z_13)]
                have hcs := hu_14
                exact V_iret X Y (iI z_13) (by exact Or.inr (Or.inr (Or.inr (Or.inr (Or.inr (Or.inr (Or.inl ⟨by assumption, _, _, hwd, hcs, rfl⟩))))))) (mv_ri (by rfl)) rfl rfl dX11_now_98
              · by_cases c_8 : y = 7
                · refine V_tableInI (i := y) (off := 98) X 99 dX11_now_1 7 (iI_toInt (by omega) (by omega)) c_8 (by decide) (by decide) (by decide) ?_
                  refine V_aload_n X dX11_now_99 rfl ?_
                  refine V_get X fl_X11_33 0 0 rfl rfl rfl dX11_now_100 ?_
                  refine V_get X fl_X11_172 3 0 rfl rfl rfl dX11_now_103 ?_
                  exact V_iret X Y (nI kn) (by exact Or.inr (Or.inr (Or.inr (Or.inr (Or.inr (Or.inr (Or.inr (Or.inl ⟨by assumption, rfl⟩)))))))) (mv_ri (by rfl)) rfl rfl dX11_now_106
                · refine V_tableOutI (i := y) X 107 dX11_now_1 (iI_toInt (by omega) (by omega)) (by omega) (by decide) ?_
                  refine V_iconst X (-1) dX11_now_107 (by decide) ?_
                  exact V_iret X Y (-1) (by exact Or.inr (Or.inr (Or.inr (Or.inr (Or.inr (Or.inr (Or.inr (Or.inr ⟨by omega, rfl⟩)))))))) rfl rfl rfl dX11_now_108
set_option maxHeartbeats 4000000 in
set_option maxRecDepth 100000 in
theorem c_X11_walks (l : Launch) (G : mvG) (a : Nat → Nat) (im : Nat → Nat → Nat) (kd : Nat → Nat) (re : Nat) (fa : Nat) (b : Nat → Nat) (c : Nat → Nat) (kk : Nat → Nat) (ts : Nat → Nat) (bt : Nat → Int) (sp : Nat → Int) (qu : Nat → Nat) (bs : Int) (tr : Nat) (w : Nat → Nat) (v : Nat → Nat) (n : Nat) (k : Nat) (wh : Nat → Nat) (de : Nat → Nat) (t : Nat → Int32) (sv : Nat) (vt : Nat) (ps : Nat) (pp : Nat → Nat) (am : Nat → Nat → Nat) (P : Nat → MoT) (q : Nat) (kn : Nat) (p : Int) (d : Int) (hn : n ≤ 5) (hwh : ∀ j, wh j < 36) (hde : ∀ j, de j ≤ 9) (hw : ∀ j, w j ≤ 4) (hq : q < 10) (hkn : kn ≤ 10) (hp : -2147483648 ≤ p ∧ p < 2147483648) (hd : -2147483648 ≤ d ∧ d < 2147483648) : KQ l yX11_walks cX11_walks 4 (some .int) (3, 64) G [.ref (a 0), .int (iI p), .int (iI d)] [gMoot G a (fun j => im j 0) kd re (b 0) (c 0) (pp 0) fa (nF kk) (nF ts) (sF bt) (sF sp) (nF qu) (iI bs) (lN tr), gRoll G b (nF w) (nF v) (nI n) (nI k), gMo G c (nF wh) (nF de) t (nI sv) (nI vt) (nI ps), gPast G pp (fun j => am j 0) (nI q) (nI kn), gMoT G (am 0) (P 0), gMoT G (am 1) (P 1), gMoT G (am 2) (P 2), gMoT G (am 3) (P 3), gMoT G (am 4) (P 4), gMoT G (am 5) (P 5), gMoT G (am 6) (P 6), gMoT G (am 7) (P 7), gMoT G (am 8) (P 8), gMoT G (am 9) (P 9)] (fun (zz : Int × (Nat → Nat) × (Nat → Nat) × (Nat → Int32) × Nat × Nat × Nat × (Nat → MoT) × Nat × Nat) => some (.int (iI zz.1))) (fun (zz : Int × (Nat → Nat) × (Nat → Nat) × (Nat → Int32) × Nat × Nat × Nat × (Nat → MoT) × Nat × Nat) => (zz.1, ((zz.2.1, zz.2.2.1, zz.2.2.2.1, zz.2.2.2.2.1, zz.2.2.2.2.2.1, zz.2.2.2.2.2.2.1), zz.2.2.2.2.2.2.2.1, zz.2.2.2.2.2.2.2.2.1, zz.2.2.2.2.2.2.2.2.2)) = spWalks n w ((wh, de, t, sv, vt, ps), P, q, kn) p d) (fun (zz : Int × (Nat → Nat) × (Nat → Nat) × (Nat → Int32) × Nat × Nat × Nat × (Nat → MoT) × Nat × Nat) => [gMoot G a (fun j => im j 0) kd re (b 0) (c 0) (pp 0) fa (nF kk) (nF ts) (sF bt) (sF sp) (nF qu) (iI bs) (lN tr), gRoll G b (nF w) (nF v) (nI n) (nI k), gMo G c (nF zz.2.1) (nF zz.2.2.1) zz.2.2.2.1 (nI zz.2.2.2.2.1) (nI zz.2.2.2.2.2.1) (nI zz.2.2.2.2.2.2.1), gPast G pp (fun j => am j 0) (nI zz.2.2.2.2.2.2.2.2.1) (nI zz.2.2.2.2.2.2.2.2.2), gMoT G (am 0) (zz.2.2.2.2.2.2.2.1 0), gMoT G (am 1) (zz.2.2.2.2.2.2.2.1 1), gMoT G (am 2) (zz.2.2.2.2.2.2.2.1 2), gMoT G (am 3) (zz.2.2.2.2.2.2.2.1 3), gMoT G (am 4) (zz.2.2.2.2.2.2.2.1 4), gMoT G (am 5) (zz.2.2.2.2.2.2.2.1 5), gMoT G (am 6) (zz.2.2.2.2.2.2.2.1 6), gMoT G (am 7) (zz.2.2.2.2.2.2.2.1 7), gMoT G (am 8) (zz.2.2.2.2.2.2.2.1 8), gMoT G (am 9) (zz.2.2.2.2.2.2.2.1 9)]) := by
  refine KQ.mk (by decide +kernel) (fun _ _ => rfl) [some (.ref (a 0)), some (.int (iI p)), some (.int (iI d)), none] (Nat.le_of_ble_eq_true rfl) rfl (fun C X Y hC => ?_)
  subst hC
  refine V_aload_n X dX11_walks_0 rfl ?_
  refine V_get X fl_X11_19 0 0 rfl rfl rfl dX11_walks_1 ?_
  refine V_iload_n X dX11_walks_4 rfl ?_
  refine V_callV (rest := []) X (c_X7_has (Cl C) G b w v n k p (by first | assumption | omega) (by first | assumption | omega)) mi_X7_has kw_2_169 kw_2_170 kw_2_171 dX11_walks_5 [1] rfl (by decide) 1 0 rfl rfl rfl rfl rfl rfl (by decide) (Nat.le_of_ble_eq_true rfl) ⟨rfl, rfl⟩ (fun u_ hu_2 => ?_)
  obtain ⟨b_1, rfl⟩ : ∃ z, z = u_ := ⟨_, rfl⟩
  have hu_2 : (b_1 = 1 ∧ 0 ≤ p ∧ p < (n : Int)) ∨ (b_1 = 0 ∧ (p < 0 ∨ (n : Int) ≤ p)) := hu_2
  show V C 0 0 [gMoot G a (fun j => im j 0) kd re (b 0) (c 0) (pp 0) fa (nF kk) (nF ts) (sF bt) (sF sp) (nF qu) (iI bs) (lN tr), gRoll G b (nF w) (nF v) (nI n) (nI k), gMo G c (nF wh) (nF de) t (nI sv) (nI vt) (nI ps), gPast G pp (fun j => am j 0) (nI q) (nI kn), gMoT G (am 0) (P 0), gMoT G (am 1) (P 1), gMoT G (am 2) (P 2), gMoT G (am 3) (P 3), gMoT G (am 4) (P 4), gMoT G (am 5) (P 5), gMoT G (am 6) (P 6), gMoT G (am 7) (P 7), gMoT G (am 8) (P 8), gMoT G (am 9) (P 9)] 8 [some (.ref (a 0)), some (.int (iI p)), some (.int (iI d)), none] [.int (nI b_1)]
  refine V_if_eqN X 18 dX11_walks_8 (by decide) (by omega) (fun c_3 => ?_) (fun c_3 => ?_)
  · refine V_iconst X (-1) dX11_walks_18 (by decide) ?_
    exact V_iret X Y ⟨-1, wh, de, t, sv, vt, ps, P, q, kn⟩ (show ((-1), ((wh, de, t, sv, vt, ps), P, q, kn)) = spWalks n w ((wh, de, t, sv, vt, ps), P, q, kn) p d from (by simp only [spWalks]; (repeat (first | rw [if_pos (by omega)] | rw [if_neg (by omega)])) <;> rfl)) (mv_ri (by rfl)) rfl rfl dX11_walks_19
  · refine V_iload_n X dX11_walks_11 rfl ?_
    refine V_callS (rest := []) X (c_X11_isSide (Cl C) G d (by first | assumption | omega)) mi_X11_isSide kw_2_218 kw_2_219 dX11_walks_12 [] rfl (by decide) rfl rfl (by decide) (Nat.le_of_ble_eq_true rfl) ⟨rfl, rfl⟩ (fun u_ hu_5 => ?_)
    obtain ⟨b_4, rfl⟩ : ∃ z, z = u_ := ⟨_, rfl⟩
    have hu_5 : (b_4 = 1 ∧ 0 ≤ d ∧ d < 4) ∨ (b_4 = 0 ∧ (d < 0 ∨ 4 ≤ d)) := hu_5
    show V C 0 0 [gMoot G a (fun j => im j 0) kd re (b 0) (c 0) (pp 0) fa (nF kk) (nF ts) (sF bt) (sF sp) (nF qu) (iI bs) (lN tr), gRoll G b (nF w) (nF v) (nI n) (nI k), gMo G c (nF wh) (nF de) t (nI sv) (nI vt) (nI ps), gPast G pp (fun j => am j 0) (nI q) (nI kn), gMoT G (am 0) (P 0), gMoT G (am 1) (P 1), gMoT G (am 2) (P 2), gMoT G (am 3) (P 3), gMoT G (am 4) (P 4), gMoT G (am 5) (P 5), gMoT G (am 6) (P 6), gMoT G (am 7) (P 7), gMoT G (am 8) (P 8), gMoT G (am 9) (P 9)] 15 [some (.ref (a 0)), some (.int (iI p)), some (.int (iI d)), none] [.int (nI b_4)]
    refine V_if_neN X 20 dX11_walks_15 (by decide) (by omega) (fun c_6 => ?_) (fun c_6 => ?_)
    · refine V_loc (y := (nI p.toNat)) 1 rfl (mv_sn (by omega)) ?_
      refine V_loc (y := (nI d.toNat)) 2 rfl (mv_sn (by omega)) ?_
      refine V_aload_n X dX11_walks_20 rfl ?_
      refine V_get X fl_X11_26 0 0 rfl rfl rfl dX11_walks_21 ?_
      refine V_iload_n X dX11_walks_24 rfl ?_
      refine V_callV (rest := []) X (c_X3_placeOf (Cl C) G c wh de t sv vt ps p.toNat (by first | assumption | omega)) mi_X3_placeOf kw_2_157 kw_2_158 kw_2_159 dX11_walks_25 [2] rfl (by decide) 2 0 rfl rfl rfl rfl rfl rfl (by decide) (Nat.le_of_ble_eq_true rfl) ⟨rfl, rfl⟩ (fun _ _ => ?_)
      show V C 0 0 [gMoot G a (fun j => im j 0) kd re (b 0) (c 0) (pp 0) fa (nF kk) (nF ts) (sF bt) (sF sp) (nF qu) (iI bs) (lN tr), gRoll G b (nF w) (nF v) (nI n) (nI k), gMo G c (nF wh) (nF de) t (nI sv) (nI vt) (nI ps), gPast G pp (fun j => am j 0) (nI q) (nI kn), gMoT G (am 0) (P 0), gMoT G (am 1) (P 1), gMoT G (am 2) (P 2), gMoT G (am 3) (P 3), gMoT G (am 4) (P 4), gMoT G (am 5) (P 5), gMoT G (am 6) (P 6), gMoT G (am 7) (P 7), gMoT G (am 8) (P 8), gMoT G (am 9) (P 9)] 28 [some (.ref (a 0)), some (.int (nI p.toNat)), some (.int (nI d.toNat)), none] [.int (nI (wh p.toNat))]
      have hwp := hwh p.toNat
      have hnb := nb_le (d := d.toNat) hwp
      refine V_iload_n X dX11_walks_28 rfl ?_
      refine V_callS (rest := []) X (c_X11_placeBeside (Cl C) G (wh p.toNat) d.toNat (by first | assumption | omega) (by first | assumption | omega)) mi_X11_placeBeside kw_2_221 kw_2_222 dX11_walks_29 [] rfl (by decide) rfl rfl (by decide) (Nat.le_of_ble_eq_true rfl) ⟨rfl, rfl⟩ (fun _ _ => ?_)
      show V C 0 0 [gMoot G a (fun j => im j 0) kd re (b 0) (c 0) (pp 0) fa (nF kk) (nF ts) (sF bt) (sF sp) (nF qu) (iI bs) (lN tr), gRoll G b (nF w) (nF v) (nI n) (nI k), gMo G c (nF wh) (nF de) t (nI sv) (nI vt) (nI ps), gPast G pp (fun j => am j 0) (nI q) (nI kn), gMoT G (am 0) (P 0), gMoT G (am 1) (P 1), gMoT G (am 2) (P 2), gMoT G (am 3) (P 3), gMoT G (am 4) (P 4), gMoT G (am 5) (P 5), gMoT G (am 6) (P 6), gMoT G (am 7) (P 7), gMoT G (am 8) (P 8), gMoT G (am 9) (P 9)] 32 [some (.ref (a 0)), some (.int (nI p.toNat)), some (.int (nI d.toNat)), none] [.int (iI (nb (wh p.toNat) d.toNat))]
      refine V_istore_n X dX11_walks_32 (by decide) rfl ?_
      refine V_iload_n X dX11_walks_33 rfl ?_
      refine V_if_geI (i := nb (wh p.toNat) d.toNat) X 40 dX11_walks_34 (by decide) (iI_toInt (by omega) (by omega)) (fun c_7 => ?_) (fun c_7 => ?_)
      · refine V_loc (y := (nI ((nb (wh p.toNat) d.toNat).toNat))) 3 rfl (mv_sn (by omega)) ?_
        refine V_aload_n X dX11_walks_40 rfl ?_
        refine V_get X fl_X11_33 0 0 rfl rfl rfl dX11_walks_41 ?_
        refine V_aload_n X dX11_walks_44 rfl ?_
        refine V_get X fl_X11_26 0 0 rfl rfl rfl dX11_walks_45 ?_
        refine V_callV (rest := []) X (c_X5_remember (Cl C) G pp am P q kn c wh de t sv vt ps (by first | assumption | omega) (by first | assumption | omega)) mi_X5_remember kw_2_224 kw_2_225 kw_2_226 dX11_walks_48 [2, 3, 4, 5, 6, 7, 8, 9, 10, 11, 12, 13] rfl (by decide) 3 0 rfl rfl rfl rfl rfl rfl (by decide) (Nat.le_of_ble_eq_true rfl) ⟨rfl, rfl⟩ (fun _ _ => ?_)
        show V C 0 0 [gMoot G a (fun j => im j 0) kd re (b 0) (c 0) (pp 0) fa (nF kk) (nF ts) (sF bt) (sF sp) (nF qu) (iI bs) (lN tr), gRoll G b (nF w) (nF v) (nI n) (nI k), gMo G c (nF wh) (nF de) t (nI sv) (nI vt) (nI ps), gPast G pp (fun j => am j 0) (nI ((q + 1) % 10)) (nI (min 10 (kn + 1))), gMoT G (am 0) (va_up P q (wh, de, t, sv, vt, ps) 0), gMoT G (am 1) (va_up P q (wh, de, t, sv, vt, ps) 1), gMoT G (am 2) (va_up P q (wh, de, t, sv, vt, ps) 2), gMoT G (am 3) (va_up P q (wh, de, t, sv, vt, ps) 3), gMoT G (am 4) (va_up P q (wh, de, t, sv, vt, ps) 4), gMoT G (am 5) (va_up P q (wh, de, t, sv, vt, ps) 5), gMoT G (am 6) (va_up P q (wh, de, t, sv, vt, ps) 6), gMoT G (am 7) (va_up P q (wh, de, t, sv, vt, ps) 7), gMoT G (am 8) (va_up P q (wh, de, t, sv, vt, ps) 8), gMoT G (am 9) (va_up P q (wh, de, t, sv, vt, ps) 9)] 51 [some (.ref (a 0)), some (.int (nI p.toNat)), some (.int (nI d.toNat)), some (.int (nI ((nb (wh p.toNat) d.toNat).toNat)))] []
        refine V_aload_n X dX11_walks_51 rfl ?_
        refine V_get X fl_X11_26 0 0 rfl rfl rfl dX11_walks_52 ?_
        refine V_iload_n X dX11_walks_55 rfl ?_
        refine V_iload_n X dX11_walks_56 rfl ?_
        refine V_callV (rest := []) X (c_X3_put (Cl C) G c wh de t sv vt ps p.toNat ((nb (wh p.toNat) d.toNat).toNat) (by first | assumption | omega)) mi_X3_put kw_2_230 kw_2_90 kw_2_91 dX11_walks_57 [2] rfl (by decide) 2 0 rfl rfl rfl rfl rfl rfl (by decide) (Nat.le_of_ble_eq_true rfl) ⟨rfl, rfl⟩ (fun _ _ => ?_)
        show V C 0 0 [gMoot G a (fun j => im j 0) kd re (b 0) (c 0) (pp 0) fa (nF kk) (nF ts) (sF bt) (sF sp) (nF qu) (iI bs) (lN tr), gRoll G b (nF w) (nF v) (nI n) (nI k), gMo G c (nF (va_up wh p.toNat ((nb (wh p.toNat) d.toNat).toNat))) (nF de) t (nI sv) (nI vt) (nI ps), gPast G pp (fun j => am j 0) (nI ((q + 1) % 10)) (nI (min 10 (kn + 1))), gMoT G (am 0) (va_up P q (wh, de, t, sv, vt, ps) 0), gMoT G (am 1) (va_up P q (wh, de, t, sv, vt, ps) 1), gMoT G (am 2) (va_up P q (wh, de, t, sv, vt, ps) 2), gMoT G (am 3) (va_up P q (wh, de, t, sv, vt, ps) 3), gMoT G (am 4) (va_up P q (wh, de, t, sv, vt, ps) 4), gMoT G (am 5) (va_up P q (wh, de, t, sv, vt, ps) 5), gMoT G (am 6) (va_up P q (wh, de, t, sv, vt, ps) 6), gMoT G (am 7) (va_up P q (wh, de, t, sv, vt, ps) 7), gMoT G (am 8) (va_up P q (wh, de, t, sv, vt, ps) 8), gMoT G (am 9) (va_up P q (wh, de, t, sv, vt, ps) 9)] 60 [some (.ref (a 0)), some (.int (nI p.toNat)), some (.int (nI d.toNat)), some (.int (nI ((nb (wh p.toNat) d.toNat).toNat)))] []
        refine V_aload_n X dX11_walks_60 rfl ?_
        refine V_get X fl_X11_26 0 0 rfl rfl rfl dX11_walks_61 ?_
        refine V_iload_n X dX11_walks_64 rfl ?_
        refine V_aload_n X dX11_walks_65 rfl ?_
        refine V_get X fl_X11_19 0 0 rfl rfl rfl dX11_walks_66 ?_
        refine V_iload_n X dX11_walks_69 rfl ?_
        refine V_callV (rest := [.int (nI ((nb (wh p.toNat) d.toNat).toNat)), .ref (c 0)]) X (c_X7_weightOf (Cl C) G b w v n k p.toNat (by first | assumption | omega)) mi_X7_weightOf kw_2_176 kw_2_177 kw_2_178 dX11_walks_70 [1] rfl (by decide) 1 0 rfl rfl rfl rfl rfl rfl (by decide) (Nat.le_of_ble_eq_true rfl) ⟨rfl, rfl⟩ (fun _ _ => ?_)
        show V C 0 0 [gMoot G a (fun j => im j 0) kd re (b 0) (c 0) (pp 0) fa (nF kk) (nF ts) (sF bt) (sF sp) (nF qu) (iI bs) (lN tr), gRoll G b (nF w) (nF v) (nI n) (nI k), gMo G c (nF (va_up wh p.toNat ((nb (wh p.toNat) d.toNat).toNat))) (nF de) t (nI sv) (nI vt) (nI ps), gPast G pp (fun j => am j 0) (nI ((q + 1) % 10)) (nI (min 10 (kn + 1))), gMoT G (am 0) (va_up P q (wh, de, t, sv, vt, ps) 0), gMoT G (am 1) (va_up P q (wh, de, t, sv, vt, ps) 1), gMoT G (am 2) (va_up P q (wh, de, t, sv, vt, ps) 2), gMoT G (am 3) (va_up P q (wh, de, t, sv, vt, ps) 3), gMoT G (am 4) (va_up P q (wh, de, t, sv, vt, ps) 4), gMoT G (am 5) (va_up P q (wh, de, t, sv, vt, ps) 5), gMoT G (am 6) (va_up P q (wh, de, t, sv, vt, ps) 6), gMoT G (am 7) (va_up P q (wh, de, t, sv, vt, ps) 7), gMoT G (am 8) (va_up P q (wh, de, t, sv, vt, ps) 8), gMoT G (am 9) (va_up P q (wh, de, t, sv, vt, ps) 9)] 73 [some (.ref (a 0)), some (.int (nI p.toNat)), some (.int (nI d.toNat)), some (.int (nI ((nb (wh p.toNat) d.toNat).toNat)))] [.int (nI (w p.toNat)), .int (nI ((nb (wh p.toNat) d.toNat).toNat)), .ref (c 0)]
        refine V_iload_n X dX11_walks_73 rfl ?_
        refine V_callV (rest := []) X (c_X3_print (Cl C) G c (va_up wh p.toNat ((nb (wh p.toNat) d.toNat).toNat)) de t sv vt ps ((nb (wh p.toNat) d.toNat).toNat) (w p.toNat) d.toNat (by first | assumption | omega | exact hw _ | exact hde _) (by first | assumption | omega | exact hw _ | exact hde _) (by first | assumption | omega | exact hw _ | exact hde _)) mi_X3_print kw_2_231 kw_2_232 kw_2_233 dX11_walks_74 [2] rfl (by decide) 2 0 rfl rfl rfl rfl rfl rfl (by decide) (Nat.le_of_ble_eq_true rfl) ⟨rfl, rfl⟩ (fun _ _ => ?_)
        show V C 0 0 [gMoot G a (fun j => im j 0) kd re (b 0) (c 0) (pp 0) fa (nF kk) (nF ts) (sF bt) (sF sp) (nF qu) (iI bs) (lN tr), gRoll G b (nF w) (nF v) (nI n) (nI k), gMo G c (nF (va_up wh p.toNat ((nb (wh p.toNat) d.toNat).toNat))) (nF (va_up de ((nb (wh p.toNat) d.toNat).toNat) (min 9 (de ((nb (wh p.toNat) d.toNat).toNat) + (w p.toNat))))) (upd t ((nb (wh p.toNat) d.toNat).toNat) (nI d.toNat)) (nI sv) (nI vt) (nI ps), gPast G pp (fun j => am j 0) (nI ((q + 1) % 10)) (nI (min 10 (kn + 1))), gMoT G (am 0) (va_up P q (wh, de, t, sv, vt, ps) 0), gMoT G (am 1) (va_up P q (wh, de, t, sv, vt, ps) 1), gMoT G (am 2) (va_up P q (wh, de, t, sv, vt, ps) 2), gMoT G (am 3) (va_up P q (wh, de, t, sv, vt, ps) 3), gMoT G (am 4) (va_up P q (wh, de, t, sv, vt, ps) 4), gMoT G (am 5) (va_up P q (wh, de, t, sv, vt, ps) 5), gMoT G (am 6) (va_up P q (wh, de, t, sv, vt, ps) 6), gMoT G (am 7) (va_up P q (wh, de, t, sv, vt, ps) 7), gMoT G (am 8) (va_up P q (wh, de, t, sv, vt, ps) 8), gMoT G (am 9) (va_up P q (wh, de, t, sv, vt, ps) 9)] 77 [some (.ref (a 0)), some (.int (nI p.toNat)), some (.int (nI d.toNat)), some (.int (nI ((nb (wh p.toNat) d.toNat).toNat)))] [.int (nI (min 9 (de ((nb (wh p.toNat) d.toNat).toNat) + (w p.toNat))))]
        exact V_iret X Y ⟨((min 9 (de ((nb (wh p.toNat) d.toNat).toNat) + (w p.toNat)) : Nat) : Int), (va_up wh p.toNat ((nb (wh p.toNat) d.toNat).toNat)), va_up de ((nb (wh p.toNat) d.toNat).toNat) (min 9 (de ((nb (wh p.toNat) d.toNat).toNat) + (w p.toNat))), upd t ((nb (wh p.toNat) d.toNat).toNat) (nI d.toNat), sv, vt, ps, (va_up P q (wh, de, t, sv, vt, ps)), (q + 1) % 10, min 10 (kn + 1)⟩ (show (((min 9 (de ((nb (wh p.toNat) d.toNat).toNat) + (w p.toNat)) : Nat) : Int), (((va_up wh p.toNat ((nb (wh p.toNat) d.toNat).toNat)), (va_up de ((nb (wh p.toNat) d.toNat).toNat) (min 9 (de ((nb (wh p.toNat) d.toNat).toNat) + (w p.toNat)))), (upd t ((nb (wh p.toNat) d.toNat).toNat) (nI d.toNat)), sv, vt, ps), (va_up P q (wh, de, t, sv, vt, ps)), ((q + 1) % 10), (min 10 (kn + 1)))) = spWalks n w ((wh, de, t, sv, vt, ps), P, q, kn) p d from (by simp only [spWalks]; (repeat (first | rw [if_pos (by omega)] | rw [if_neg (by omega)])) <;> rfl)) (mv_ri (by rfl)) rfl rfl dX11_walks_77
      · refine V_bipush X (-2) dX11_walks_37 (by decide) ?_
        exact V_iret X Y ⟨-2, wh, de, t, sv, vt, ps, P, q, kn⟩ (show ((-2), ((wh, de, t, sv, vt, ps), P, q, kn)) = spWalks n w ((wh, de, t, sv, vt, ps), P, q, kn) p d from (by simp only [spWalks]; (repeat (first | rw [if_pos (by omega)] | rw [if_neg (by omega)])) <;> rfl)) (mv_ri (by rfl)) rfl rfl dX11_walks_39
    · refine V_iconst X (-1) dX11_walks_18 (by decide) ?_
      exact V_iret X Y ⟨-1, wh, de, t, sv, vt, ps, P, q, kn⟩ (show ((-1), ((wh, de, t, sv, vt, ps), P, q, kn)) = spWalks n w ((wh, de, t, sv, vt, ps), P, q, kn) p d from (by simp only [spWalks]; (repeat (first | rw [if_pos (by omega)] | rw [if_neg (by omega)])) <;> rfl)) (mv_ri (by rfl)) rfl rfl dX11_walks_19
set_option maxHeartbeats 4000000 in
set_option maxRecDepth 100000 in
theorem c_X11_stands (l : Launch) (G : mvG) (a : Nat → Nat) (im : Nat → Nat → Nat) (kd : Nat → Nat) (re : Nat) (fa : Nat) (b : Nat → Nat) (c : Nat → Nat) (kk : Nat → Nat) (ts : Nat → Nat) (bt : Nat → Int) (sp : Nat → Int) (qu : Nat → Nat) (bs : Int) (tr : Nat) (w : Nat → Nat) (v : Nat → Nat) (n : Nat) (k : Nat) (wh : Nat → Nat) (de : Nat → Nat) (t : Nat → Int32) (sv : Nat) (vt : Nat) (ps : Nat) (pp : Nat → Nat) (am : Nat → Nat → Nat) (P : Nat → MoT) (q : Nat) (kn : Nat) (p : Int) (d : Int) (hn : n ≤ 5) (hwh : ∀ j, wh j < 36) (hde : ∀ j, de j ≤ 9) (hw : ∀ j, w j ≤ 4) (hq : q < 10) (hkn : kn ≤ 10) (hp : -2147483648 ≤ p ∧ p < 2147483648) (hd : -2147483648 ≤ d ∧ d < 2147483648) : KQ l yX11_stands cX11_stands 3 (some .int) (3, 61) G [.ref (a 0), .int (iI p), .int (iI d)] [gMoot G a (fun j => im j 0) kd re (b 0) (c 0) (pp 0) fa (nF kk) (nF ts) (sF bt) (sF sp) (nF qu) (iI bs) (lN tr), gRoll G b (nF w) (nF v) (nI n) (nI k), gMo G c (nF wh) (nF de) t (nI sv) (nI vt) (nI ps), gPast G pp (fun j => am j 0) (nI q) (nI kn), gMoT G (am 0) (P 0), gMoT G (am 1) (P 1), gMoT G (am 2) (P 2), gMoT G (am 3) (P 3), gMoT G (am 4) (P 4), gMoT G (am 5) (P 5), gMoT G (am 6) (P 6), gMoT G (am 7) (P 7), gMoT G (am 8) (P 8), gMoT G (am 9) (P 9)] (fun (zz : Int × (Nat → Nat) × (Nat → Nat) × (Nat → Int32) × Nat × Nat × Nat × (Nat → MoT) × Nat × Nat) => some (.int (iI zz.1))) (fun (zz : Int × (Nat → Nat) × (Nat → Nat) × (Nat → Int32) × Nat × Nat × Nat × (Nat → MoT) × Nat × Nat) => (zz.1, ((zz.2.1, zz.2.2.1, zz.2.2.2.1, zz.2.2.2.2.1, zz.2.2.2.2.2.1, zz.2.2.2.2.2.2.1), zz.2.2.2.2.2.2.2.1, zz.2.2.2.2.2.2.2.2.1, zz.2.2.2.2.2.2.2.2.2)) = spStands n w ((wh, de, t, sv, vt, ps), P, q, kn) p d) (fun (zz : Int × (Nat → Nat) × (Nat → Nat) × (Nat → Int32) × Nat × Nat × Nat × (Nat → MoT) × Nat × Nat) => [gMoot G a (fun j => im j 0) kd re (b 0) (c 0) (pp 0) fa (nF kk) (nF ts) (sF bt) (sF sp) (nF qu) (iI bs) (lN tr), gRoll G b (nF w) (nF v) (nI n) (nI k), gMo G c (nF zz.2.1) (nF zz.2.2.1) zz.2.2.2.1 (nI zz.2.2.2.2.1) (nI zz.2.2.2.2.2.1) (nI zz.2.2.2.2.2.2.1), gPast G pp (fun j => am j 0) (nI zz.2.2.2.2.2.2.2.2.1) (nI zz.2.2.2.2.2.2.2.2.2), gMoT G (am 0) (zz.2.2.2.2.2.2.2.1 0), gMoT G (am 1) (zz.2.2.2.2.2.2.2.1 1), gMoT G (am 2) (zz.2.2.2.2.2.2.2.1 2), gMoT G (am 3) (zz.2.2.2.2.2.2.2.1 3), gMoT G (am 4) (zz.2.2.2.2.2.2.2.1 4), gMoT G (am 5) (zz.2.2.2.2.2.2.2.1 5), gMoT G (am 6) (zz.2.2.2.2.2.2.2.1 6), gMoT G (am 7) (zz.2.2.2.2.2.2.2.1 7), gMoT G (am 8) (zz.2.2.2.2.2.2.2.1 8), gMoT G (am 9) (zz.2.2.2.2.2.2.2.1 9)]) := by
  refine KQ.mk (by decide +kernel) (fun _ _ => rfl) [some (.ref (a 0)), some (.int (iI p)), some (.int (iI d))] (Nat.le_of_ble_eq_true rfl) rfl (fun C X Y hC => ?_)
  subst hC
  refine V_aload_n X dX11_stands_0 rfl ?_
  refine V_get X fl_X11_19 0 0 rfl rfl rfl dX11_stands_1 ?_
  refine V_iload_n X dX11_stands_4 rfl ?_
  refine V_callV (rest := []) X (c_X7_has (Cl C) G b w v n k p (by first | assumption | omega) (by first | assumption | omega)) mi_X7_has kw_2_169 kw_2_170 kw_2_171 dX11_stands_5 [1] rfl (by decide) 1 0 rfl rfl rfl rfl rfl rfl (by decide) (Nat.le_of_ble_eq_true rfl) ⟨rfl, rfl⟩ (fun u_ hu_2 => ?_)
  obtain ⟨b_1, rfl⟩ : ∃ z, z = u_ := ⟨_, rfl⟩
  have hu_2 : (b_1 = 1 ∧ 0 ≤ p ∧ p < (n : Int)) ∨ (b_1 = 0 ∧ (p < 0 ∨ (n : Int) ≤ p)) := hu_2
  show V C 0 0 [gMoot G a (fun j => im j 0) kd re (b 0) (c 0) (pp 0) fa (nF kk) (nF ts) (sF bt) (sF sp) (nF qu) (iI bs) (lN tr), gRoll G b (nF w) (nF v) (nI n) (nI k), gMo G c (nF wh) (nF de) t (nI sv) (nI vt) (nI ps), gPast G pp (fun j => am j 0) (nI q) (nI kn), gMoT G (am 0) (P 0), gMoT G (am 1) (P 1), gMoT G (am 2) (P 2), gMoT G (am 3) (P 3), gMoT G (am 4) (P 4), gMoT G (am 5) (P 5), gMoT G (am 6) (P 6), gMoT G (am 7) (P 7), gMoT G (am 8) (P 8), gMoT G (am 9) (P 9)] 8 [some (.ref (a 0)), some (.int (iI p)), some (.int (iI d))] [.int (nI b_1)]
  refine V_if_eqN X 18 dX11_stands_8 (by decide) (by omega) (fun c_3 => ?_) (fun c_3 => ?_)
  · refine V_iconst X (-1) dX11_stands_18 (by decide) ?_
    exact V_iret X Y ⟨-1, wh, de, t, sv, vt, ps, P, q, kn⟩ (show ((-1), ((wh, de, t, sv, vt, ps), P, q, kn)) = spStands n w ((wh, de, t, sv, vt, ps), P, q, kn) p d from (by simp only [spStands]; (repeat (first | rw [if_pos (by omega)] | rw [if_neg (by omega)])) <;> rfl)) (mv_ri (by rfl)) rfl rfl dX11_stands_19
  · refine V_iload_n X dX11_stands_11 rfl ?_
    refine V_callS (rest := []) X (c_X11_isSide (Cl C) G d (by first | assumption | omega)) mi_X11_isSide kw_2_218 kw_2_219 dX11_stands_12 [] rfl (by decide) rfl rfl (by decide) (Nat.le_of_ble_eq_true rfl) ⟨rfl, rfl⟩ (fun u_ hu_5 => ?_)
    obtain ⟨b_4, rfl⟩ : ∃ z, z = u_ := ⟨_, rfl⟩
    have hu_5 : (b_4 = 1 ∧ 0 ≤ d ∧ d < 4) ∨ (b_4 = 0 ∧ (d < 0 ∨ 4 ≤ d)) := hu_5
    show V C 0 0 [gMoot G a (fun j => im j 0) kd re (b 0) (c 0) (pp 0) fa (nF kk) (nF ts) (sF bt) (sF sp) (nF qu) (iI bs) (lN tr), gRoll G b (nF w) (nF v) (nI n) (nI k), gMo G c (nF wh) (nF de) t (nI sv) (nI vt) (nI ps), gPast G pp (fun j => am j 0) (nI q) (nI kn), gMoT G (am 0) (P 0), gMoT G (am 1) (P 1), gMoT G (am 2) (P 2), gMoT G (am 3) (P 3), gMoT G (am 4) (P 4), gMoT G (am 5) (P 5), gMoT G (am 6) (P 6), gMoT G (am 7) (P 7), gMoT G (am 8) (P 8), gMoT G (am 9) (P 9)] 15 [some (.ref (a 0)), some (.int (iI p)), some (.int (iI d))] [.int (nI b_4)]
    refine V_if_neN X 20 dX11_stands_15 (by decide) (by omega) (fun c_6 => ?_) (fun c_6 => ?_)
    · refine V_loc (y := (nI p.toNat)) 1 rfl (mv_sn (by omega)) ?_
      refine V_loc (y := (nI d.toNat)) 2 rfl (mv_sn (by omega)) ?_
      refine V_aload_n X dX11_stands_20 rfl ?_
      refine V_get X fl_X11_33 0 0 rfl rfl rfl dX11_stands_21 ?_
      refine V_aload_n X dX11_stands_24 rfl ?_
      refine V_get X fl_X11_26 0 0 rfl rfl rfl dX11_stands_25 ?_
      refine V_callV (rest := []) X (c_X5_remember (Cl C) G pp am P q kn c wh de t sv vt ps (by first | assumption | omega) (by first | assumption | omega)) mi_X5_remember kw_2_224 kw_2_225 kw_2_226 dX11_stands_28 [2, 3, 4, 5, 6, 7, 8, 9, 10, 11, 12, 13] rfl (by decide) 3 0 rfl rfl rfl rfl rfl rfl (by decide) (Nat.le_of_ble_eq_true rfl) ⟨rfl, rfl⟩ (fun _ _ => ?_)
      show V C 0 0 [gMoot G a (fun j => im j 0) kd re (b 0) (c 0) (pp 0) fa (nF kk) (nF ts) (sF bt) (sF sp) (nF qu) (iI bs) (lN tr), gRoll G b (nF w) (nF v) (nI n) (nI k), gMo G c (nF wh) (nF de) t (nI sv) (nI vt) (nI ps), gPast G pp (fun j => am j 0) (nI ((q + 1) % 10)) (nI (min 10 (kn + 1))), gMoT G (am 0) (va_up P q (wh, de, t, sv, vt, ps) 0), gMoT G (am 1) (va_up P q (wh, de, t, sv, vt, ps) 1), gMoT G (am 2) (va_up P q (wh, de, t, sv, vt, ps) 2), gMoT G (am 3) (va_up P q (wh, de, t, sv, vt, ps) 3), gMoT G (am 4) (va_up P q (wh, de, t, sv, vt, ps) 4), gMoT G (am 5) (va_up P q (wh, de, t, sv, vt, ps) 5), gMoT G (am 6) (va_up P q (wh, de, t, sv, vt, ps) 6), gMoT G (am 7) (va_up P q (wh, de, t, sv, vt, ps) 7), gMoT G (am 8) (va_up P q (wh, de, t, sv, vt, ps) 8), gMoT G (am 9) (va_up P q (wh, de, t, sv, vt, ps) 9)] 31 [some (.ref (a 0)), some (.int (nI p.toNat)), some (.int (nI d.toNat))] []
      refine V_aload_n X dX11_stands_31 rfl ?_
      refine V_get X fl_X11_26 0 0 rfl rfl rfl dX11_stands_32 ?_
      refine V_aload_n X dX11_stands_35 rfl ?_
      refine V_get X fl_X11_26 0 0 rfl rfl rfl dX11_stands_36 ?_
      refine V_iload_n X dX11_stands_39 rfl ?_
      refine V_callV (rest := [.ref (c 0)]) X (c_X3_placeOf (Cl C) G c wh de t sv vt ps p.toNat (by first | assumption | omega)) mi_X3_placeOf kw_2_157 kw_2_158 kw_2_159 dX11_stands_40 [2] rfl (by decide) 2 0 rfl rfl rfl rfl rfl rfl (by decide) (Nat.le_of_ble_eq_true rfl) ⟨rfl, rfl⟩ (fun _ _ => ?_)
      show V C 0 0 [gMoot G a (fun j => im j 0) kd re (b 0) (c 0) (pp 0) fa (nF kk) (nF ts) (sF bt) (sF sp) (nF qu) (iI bs) (lN tr), gRoll G b (nF w) (nF v) (nI n) (nI k), gMo G c (nF wh) (nF de) t (nI sv) (nI vt) (nI ps), gPast G pp (fun j => am j 0) (nI ((q + 1) % 10)) (nI (min 10 (kn + 1))), gMoT G (am 0) (va_up P q (wh, de, t, sv, vt, ps) 0), gMoT G (am 1) (va_up P q (wh, de, t, sv, vt, ps) 1), gMoT G (am 2) (va_up P q (wh, de, t, sv, vt, ps) 2), gMoT G (am 3) (va_up P q (wh, de, t, sv, vt, ps) 3), gMoT G (am 4) (va_up P q (wh, de, t, sv, vt, ps) 4), gMoT G (am 5) (va_up P q (wh, de, t, sv, vt, ps) 5), gMoT G (am 6) (va_up P q (wh, de, t, sv, vt, ps) 6), gMoT G (am 7) (va_up P q (wh, de, t, sv, vt, ps) 7), gMoT G (am 8) (va_up P q (wh, de, t, sv, vt, ps) 8), gMoT G (am 9) (va_up P q (wh, de, t, sv, vt, ps) 9)] 43 [some (.ref (a 0)), some (.int (nI p.toNat)), some (.int (nI d.toNat))] [.int (nI (wh p.toNat)), .ref (c 0)]
      have hwp := hwh p.toNat
      refine V_aload_n X dX11_stands_43 rfl ?_
      refine V_get X fl_X11_19 0 0 rfl rfl rfl dX11_stands_44 ?_
      refine V_iload_n X dX11_stands_47 rfl ?_
      refine V_callV (rest := [.int (nI (wh p.toNat)), .ref (c 0)]) X (c_X7_weightOf (Cl C) G b w v n k p.toNat (by first | assumption | omega)) mi_X7_weightOf kw_2_176 kw_2_177 kw_2_178 dX11_stands_48 [1] rfl (by decide) 1 0 rfl rfl rfl rfl rfl rfl (by decide) (Nat.le_of_ble_eq_true rfl) ⟨rfl, rfl⟩ (fun _ _ => ?_)
      show V C 0 0 [gMoot G a (fun j => im j 0) kd re (b 0) (c 0) (pp 0) fa (nF kk) (nF ts) (sF bt) (sF sp) (nF qu) (iI bs) (lN tr), gRoll G b (nF w) (nF v) (nI n) (nI k), gMo G c (nF wh) (nF de) t (nI sv) (nI vt) (nI ps), gPast G pp (fun j => am j 0) (nI ((q + 1) % 10)) (nI (min 10 (kn + 1))), gMoT G (am 0) (va_up P q (wh, de, t, sv, vt, ps) 0), gMoT G (am 1) (va_up P q (wh, de, t, sv, vt, ps) 1), gMoT G (am 2) (va_up P q (wh, de, t, sv, vt, ps) 2), gMoT G (am 3) (va_up P q (wh, de, t, sv, vt, ps) 3), gMoT G (am 4) (va_up P q (wh, de, t, sv, vt, ps) 4), gMoT G (am 5) (va_up P q (wh, de, t, sv, vt, ps) 5), gMoT G (am 6) (va_up P q (wh, de, t, sv, vt, ps) 6), gMoT G (am 7) (va_up P q (wh, de, t, sv, vt, ps) 7), gMoT G (am 8) (va_up P q (wh, de, t, sv, vt, ps) 8), gMoT G (am 9) (va_up P q (wh, de, t, sv, vt, ps) 9)] 51 [some (.ref (a 0)), some (.int (nI p.toNat)), some (.int (nI d.toNat))] [.int (nI (w p.toNat)), .int (nI (wh p.toNat)), .ref (c 0)]
      refine V_iload_n X dX11_stands_51 rfl ?_
      refine V_callV (rest := []) X (c_X3_print (Cl C) G c wh de t sv vt ps (wh p.toNat) (w p.toNat) d.toNat (by first | assumption | omega | exact hw _ | exact hde _) (by first | assumption | omega | exact hw _ | exact hde _) (by first | assumption | omega | exact hw _ | exact hde _)) mi_X3_print kw_2_231 kw_2_232 kw_2_233 dX11_stands_52 [2] rfl (by decide) 2 0 rfl rfl rfl rfl rfl rfl (by decide) (Nat.le_of_ble_eq_true rfl) ⟨rfl, rfl⟩ (fun _ _ => ?_)
      show V C 0 0 [gMoot G a (fun j => im j 0) kd re (b 0) (c 0) (pp 0) fa (nF kk) (nF ts) (sF bt) (sF sp) (nF qu) (iI bs) (lN tr), gRoll G b (nF w) (nF v) (nI n) (nI k), gMo G c (nF wh) (nF (va_up de (wh p.toNat) (min 9 (de (wh p.toNat) + (w p.toNat))))) (upd t (wh p.toNat) (nI d.toNat)) (nI sv) (nI vt) (nI ps), gPast G pp (fun j => am j 0) (nI ((q + 1) % 10)) (nI (min 10 (kn + 1))), gMoT G (am 0) (va_up P q (wh, de, t, sv, vt, ps) 0), gMoT G (am 1) (va_up P q (wh, de, t, sv, vt, ps) 1), gMoT G (am 2) (va_up P q (wh, de, t, sv, vt, ps) 2), gMoT G (am 3) (va_up P q (wh, de, t, sv, vt, ps) 3), gMoT G (am 4) (va_up P q (wh, de, t, sv, vt, ps) 4), gMoT G (am 5) (va_up P q (wh, de, t, sv, vt, ps) 5), gMoT G (am 6) (va_up P q (wh, de, t, sv, vt, ps) 6), gMoT G (am 7) (va_up P q (wh, de, t, sv, vt, ps) 7), gMoT G (am 8) (va_up P q (wh, de, t, sv, vt, ps) 8), gMoT G (am 9) (va_up P q (wh, de, t, sv, vt, ps) 9)] 55 [some (.ref (a 0)), some (.int (nI p.toNat)), some (.int (nI d.toNat))] [.int (nI (min 9 (de (wh p.toNat) + (w p.toNat))))]
      exact V_iret X Y ⟨((min 9 (de (wh p.toNat) + (w p.toNat)) : Nat) : Int), wh, va_up de (wh p.toNat) (min 9 (de (wh p.toNat) + (w p.toNat))), upd t (wh p.toNat) (nI d.toNat), sv, vt, ps, (va_up P q (wh, de, t, sv, vt, ps)), (q + 1) % 10, min 10 (kn + 1)⟩ (show (((min 9 (de (wh p.toNat) + (w p.toNat)) : Nat) : Int), ((wh, (va_up de (wh p.toNat) (min 9 (de (wh p.toNat) + (w p.toNat)))), (upd t (wh p.toNat) (nI d.toNat)), sv, vt, ps), (va_up P q (wh, de, t, sv, vt, ps)), ((q + 1) % 10), (min 10 (kn + 1)))) = spStands n w ((wh, de, t, sv, vt, ps), P, q, kn) p d from (by simp only [spStands]; (repeat (first | rw [if_pos (by omega)] | rw [if_neg (by omega)])) <;> rfl)) (mv_ri (by rfl)) rfl rfl dX11_stands_55
    · refine V_iconst X (-1) dX11_stands_18 (by decide) ?_
      exact V_iret X Y ⟨-1, wh, de, t, sv, vt, ps, P, q, kn⟩ (show ((-1), ((wh, de, t, sv, vt, ps), P, q, kn)) = spStands n w ((wh, de, t, sv, vt, ps), P, q, kn) p d from (by simp only [spStands]; (repeat (first | rw [if_pos (by omega)] | rw [if_neg (by omega)])) <;> rfl)) (mv_ri (by rfl)) rfl rfl dX11_stands_19
set_option maxHeartbeats 4000000 in
set_option maxRecDepth 100000 in
theorem c_X11_rains (l : Launch) (G : mvG) (a : Nat → Nat) (im : Nat → Nat → Nat) (kd : Nat → Nat) (re : Nat) (fa : Nat) (b : Nat → Nat) (c : Nat → Nat) (kk : Nat → Nat) (ts : Nat → Nat) (bt : Nat → Int) (sp : Nat → Int) (qu : Nat → Nat) (bs : Int) (tr : Nat) (w : Nat → Nat) (v : Nat → Nat) (n : Nat) (k : Nat) (wh : Nat → Nat) (de : Nat → Nat) (t : Nat → Int32) (sv : Nat) (vt : Nat) (ps : Nat) (pp : Nat → Nat) (am : Nat → Nat → Nat) (P : Nat → MoT) (q : Nat) (kn : Nat) (hde : ∀ j, de j ≤ 9) (hk : 1 ≤ k ∧ k ≤ 9) (hq : q < 10) (hkn : kn ≤ 10) : KQ l yX11_rains cX11_rains 1 (some .int) (3, 61) G [.ref (a 0)] [gMoot G a (fun j => im j 0) kd re (b 0) (c 0) (pp 0) fa (nF kk) (nF ts) (sF bt) (sF sp) (nF qu) (iI bs) (lN tr), gRoll G b (nF w) (nF v) (nI n) (nI k), gMo G c (nF wh) (nF de) t (nI sv) (nI vt) (nI ps), gPast G pp (fun j => am j 0) (nI q) (nI kn), gMoT G (am 0) (P 0), gMoT G (am 1) (P 1), gMoT G (am 2) (P 2), gMoT G (am 3) (P 3), gMoT G (am 4) (P 4), gMoT G (am 5) (P 5), gMoT G (am 6) (P 6), gMoT G (am 7) (P 7), gMoT G (am 8) (P 8), gMoT G (am 9) (P 9)] (fun (zz : Int × (Nat → Nat) × (Nat → Nat) × (Nat → Int32) × Nat × Nat × Nat × (Nat → MoT) × Nat × Nat) => some (.int (iI zz.1))) (fun (zz : Int × (Nat → Nat) × (Nat → Nat) × (Nat → Int32) × Nat × Nat × Nat × (Nat → MoT) × Nat × Nat) => (zz.1, ((zz.2.1, zz.2.2.1, zz.2.2.2.1, zz.2.2.2.2.1, zz.2.2.2.2.2.1, zz.2.2.2.2.2.2.1), zz.2.2.2.2.2.2.2.1, zz.2.2.2.2.2.2.2.2.1, zz.2.2.2.2.2.2.2.2.2)) = spRains k ((wh, de, t, sv, vt, ps), P, q, kn)) (fun (zz : Int × (Nat → Nat) × (Nat → Nat) × (Nat → Int32) × Nat × Nat × Nat × (Nat → MoT) × Nat × Nat) => [gMoot G a (fun j => im j 0) kd re (b 0) (c 0) (pp 0) fa (nF kk) (nF ts) (sF bt) (sF sp) (nF qu) (iI bs) (lN tr), gRoll G b (nF w) (nF v) (nI n) (nI k), gMo G c (nF zz.2.1) (nF zz.2.2.1) zz.2.2.2.1 (nI zz.2.2.2.2.1) (nI zz.2.2.2.2.2.1) (nI zz.2.2.2.2.2.2.1), gPast G pp (fun j => am j 0) (nI zz.2.2.2.2.2.2.2.2.1) (nI zz.2.2.2.2.2.2.2.2.2), gMoT G (am 0) (zz.2.2.2.2.2.2.2.1 0), gMoT G (am 1) (zz.2.2.2.2.2.2.2.1 1), gMoT G (am 2) (zz.2.2.2.2.2.2.2.1 2), gMoT G (am 3) (zz.2.2.2.2.2.2.2.1 3), gMoT G (am 4) (zz.2.2.2.2.2.2.2.1 4), gMoT G (am 5) (zz.2.2.2.2.2.2.2.1 5), gMoT G (am 6) (zz.2.2.2.2.2.2.2.1 6), gMoT G (am 7) (zz.2.2.2.2.2.2.2.1 7), gMoT G (am 8) (zz.2.2.2.2.2.2.2.1 8), gMoT G (am 9) (zz.2.2.2.2.2.2.2.1 9)]) := by
  refine KQ.mk (by decide +kernel) (fun _ _ => rfl) [some (.ref (a 0))] (Nat.le_of_ble_eq_true rfl) rfl (fun C X Y hC => ?_)
  subst hC
  refine V_aload_n X dX11_rains_0 rfl ?_
  refine V_get X fl_X11_33 0 0 rfl rfl rfl dX11_rains_1 ?_
  refine V_aload_n X dX11_rains_4 rfl ?_
  refine V_get X fl_X11_26 0 0 rfl rfl rfl dX11_rains_5 ?_
  refine V_callV (rest := []) X (c_X5_remember (Cl C) G pp am P q kn c wh de t sv vt ps (by first | assumption | omega) (by first | assumption | omega)) mi_X5_remember kw_2_224 kw_2_225 kw_2_226 dX11_rains_8 [2, 3, 4, 5, 6, 7, 8, 9, 10, 11, 12, 13] rfl (by decide) 3 0 rfl rfl rfl rfl rfl rfl (by decide) (Nat.le_of_ble_eq_true rfl) ⟨rfl, rfl⟩ (fun _ _ => ?_)
  show V C 0 0 [gMoot G a (fun j => im j 0) kd re (b 0) (c 0) (pp 0) fa (nF kk) (nF ts) (sF bt) (sF sp) (nF qu) (iI bs) (lN tr), gRoll G b (nF w) (nF v) (nI n) (nI k), gMo G c (nF wh) (nF de) t (nI sv) (nI vt) (nI ps), gPast G pp (fun j => am j 0) (nI ((q + 1) % 10)) (nI (min 10 (kn + 1))), gMoT G (am 0) (va_up P q (wh, de, t, sv, vt, ps) 0), gMoT G (am 1) (va_up P q (wh, de, t, sv, vt, ps) 1), gMoT G (am 2) (va_up P q (wh, de, t, sv, vt, ps) 2), gMoT G (am 3) (va_up P q (wh, de, t, sv, vt, ps) 3), gMoT G (am 4) (va_up P q (wh, de, t, sv, vt, ps) 4), gMoT G (am 5) (va_up P q (wh, de, t, sv, vt, ps) 5), gMoT G (am 6) (va_up P q (wh, de, t, sv, vt, ps) 6), gMoT G (am 7) (va_up P q (wh, de, t, sv, vt, ps) 7), gMoT G (am 8) (va_up P q (wh, de, t, sv, vt, ps) 8), gMoT G (am 9) (va_up P q (wh, de, t, sv, vt, ps) 9)] 11 [some (.ref (a 0))] []
  refine V_aload_n X dX11_rains_11 rfl ?_
  refine V_get X fl_X11_26 0 0 rfl rfl rfl dX11_rains_12 ?_
  refine V_aload_n X dX11_rains_15 rfl ?_
  refine V_get X fl_X11_19 0 0 rfl rfl rfl dX11_rains_16 ?_
  refine V_get X fl_X11_193 1 0 rfl rfl rfl dX11_rains_19 ?_
  refine V_callV (rest := []) X (c_X3_soak (Cl C) G c wh de t sv vt ps k (by first | assumption | omega) (by first | assumption | omega)) mi_X3_soak kw_3_4 kw_3_5 kw_3_6 dX11_rains_22 [2] rfl (by decide) 2 0 rfl rfl rfl rfl rfl rfl (by decide) (Nat.le_of_ble_eq_true rfl) ⟨rfl, rfl⟩ (fun _ _ => ?_)
  show V C 0 0 [gMoot G a (fun j => im j 0) kd re (b 0) (c 0) (pp 0) fa (nF kk) (nF ts) (sF bt) (sF sp) (nF qu) (iI bs) (lN tr), gRoll G b (nF w) (nF v) (nI n) (nI k), gMo G c (nF wh) (nF (soakD de k)) (soakT de k t) (nI sv) (nI vt) (nI ps), gPast G pp (fun j => am j 0) (nI ((q + 1) % 10)) (nI (min 10 (kn + 1))), gMoT G (am 0) (va_up P q (wh, de, t, sv, vt, ps) 0), gMoT G (am 1) (va_up P q (wh, de, t, sv, vt, ps) 1), gMoT G (am 2) (va_up P q (wh, de, t, sv, vt, ps) 2), gMoT G (am 3) (va_up P q (wh, de, t, sv, vt, ps) 3), gMoT G (am 4) (va_up P q (wh, de, t, sv, vt, ps) 4), gMoT G (am 5) (va_up P q (wh, de, t, sv, vt, ps) 5), gMoT G (am 6) (va_up P q (wh, de, t, sv, vt, ps) 6), gMoT G (am 7) (va_up P q (wh, de, t, sv, vt, ps) 7), gMoT G (am 8) (va_up P q (wh, de, t, sv, vt, ps) 8), gMoT G (am 9) (va_up P q (wh, de, t, sv, vt, ps) 9)] 25 [some (.ref (a 0))] [.int (nI (cntS de k 36))]
  exact V_iret X Y ⟨((cntS de k 36 : Nat) : Int), wh, soakD de k, soakT de k t, sv, vt, ps, (va_up P q (wh, de, t, sv, vt, ps)), (q + 1) % 10, min 10 (kn + 1)⟩ (show (((cntS de k 36 : Nat) : Int), ((wh, (soakD de k), (soakT de k t), sv, vt, ps), (va_up P q (wh, de, t, sv, vt, ps)), ((q + 1) % 10), (min 10 (kn + 1)))) = spRains k ((wh, de, t, sv, vt, ps), P, q, kn) from rfl) (mv_ri (by rfl)) rfl rfl dX11_rains_25
set_option maxHeartbeats 4000000 in
set_option maxRecDepth 100000 in
theorem c_X11_lifts (l : Launch) (G : mvG) (a : Nat → Nat) (im : Nat → Nat → Nat) (kd : Nat → Nat) (re : Nat) (fa : Nat) (b : Nat → Nat) (c : Nat → Nat) (kk : Nat → Nat) (ts : Nat → Nat) (bt : Nat → Int) (sp : Nat → Int) (qu : Nat → Nat) (bs : Int) (tr : Nat) (wh : Nat → Nat) (de : Nat → Nat) (t : Nat → Int32) (sv : Nat) (vt : Nat) (ps : Nat) (pp : Nat → Nat) (am : Nat → Nat → Nat) (P : Nat → MoT) (q : Nat) (kn : Nat) (x : Int) (y : Int) (hde : ∀ j, de j ≤ 9) (hq : q < 10) (hkn : kn ≤ 10) (hsv : sv ≤ 999) (hx : -2147483648 ≤ x ∧ x < 2147483648) (hy : -2147483648 ≤ y ∧ y < 2147483648) : KQ l yX11_lifts cX11_lifts 4 (some .int) (4, 85) G [.ref (a 0), .int (iI x), .int (iI y)] [gMoot G a (fun j => im j 0) kd re (b 0) (c 0) (pp 0) fa (nF kk) (nF ts) (sF bt) (sF sp) (nF qu) (iI bs) (lN tr), gMo G c (nF wh) (nF de) t (nI sv) (nI vt) (nI ps), gPast G pp (fun j => am j 0) (nI q) (nI kn), gMoT G (am 0) (P 0), gMoT G (am 1) (P 1), gMoT G (am 2) (P 2), gMoT G (am 3) (P 3), gMoT G (am 4) (P 4), gMoT G (am 5) (P 5), gMoT G (am 6) (P 6), gMoT G (am 7) (P 7), gMoT G (am 8) (P 8), gMoT G (am 9) (P 9)] (fun (zz : Int × (Nat → Nat) × (Nat → Nat) × (Nat → Int32) × Nat × Nat × Nat × (Nat → MoT) × Nat × Nat) => some (.int (iI zz.1))) (fun (zz : Int × (Nat → Nat) × (Nat → Nat) × (Nat → Int32) × Nat × Nat × Nat × (Nat → MoT) × Nat × Nat) => (zz.1, ((zz.2.1, zz.2.2.1, zz.2.2.2.1, zz.2.2.2.2.1, zz.2.2.2.2.2.1, zz.2.2.2.2.2.2.1), zz.2.2.2.2.2.2.2.1, zz.2.2.2.2.2.2.2.2.1, zz.2.2.2.2.2.2.2.2.2)) = spLifts ((wh, de, t, sv, vt, ps), P, q, kn) x y) (fun (zz : Int × (Nat → Nat) × (Nat → Nat) × (Nat → Int32) × Nat × Nat × Nat × (Nat → MoT) × Nat × Nat) => [gMoot G a (fun j => im j 0) kd re (b 0) (c 0) (pp 0) fa (nF kk) (nF ts) (sF bt) (sF sp) (nF qu) (iI bs) (lN tr), gMo G c (nF zz.2.1) (nF zz.2.2.1) zz.2.2.2.1 (nI zz.2.2.2.2.1) (nI zz.2.2.2.2.2.1) (nI zz.2.2.2.2.2.2.1), gPast G pp (fun j => am j 0) (nI zz.2.2.2.2.2.2.2.2.1) (nI zz.2.2.2.2.2.2.2.2.2), gMoT G (am 0) (zz.2.2.2.2.2.2.2.1 0), gMoT G (am 1) (zz.2.2.2.2.2.2.2.1 1), gMoT G (am 2) (zz.2.2.2.2.2.2.2.1 2), gMoT G (am 3) (zz.2.2.2.2.2.2.2.1 3), gMoT G (am 4) (zz.2.2.2.2.2.2.2.1 4), gMoT G (am 5) (zz.2.2.2.2.2.2.2.1 5), gMoT G (am 6) (zz.2.2.2.2.2.2.2.1 6), gMoT G (am 7) (zz.2.2.2.2.2.2.2.1 7), gMoT G (am 8) (zz.2.2.2.2.2.2.2.1 8), gMoT G (am 9) (zz.2.2.2.2.2.2.2.1 9)]) := by
  refine KQ.mk (by decide +kernel) (fun _ _ => rfl) [some (.ref (a 0)), some (.int (iI x)), some (.int (iI y)), none] (Nat.le_of_ble_eq_true rfl) rfl (fun C X Y hC => ?_)
  subst hC
  refine V_iload_n X dX11_lifts_0 rfl ?_
  refine V_iload_n X dX11_lifts_1 rfl ?_
  refine V_callS (rest := []) X (c_X11_isTray (Cl C) G x y (by first | assumption | omega) (by first | assumption | omega)) mi_X11_isTray kw_3_16 kw_3_17 dX11_lifts_2 [] rfl (by decide) rfl rfl (by decide) (Nat.le_of_ble_eq_true rfl) ⟨rfl, rfl⟩ (fun u_ hu_2 => ?_)
  obtain ⟨b_1, rfl⟩ : ∃ z, z = u_ := ⟨_, rfl⟩
  have hu_2 : (b_1 = 1 ∧ 0 ≤ x ∧ x < 5 ∧ 0 ≤ y ∧ y < 5) ∨ (b_1 = 0 ∧ (x < 0 ∨ 5 ≤ x ∨ y < 0 ∨ 5 ≤ y)) := hu_2
  show V C 0 0 [gMoot G a (fun j => im j 0) kd re (b 0) (c 0) (pp 0) fa (nF kk) (nF ts) (sF bt) (sF sp) (nF qu) (iI bs) (lN tr), gMo G c (nF wh) (nF de) t (nI sv) (nI vt) (nI ps), gPast G pp (fun j => am j 0) (nI q) (nI kn), gMoT G (am 0) (P 0), gMoT G (am 1) (P 1), gMoT G (am 2) (P 2), gMoT G (am 3) (P 3), gMoT G (am 4) (P 4), gMoT G (am 5) (P 5), gMoT G (am 6) (P 6), gMoT G (am 7) (P 7), gMoT G (am 8) (P 8), gMoT G (am 9) (P 9)] 5 [some (.ref (a 0)), some (.int (iI x)), some (.int (iI y)), none] [.int (nI b_1)]
  refine V_if_neN X 10 dX11_lifts_5 (by decide) (by omega) (fun c_3 => ?_) (fun c_3 => ?_)
  · refine V_loc (y := (nI x.toNat)) 1 rfl (mv_sn (by omega)) ?_
    refine V_loc (y := (nI y.toNat)) 2 rfl (mv_sn (by omega)) ?_
    refine V_aload_n X dX11_lifts_10 rfl ?_
    refine V_get X fl_X11_26 0 0 rfl rfl rfl dX11_lifts_11 ?_
    refine V_iload_n X dX11_lifts_14 rfl ?_
    refine V_iload_n X dX11_lifts_15 rfl ?_
    refine V_callV (rest := []) X (c_X3_trayDeep (Cl C) G c wh de t sv vt ps x.toNat y.toNat (by first | assumption | omega) (by first | assumption | omega) (by first | assumption | omega)) mi_X3_trayDeep kw_3_19 kw_3_20 kw_3_21 dX11_lifts_16 [1] rfl (by decide) 1 0 rfl rfl rfl rfl rfl rfl (by decide) (Nat.le_of_ble_eq_true rfl) ⟨rfl, rfl⟩ (fun _ _ => ?_)
    show V C 0 0 [gMoot G a (fun j => im j 0) kd re (b 0) (c 0) (pp 0) fa (nF kk) (nF ts) (sF bt) (sF sp) (nF qu) (iI bs) (lN tr), gMo G c (nF wh) (nF de) t (nI sv) (nI vt) (nI ps), gPast G pp (fun j => am j 0) (nI q) (nI kn), gMoT G (am 0) (P 0), gMoT G (am 1) (P 1), gMoT G (am 2) (P 2), gMoT G (am 3) (P 3), gMoT G (am 4) (P 4), gMoT G (am 5) (P 5), gMoT G (am 6) (P 6), gMoT G (am 7) (P 7), gMoT G (am 8) (P 8), gMoT G (am 9) (P 9)] 19 [some (.ref (a 0)), some (.int (nI x.toNat)), some (.int (nI y.toNat)), none] [.int (nI (tray de (6 * x.toNat + y.toNat)))]
    have htr := trT_le hde (5 * x.toNat + y.toNat)
    have htr2 : tray de (6 * x.toNat + y.toNat) ≤ 36 := by have h1 := hde (6 * x.toNat + y.toNat); have h2 := hde (6 * x.toNat + y.toNat + 1); have h3 := hde (6 * x.toNat + y.toNat + 6); have h4 := hde (6 * x.toNat + y.toNat + 7); simp only [tray]; omega
    refine V_istore_n X dX11_lifts_19 (by decide) rfl ?_
    refine V_iload_n X dX11_lifts_20 rfl ?_
    refine V_if_neN X 27 dX11_lifts_21 (by decide) (by omega) (fun c_4 => ?_) (fun c_4 => ?_)
    · refine V_aload_n X dX11_lifts_27 rfl ?_
      refine V_get X fl_X11_33 0 0 rfl rfl rfl dX11_lifts_28 ?_
      refine V_aload_n X dX11_lifts_31 rfl ?_
      refine V_get X fl_X11_26 0 0 rfl rfl rfl dX11_lifts_32 ?_
      refine V_callV (rest := []) X (c_X5_remember (Cl C) G pp am P q kn c wh de t sv vt ps (by first | assumption | omega) (by first | assumption | omega)) mi_X5_remember kw_2_224 kw_2_225 kw_2_226 dX11_lifts_35 [1, 2, 3, 4, 5, 6, 7, 8, 9, 10, 11, 12] rfl (by decide) 2 0 rfl rfl rfl rfl rfl rfl (by decide) (Nat.le_of_ble_eq_true rfl) ⟨rfl, rfl⟩ (fun _ _ => ?_)
      show V C 0 0 [gMoot G a (fun j => im j 0) kd re (b 0) (c 0) (pp 0) fa (nF kk) (nF ts) (sF bt) (sF sp) (nF qu) (iI bs) (lN tr), gMo G c (nF wh) (nF de) t (nI sv) (nI vt) (nI ps), gPast G pp (fun j => am j 0) (nI ((q + 1) % 10)) (nI (min 10 (kn + 1))), gMoT G (am 0) (va_up P q (wh, de, t, sv, vt, ps) 0), gMoT G (am 1) (va_up P q (wh, de, t, sv, vt, ps) 1), gMoT G (am 2) (va_up P q (wh, de, t, sv, vt, ps) 2), gMoT G (am 3) (va_up P q (wh, de, t, sv, vt, ps) 3), gMoT G (am 4) (va_up P q (wh, de, t, sv, vt, ps) 4), gMoT G (am 5) (va_up P q (wh, de, t, sv, vt, ps) 5), gMoT G (am 6) (va_up P q (wh, de, t, sv, vt, ps) 6), gMoT G (am 7) (va_up P q (wh, de, t, sv, vt, ps) 7), gMoT G (am 8) (va_up P q (wh, de, t, sv, vt, ps) 8), gMoT G (am 9) (va_up P q (wh, de, t, sv, vt, ps) 9)] 38 [some (.ref (a 0)), some (.int (nI x.toNat)), some (.int (nI y.toNat)), some (.int (nI (tray de (6 * x.toNat + y.toNat))))] []
      refine V_aload_n X dX11_lifts_38 rfl ?_
      refine V_get X fl_X11_26 0 0 rfl rfl rfl dX11_lifts_39 ?_
      refine V_iload_n X dX11_lifts_42 rfl ?_
      refine V_iload_n X dX11_lifts_43 rfl ?_
      refine V_callV (rest := []) X (c_X3_lift (Cl C) G c wh de t sv vt ps x.toNat y.toNat (by first | assumption | omega) (by first | assumption | omega) (by first | assumption | omega) (by first | assumption | omega)) mi_X3_lift kw_3_23 kw_3_24 kw_3_25 dX11_lifts_44 [1] rfl (by decide) 1 0 rfl rfl rfl rfl rfl rfl (by decide) (Nat.le_of_ble_eq_true rfl) ⟨rfl, rfl⟩ (fun _ _ => ?_)
      show V C 0 0 [gMoot G a (fun j => im j 0) kd re (b 0) (c 0) (pp 0) fa (nF kk) (nF ts) (sF bt) (sF sp) (nF qu) (iI bs) (lN tr), gMo G c (nF wh) (nF (va_up (va_up (va_up (va_up de (6 * x.toNat + y.toNat) 0) (6 * x.toNat + y.toNat + 6) 0) (6 * x.toNat + y.toNat + 1) 0) (6 * x.toNat + y.toNat + 7) 0)) (upd (upd (upd (upd t (6 * x.toNat + y.toNat) (-9)) (6 * x.toNat + y.toNat + 6) (-9)) (6 * x.toNat + y.toNat + 1) (-9)) (6 * x.toNat + y.toNat + 7) (-9)) (nI (min 999 (sv + tray de (6 * x.toNat + y.toNat)))) (nI vt) (nI ps), gPast G pp (fun j => am j 0) (nI ((q + 1) % 10)) (nI (min 10 (kn + 1))), gMoT G (am 0) (va_up P q (wh, de, t, sv, vt, ps) 0), gMoT G (am 1) (va_up P q (wh, de, t, sv, vt, ps) 1), gMoT G (am 2) (va_up P q (wh, de, t, sv, vt, ps) 2), gMoT G (am 3) (va_up P q (wh, de, t, sv, vt, ps) 3), gMoT G (am 4) (va_up P q (wh, de, t, sv, vt, ps) 4), gMoT G (am 5) (va_up P q (wh, de, t, sv, vt, ps) 5), gMoT G (am 6) (va_up P q (wh, de, t, sv, vt, ps) 6), gMoT G (am 7) (va_up P q (wh, de, t, sv, vt, ps) 7), gMoT G (am 8) (va_up P q (wh, de, t, sv, vt, ps) 8), gMoT G (am 9) (va_up P q (wh, de, t, sv, vt, ps) 9)] 47 [some (.ref (a 0)), some (.int (nI x.toNat)), some (.int (nI y.toNat)), some (.int (nI (tray de (6 * x.toNat + y.toNat))))] []
      refine V_iload_n X dX11_lifts_47 rfl ?_
      exact V_iret X Y ⟨((tray de (6 * x.toNat + y.toNat) : Nat) : Int), wh, va_up (va_up (va_up (va_up de (6 * x.toNat + y.toNat) 0) (6 * x.toNat + y.toNat + 6) 0) (6 * x.toNat + y.toNat + 1) 0) (6 * x.toNat + y.toNat + 7) 0, upd (upd (upd (upd t (6 * x.toNat + y.toNat) (-9)) (6 * x.toNat + y.toNat + 6) (-9)) (6 * x.toNat + y.toNat + 1) (-9)) (6 * x.toNat + y.toNat + 7) (-9), min 999 (sv + tray de (6 * x.toNat + y.toNat)), vt, ps, (va_up P q (wh, de, t, sv, vt, ps)), (q + 1) % 10, min 10 (kn + 1)⟩ (show (((tray de (6 * x.toNat + y.toNat) : Nat) : Int), ((wh, (va_up (va_up (va_up (va_up de (6 * x.toNat + y.toNat) 0) (6 * x.toNat + y.toNat + 6) 0) (6 * x.toNat + y.toNat + 1) 0) (6 * x.toNat + y.toNat + 7) 0), (upd (upd (upd (upd t (6 * x.toNat + y.toNat) (-9)) (6 * x.toNat + y.toNat + 6) (-9)) (6 * x.toNat + y.toNat + 1) (-9)) (6 * x.toNat + y.toNat + 7) (-9)), (min 999 (sv + tray de (6 * x.toNat + y.toNat))), vt, ps), (va_up P q (wh, de, t, sv, vt, ps)), ((q + 1) % 10), (min 10 (kn + 1)))) = spLifts ((wh, de, t, sv, vt, ps), P, q, kn) x y from (by simp only [spLifts]; (repeat (first | rw [if_pos (by omega)] | rw [if_neg (by omega)])) <;> rfl)) (mv_ri (by rfl)) rfl rfl dX11_lifts_48
    · refine V_bipush X (-2) dX11_lifts_24 (by decide) ?_
      exact V_iret X Y ⟨-2, wh, de, t, sv, vt, ps, P, q, kn⟩ (show ((-2), ((wh, de, t, sv, vt, ps), P, q, kn)) = spLifts ((wh, de, t, sv, vt, ps), P, q, kn) x y from (by simp only [spLifts]; (repeat (first | rw [if_pos (by omega)] | rw [if_neg (by omega)])) <;> rfl)) (mv_ri (by rfl)) rfl rfl dX11_lifts_26
  · refine V_iconst X (-1) dX11_lifts_8 (by decide) ?_
    exact V_iret X Y ⟨-1, wh, de, t, sv, vt, ps, P, q, kn⟩ (show ((-1), ((wh, de, t, sv, vt, ps), P, q, kn)) = spLifts ((wh, de, t, sv, vt, ps), P, q, kn) x y from (by simp only [spLifts]; (repeat (first | rw [if_pos (by omega)] | rw [if_neg (by omega)])) <;> rfl)) (mv_ri (by rfl)) rfl rfl dX11_lifts_9
set_option maxHeartbeats 4000000 in
set_option maxRecDepth 100000 in
theorem c_X11_votes (l : Launch) (G : mvG) (a : Nat → Nat) (im : Nat → Nat → Nat) (kd : Nat → Nat) (re : Nat) (fa : Nat) (b : Nat → Nat) (c : Nat → Nat) (kk : Nat → Nat) (ts : Nat → Nat) (bt : Nat → Int) (sp : Nat → Int) (qu : Nat → Nat) (bs : Int) (tr : Nat) (w : Nat → Nat) (v : Nat → Nat) (n : Nat) (k : Nat) (wh : Nat → Nat) (de : Nat → Nat) (t : Nat → Int32) (sv : Nat) (vt : Nat) (ps : Nat) (pp : Nat → Nat) (am : Nat → Nat → Nat) (P : Nat → MoT) (q : Nat) (kn : Nat) (ln : Int) (hn : n ≤ 5) (hwh : ∀ j, wh j < 36) (hv : ∀ j, v j ≤ 9) (hq : q < 10) (hkn : kn ≤ 10) (hln : -2147483648 ≤ ln ∧ ln < 2147483648) : KQ l yX11_votes cX11_votes 3 (some .int) (3, 61) G [.ref (a 0), .int (iI ln)] [gMoot G a (fun j => im j 0) kd re (b 0) (c 0) (pp 0) fa (nF kk) (nF ts) (sF bt) (sF sp) (nF qu) (iI bs) (lN tr), gRoll G b (nF w) (nF v) (nI n) (nI k), gMo G c (nF wh) (nF de) t (nI sv) (nI vt) (nI ps), gPast G pp (fun j => am j 0) (nI q) (nI kn), gMoT G (am 0) (P 0), gMoT G (am 1) (P 1), gMoT G (am 2) (P 2), gMoT G (am 3) (P 3), gMoT G (am 4) (P 4), gMoT G (am 5) (P 5), gMoT G (am 6) (P 6), gMoT G (am 7) (P 7), gMoT G (am 8) (P 8), gMoT G (am 9) (P 9)] (fun (zz : Int × (Nat → Nat) × (Nat → Nat) × (Nat → Int32) × Nat × Nat × Nat × (Nat → MoT) × Nat × Nat) => some (.int (iI zz.1))) (fun (zz : Int × (Nat → Nat) × (Nat → Nat) × (Nat → Int32) × Nat × Nat × Nat × (Nat → MoT) × Nat × Nat) => (zz.1, ((zz.2.1, zz.2.2.1, zz.2.2.2.1, zz.2.2.2.2.1, zz.2.2.2.2.2.1, zz.2.2.2.2.2.2.1), zz.2.2.2.2.2.2.2.1, zz.2.2.2.2.2.2.2.2.1, zz.2.2.2.2.2.2.2.2.2)) = spVotes n v ((wh, de, t, sv, vt, ps), P, q, kn) ln) (fun (zz : Int × (Nat → Nat) × (Nat → Nat) × (Nat → Int32) × Nat × Nat × Nat × (Nat → MoT) × Nat × Nat) => [gMoot G a (fun j => im j 0) kd re (b 0) (c 0) (pp 0) fa (nF kk) (nF ts) (sF bt) (sF sp) (nF qu) (iI bs) (lN tr), gRoll G b (nF w) (nF v) (nI n) (nI k), gMo G c (nF zz.2.1) (nF zz.2.2.1) zz.2.2.2.1 (nI zz.2.2.2.2.1) (nI zz.2.2.2.2.2.1) (nI zz.2.2.2.2.2.2.1), gPast G pp (fun j => am j 0) (nI zz.2.2.2.2.2.2.2.2.1) (nI zz.2.2.2.2.2.2.2.2.2), gMoT G (am 0) (zz.2.2.2.2.2.2.2.1 0), gMoT G (am 1) (zz.2.2.2.2.2.2.2.1 1), gMoT G (am 2) (zz.2.2.2.2.2.2.2.1 2), gMoT G (am 3) (zz.2.2.2.2.2.2.2.1 3), gMoT G (am 4) (zz.2.2.2.2.2.2.2.1 4), gMoT G (am 5) (zz.2.2.2.2.2.2.2.1 5), gMoT G (am 6) (zz.2.2.2.2.2.2.2.1 6), gMoT G (am 7) (zz.2.2.2.2.2.2.2.1 7), gMoT G (am 8) (zz.2.2.2.2.2.2.2.1 8), gMoT G (am 9) (zz.2.2.2.2.2.2.2.1 9)]) := by
  refine KQ.mk (by decide +kernel) (fun _ _ => rfl) [some (.ref (a 0)), some (.int (iI ln)), none] (Nat.le_of_ble_eq_true rfl) rfl (fun C X Y hC => ?_)
  subst hC
  refine V_iload_n X dX11_votes_0 rfl ?_
  refine V_callS (rest := []) X (c_X11_isCoordinate (Cl C) G ln (by first | assumption | omega)) mi_X11_isCoordinate kw_2_86 kw_2_87 dX11_votes_1 [] rfl (by decide) rfl rfl (by decide) (Nat.le_of_ble_eq_true rfl) ⟨rfl, rfl⟩ (fun u_ hu_2 => ?_)
  obtain ⟨b_1, rfl⟩ : ∃ z, z = u_ := ⟨_, rfl⟩
  have hu_2 : (b_1 = 1 ∧ 0 ≤ ln ∧ ln < 6) ∨ (b_1 = 0 ∧ (ln < 0 ∨ 6 ≤ ln)) := hu_2
  show V C 0 0 [gMoot G a (fun j => im j 0) kd re (b 0) (c 0) (pp 0) fa (nF kk) (nF ts) (sF bt) (sF sp) (nF qu) (iI bs) (lN tr), gRoll G b (nF w) (nF v) (nI n) (nI k), gMo G c (nF wh) (nF de) t (nI sv) (nI vt) (nI ps), gPast G pp (fun j => am j 0) (nI q) (nI kn), gMoT G (am 0) (P 0), gMoT G (am 1) (P 1), gMoT G (am 2) (P 2), gMoT G (am 3) (P 3), gMoT G (am 4) (P 4), gMoT G (am 5) (P 5), gMoT G (am 6) (P 6), gMoT G (am 7) (P 7), gMoT G (am 8) (P 8), gMoT G (am 9) (P 9)] 4 [some (.ref (a 0)), some (.int (iI ln)), none] [.int (nI b_1)]
  refine V_if_neN X 9 dX11_votes_4 (by decide) (by omega) (fun c_3 => ?_) (fun c_3 => ?_)
  · refine V_loc (y := (nI ln.toNat)) 1 rfl (mv_sn (by omega)) ?_
    refine V_aload_n X dX11_votes_9 rfl ?_
    refine V_iload_n X dX11_votes_10 rfl ?_
    refine V_callV (rest := []) X (c_X11_wouldPass (Cl C) G a im kd re (pp 0) fa b c kk ts bt sp qu bs (lN tr) w v n k wh de t sv vt ps ln.toNat (by first | assumption | omega) (by first | assumption | omega) (by first | assumption | omega) (by first | assumption | omega)) mi_X11_wouldPass kw_2_196 kw_2_198 kw_s_12 dX11_votes_11 [0, 1, 2] rfl (by decide) 0 0 rfl rfl rfl rfl rfl rfl (by decide) (Nat.le_of_ble_eq_true rfl) ⟨rfl, rfl⟩ (fun u_ hu_5 => ?_)
    obtain ⟨b_4, rfl⟩ : ∃ z, z = u_ := ⟨_, rfl⟩
    have hu_5 : (b_4 = 1 ∧ vAg wh v ln.toNat n < vFor wh v ln.toNat n) ∨ (b_4 = 0 ∧ vFor wh v ln.toNat n ≤ vAg wh v ln.toNat n) := hu_5
    show V C 0 0 [gMoot G a (fun j => im j 0) kd re (b 0) (c 0) (pp 0) fa (nF kk) (nF ts) (sF bt) (sF sp) (nF qu) (iI bs) (lN tr), gRoll G b (nF w) (nF v) (nI n) (nI k), gMo G c (nF wh) (nF de) t (nI sv) (nI vt) (nI ps), gPast G pp (fun j => am j 0) (nI q) (nI kn), gMoT G (am 0) (P 0), gMoT G (am 1) (P 1), gMoT G (am 2) (P 2), gMoT G (am 3) (P 3), gMoT G (am 4) (P 4), gMoT G (am 5) (P 5), gMoT G (am 6) (P 6), gMoT G (am 7) (P 7), gMoT G (am 8) (P 8), gMoT G (am 9) (P 9)] 14 [some (.ref (a 0)), some (.int (nI ln.toNat)), none] [.int (nI b_4)]
    refine V_istore_n X dX11_votes_14 (by decide) rfl ?_
    refine V_aload_n X dX11_votes_15 rfl ?_
    refine V_get X fl_X11_33 0 0 rfl rfl rfl dX11_votes_16 ?_
    refine V_aload_n X dX11_votes_19 rfl ?_
    refine V_get X fl_X11_26 0 0 rfl rfl rfl dX11_votes_20 ?_
    refine V_callV (rest := []) X (c_X5_remember (Cl C) G pp am P q kn c wh de t sv vt ps (by first | assumption | omega) (by first | assumption | omega)) mi_X5_remember kw_2_224 kw_2_225 kw_2_226 dX11_votes_23 [2, 3, 4, 5, 6, 7, 8, 9, 10, 11, 12, 13] rfl (by decide) 3 0 rfl rfl rfl rfl rfl rfl (by decide) (Nat.le_of_ble_eq_true rfl) ⟨rfl, rfl⟩ (fun _ _ => ?_)
    show V C 0 0 [gMoot G a (fun j => im j 0) kd re (b 0) (c 0) (pp 0) fa (nF kk) (nF ts) (sF bt) (sF sp) (nF qu) (iI bs) (lN tr), gRoll G b (nF w) (nF v) (nI n) (nI k), gMo G c (nF wh) (nF de) t (nI sv) (nI vt) (nI ps), gPast G pp (fun j => am j 0) (nI ((q + 1) % 10)) (nI (min 10 (kn + 1))), gMoT G (am 0) (va_up P q (wh, de, t, sv, vt, ps) 0), gMoT G (am 1) (va_up P q (wh, de, t, sv, vt, ps) 1), gMoT G (am 2) (va_up P q (wh, de, t, sv, vt, ps) 2), gMoT G (am 3) (va_up P q (wh, de, t, sv, vt, ps) 3), gMoT G (am 4) (va_up P q (wh, de, t, sv, vt, ps) 4), gMoT G (am 5) (va_up P q (wh, de, t, sv, vt, ps) 5), gMoT G (am 6) (va_up P q (wh, de, t, sv, vt, ps) 6), gMoT G (am 7) (va_up P q (wh, de, t, sv, vt, ps) 7), gMoT G (am 8) (va_up P q (wh, de, t, sv, vt, ps) 8), gMoT G (am 9) (va_up P q (wh, de, t, sv, vt, ps) 9)] 26 [some (.ref (a 0)), some (.int (nI ln.toNat)), some (.int (nI b_4))] []
    refine V_aload_n X dX11_votes_26 rfl ?_
    refine V_get X fl_X11_26 0 0 rfl rfl rfl dX11_votes_27 ?_
    refine V_dup X dX11_votes_30 rfl ?_
    refine V_get X fl_X11_157 2 0 rfl rfl rfl dX11_votes_31 ?_
    refine V_iconst X (nI 1) dX11_votes_34 (by decide) ?_
    refine V_iaddN X dX11_votes_35 ?_
    refine V_put X fl_X11_157 2 0 rfl rfl rfl rfl (Nat.le_of_ble_eq_true rfl) dX11_votes_36 ?_
    show V C 0 0 [gMoot G a (fun j => im j 0) kd re (b 0) (c 0) (pp 0) fa (nF kk) (nF ts) (sF bt) (sF sp) (nF qu) (iI bs) (lN tr), gRoll G b (nF w) (nF v) (nI n) (nI k), gMo G c (nF wh) (nF de) t (nI sv) (nI (vt + 1)) (nI ps), gPast G pp (fun j => am j 0) (nI ((q + 1) % 10)) (nI (min 10 (kn + 1))), gMoT G (am 0) (va_up P q (wh, de, t, sv, vt, ps) 0), gMoT G (am 1) (va_up P q (wh, de, t, sv, vt, ps) 1), gMoT G (am 2) (va_up P q (wh, de, t, sv, vt, ps) 2), gMoT G (am 3) (va_up P q (wh, de, t, sv, vt, ps) 3), gMoT G (am 4) (va_up P q (wh, de, t, sv, vt, ps) 4), gMoT G (am 5) (va_up P q (wh, de, t, sv, vt, ps) 5), gMoT G (am 6) (va_up P q (wh, de, t, sv, vt, ps) 6), gMoT G (am 7) (va_up P q (wh, de, t, sv, vt, ps) 7), gMoT G (am 8) (va_up P q (wh, de, t, sv, vt, ps) 8), gMoT G (am 9) (va_up P q (wh, de, t, sv, vt, ps) 9)] 39 [some (.ref (a 0)), some (.int (nI ln.toNat)), some (.int (nI b_4))] []
    refine V_iload_n X dX11_votes_39 rfl ?_
    refine V_if_eqN X 56 dX11_votes_40 (by decide) (by omega) (fun c_6 => ?_) (fun c_6 => ?_)
    · refine V_iload_n X dX11_votes_56 rfl ?_
      refine V_if_eqN X 64 dX11_votes_57 (by decide) (by omega) (fun c_7 => ?_) (fun c_7 => ?_)
      · refine V_iconst X (nI 0) dX11_votes_64 (by decide) ?_
        exact V_iret X Y ⟨0, wh, de, t, sv, vt + 1, ps, (va_up P q (wh, de, t, sv, vt, ps)), (q + 1) % 10, min 10 (kn + 1)⟩ (show (0, ((wh, de, t, sv, (vt + 1), ps), (va_up P q (wh, de, t, sv, vt, ps)), ((q + 1) % 10), (min 10 (kn + 1)))) = spVotes n v ((wh, de, t, sv, vt, ps), P, q, kn) ln from (by simp only [spVotes]; first | ((repeat (first | rw [if_pos (by omega)] | rw [if_neg (by omega)])) <;> rfl) | (exfalso; omega))) (mv_ri (by rfl)) rfl rfl dX11_votes_65
      · refine V_iconst X (nI 1) dX11_votes_60 (by decide) ?_
        refine V_goto X 65 dX11_votes_61 (by decide) ?_
        exact V_iret X Y ⟨1, wh, de, t, sv, vt + 1, ps, (va_up P q (wh, de, t, sv, vt, ps)), (q + 1) % 10, min 10 (kn + 1)⟩ (show (1, ((wh, de, t, sv, (vt + 1), ps), (va_up P q (wh, de, t, sv, vt, ps)), ((q + 1) % 10), (min 10 (kn + 1)))) = spVotes n v ((wh, de, t, sv, vt, ps), P, q, kn) ln from (by simp only [spVotes]; first | ((repeat (first | rw [if_pos (by omega)] | rw [if_neg (by omega)])) <;> rfl) | (exfalso; omega))) (mv_ri (by rfl)) rfl rfl dX11_votes_65
    · refine V_aload_n X dX11_votes_43 rfl ?_
      refine V_get X fl_X11_26 0 0 rfl rfl rfl dX11_votes_44 ?_
      refine V_dup X dX11_votes_47 rfl ?_
      refine V_get X fl_X11_160 2 0 rfl rfl rfl dX11_votes_48 ?_
      refine V_iconst X (nI 1) dX11_votes_51 (by decide) ?_
      refine V_iaddN X dX11_votes_52 ?_
      refine V_put X fl_X11_160 2 0 rfl rfl rfl rfl (Nat.le_of_ble_eq_true rfl) dX11_votes_53 ?_
      show V C 0 0 [gMoot G a (fun j => im j 0) kd re (b 0) (c 0) (pp 0) fa (nF kk) (nF ts) (sF bt) (sF sp) (nF qu) (iI bs) (lN tr), gRoll G b (nF w) (nF v) (nI n) (nI k), gMo G c (nF wh) (nF de) t (nI sv) (nI (vt + 1)) (nI (ps + 1)), gPast G pp (fun j => am j 0) (nI ((q + 1) % 10)) (nI (min 10 (kn + 1))), gMoT G (am 0) (va_up P q (wh, de, t, sv, vt, ps) 0), gMoT G (am 1) (va_up P q (wh, de, t, sv, vt, ps) 1), gMoT G (am 2) (va_up P q (wh, de, t, sv, vt, ps) 2), gMoT G (am 3) (va_up P q (wh, de, t, sv, vt, ps) 3), gMoT G (am 4) (va_up P q (wh, de, t, sv, vt, ps) 4), gMoT G (am 5) (va_up P q (wh, de, t, sv, vt, ps) 5), gMoT G (am 6) (va_up P q (wh, de, t, sv, vt, ps) 6), gMoT G (am 7) (va_up P q (wh, de, t, sv, vt, ps) 7), gMoT G (am 8) (va_up P q (wh, de, t, sv, vt, ps) 8), gMoT G (am 9) (va_up P q (wh, de, t, sv, vt, ps) 9)] 56 [some (.ref (a 0)), some (.int (nI ln.toNat)), some (.int (nI b_4))] []
      refine V_iload_n X dX11_votes_56 rfl ?_
      refine V_if_eqN X 64 dX11_votes_57 (by decide) (by omega) (fun c_8 => ?_) (fun c_8 => ?_)
      · refine V_iconst X (nI 0) dX11_votes_64 (by decide) ?_
        exact V_iret X Y ⟨0, wh, de, t, sv, vt + 1, ps + 1, (va_up P q (wh, de, t, sv, vt, ps)), (q + 1) % 10, min 10 (kn + 1)⟩ (show (0, ((wh, de, t, sv, (vt + 1), (ps + 1)), (va_up P q (wh, de, t, sv, vt, ps)), ((q + 1) % 10), (min 10 (kn + 1)))) = spVotes n v ((wh, de, t, sv, vt, ps), P, q, kn) ln from (by simp only [spVotes]; first | ((repeat (first | rw [if_pos (by omega)] | rw [if_neg (by omega)])) <;> rfl) | (exfalso; omega))) (mv_ri (by rfl)) rfl rfl dX11_votes_65
      · refine V_iconst X (nI 1) dX11_votes_60 (by decide) ?_
        refine V_goto X 65 dX11_votes_61 (by decide) ?_
        exact V_iret X Y ⟨1, wh, de, t, sv, vt + 1, ps + 1, (va_up P q (wh, de, t, sv, vt, ps)), (q + 1) % 10, min 10 (kn + 1)⟩ (show (1, ((wh, de, t, sv, (vt + 1), (ps + 1)), (va_up P q (wh, de, t, sv, vt, ps)), ((q + 1) % 10), (min 10 (kn + 1)))) = spVotes n v ((wh, de, t, sv, vt, ps), P, q, kn) ln from (by simp only [spVotes]; first | ((repeat (first | rw [if_pos (by omega)] | rw [if_neg (by omega)])) <;> rfl) | (exfalso; omega))) (mv_ri (by rfl)) rfl rfl dX11_votes_65
  · refine V_iconst X (-1) dX11_votes_7 (by decide) ?_
    exact V_iret X Y ⟨-1, wh, de, t, sv, vt, ps, P, q, kn⟩ (show ((-1), ((wh, de, t, sv, vt, ps), P, q, kn)) = spVotes n v ((wh, de, t, sv, vt, ps), P, q, kn) ln from (by simp only [spVotes]; first | ((repeat (first | rw [if_pos (by omega)] | rw [if_neg (by omega)])) <;> rfl) | (exfalso; omega))) (mv_ri (by rfl)) rfl rfl dX11_votes_8
set_option maxHeartbeats 4000000 in
set_option maxRecDepth 100000 in
theorem c_X11_undo (l : Launch) (G : mvG) (a : Nat → Nat) (im : Nat → Nat → Nat) (kd : Nat → Nat) (re : Nat) (fa : Nat) (b : Nat → Nat) (c : Nat → Nat) (kk : Nat → Nat) (ts : Nat → Nat) (bt : Nat → Int) (sp : Nat → Int) (qu : Nat → Nat) (bs : Int) (tr : Nat) (wh : Nat → Nat) (de : Nat → Nat) (t : Nat → Int32) (sv : Nat) (vt : Nat) (ps : Nat) (pp : Nat → Nat) (am : Nat → Nat → Nat) (P : Nat → MoT) (q : Nat) (kn : Nat) (hq : q < 10) (hkn : kn ≤ 10) : KQ l yX11_undo cX11_undo 1 (some .int) (3, 62) G [.ref (a 0)] [gMoot G a (fun j => im j 0) kd re (b 0) (c 0) (pp 0) fa (nF kk) (nF ts) (sF bt) (sF sp) (nF qu) (iI bs) (lN tr), gMo G c (nF wh) (nF de) t (nI sv) (nI vt) (nI ps), gPast G pp (fun j => am j 0) (nI q) (nI kn), gMoT G (am 0) (P 0), gMoT G (am 1) (P 1), gMoT G (am 2) (P 2), gMoT G (am 3) (P 3), gMoT G (am 4) (P 4), gMoT G (am 5) (P 5), gMoT G (am 6) (P 6), gMoT G (am 7) (P 7), gMoT G (am 8) (P 8), gMoT G (am 9) (P 9)] (fun (zz : Int × (Nat → Nat) × (Nat → Nat) × (Nat → Int32) × Nat × Nat × Nat × (Nat → MoT) × Nat × Nat) => some (.int (iI zz.1))) (fun (zz : Int × (Nat → Nat) × (Nat → Nat) × (Nat → Int32) × Nat × Nat × Nat × (Nat → MoT) × Nat × Nat) => (zz.1, ((zz.2.1, zz.2.2.1, zz.2.2.2.1, zz.2.2.2.2.1, zz.2.2.2.2.2.1, zz.2.2.2.2.2.2.1), zz.2.2.2.2.2.2.2.1, zz.2.2.2.2.2.2.2.2.1, zz.2.2.2.2.2.2.2.2.2)) = spUndo ((wh, de, t, sv, vt, ps), P, q, kn)) (fun (zz : Int × (Nat → Nat) × (Nat → Nat) × (Nat → Int32) × Nat × Nat × Nat × (Nat → MoT) × Nat × Nat) => [gMoot G a (fun j => im j 0) kd re (b 0) (c 0) (pp 0) fa (nF kk) (nF ts) (sF bt) (sF sp) (nF qu) (iI bs) (lN tr), gMo G c (nF zz.2.1) (nF zz.2.2.1) zz.2.2.2.1 (nI zz.2.2.2.2.1) (nI zz.2.2.2.2.2.1) (nI zz.2.2.2.2.2.2.1), gPast G pp (fun j => am j 0) (nI zz.2.2.2.2.2.2.2.2.1) (nI zz.2.2.2.2.2.2.2.2.2), gMoT G (am 0) (zz.2.2.2.2.2.2.2.1 0), gMoT G (am 1) (zz.2.2.2.2.2.2.2.1 1), gMoT G (am 2) (zz.2.2.2.2.2.2.2.1 2), gMoT G (am 3) (zz.2.2.2.2.2.2.2.1 3), gMoT G (am 4) (zz.2.2.2.2.2.2.2.1 4), gMoT G (am 5) (zz.2.2.2.2.2.2.2.1 5), gMoT G (am 6) (zz.2.2.2.2.2.2.2.1 6), gMoT G (am 7) (zz.2.2.2.2.2.2.2.1 7), gMoT G (am 8) (zz.2.2.2.2.2.2.2.1 8), gMoT G (am 9) (zz.2.2.2.2.2.2.2.1 9)]) := by
  refine KQ.mk (by decide +kernel) (fun _ _ => rfl) [some (.ref (a 0))] (Nat.le_of_ble_eq_true rfl) rfl (fun C X Y hC => ?_)
  subst hC
  refine V_aload_n X dX11_undo_0 rfl ?_
  refine V_get X fl_X11_33 0 0 rfl rfl rfl dX11_undo_1 ?_
  refine V_get X fl_X11_172 2 0 rfl rfl rfl dX11_undo_4 ?_
  refine V_if_neN X 13 dX11_undo_7 (by decide) (by omega) (fun c_1 => ?_) (fun c_1 => ?_)
  · refine V_aload_n X dX11_undo_13 rfl ?_
    refine V_get X fl_X11_33 0 0 rfl rfl rfl dX11_undo_14 ?_
    refine V_aload_n X dX11_undo_17 rfl ?_
    refine V_get X fl_X11_26 0 0 rfl rfl rfl dX11_undo_18 ?_
    refine V_callV (rest := []) X (c_X5_recall (Cl C) G pp am P q kn c wh de t sv vt ps (by first | assumption | omega) (by first | assumption | omega)) mi_X5_recall kw_3_36 kw_3_37 kw_3_38 dX11_undo_21 [1, 2, 3, 4, 5, 6, 7, 8, 9, 10, 11, 12] rfl (by decide) 2 0 rfl rfl rfl rfl rfl rfl (by decide) (Nat.le_of_ble_eq_true rfl) ⟨rfl, rfl⟩ (fun _ _ => ?_)
    show V C 0 0 [gMoot G a (fun j => im j 0) kd re (b 0) (c 0) (pp 0) fa (nF kk) (nF ts) (sF bt) (sF sp) (nF qu) (iI bs) (lN tr), gMoT G c (P ((q + 9) % 10)), gPast G pp (fun j => am j 0) (nI ((q + 9) % 10)) (nI (kn - 1)), gMoT G (am 0) (P 0), gMoT G (am 1) (P 1), gMoT G (am 2) (P 2), gMoT G (am 3) (P 3), gMoT G (am 4) (P 4), gMoT G (am 5) (P 5), gMoT G (am 6) (P 6), gMoT G (am 7) (P 7), gMoT G (am 8) (P 8), gMoT G (am 9) (P 9)] 24 [some (.ref (a 0))] []
    show V C 0 0 [gMoot G a (fun j => im j 0) kd re (b 0) (c 0) (pp 0) fa (nF kk) (nF ts) (sF bt) (sF sp) (nF qu) (iI bs) (lN tr), gMo G c (nF ((P ((q + 9) % 10)).1)) (nF ((P ((q + 9) % 10)).2.1)) ((P ((q + 9) % 10)).2.2.1) (nI ((P ((q + 9) % 10)).2.2.2.1)) (nI ((P ((q + 9) % 10)).2.2.2.2.1)) (nI ((P ((q + 9) % 10)).2.2.2.2.2)), gPast G pp (fun j => am j 0) (nI ((q + 9) % 10)) (nI (kn - 1)), gMoT G (am 0) (P 0), gMoT G (am 1) (P 1), gMoT G (am 2) (P 2), gMoT G (am 3) (P 3), gMoT G (am 4) (P 4), gMoT G (am 5) (P 5), gMoT G (am 6) (P 6), gMoT G (am 7) (P 7), gMoT G (am 8) (P 8), gMoT G (am 9) (P 9)] 24 [some (.ref (a 0))] []
    refine V_aload_n X dX11_undo_24 rfl ?_
    refine V_get X fl_X11_33 0 0 rfl rfl rfl dX11_undo_25 ?_
    refine V_get X fl_X11_172 2 0 rfl rfl rfl dX11_undo_28 ?_
    exact V_iret X Y ⟨((kn - 1 : Nat) : Int), (P ((q + 9) % 10)).1, (P ((q + 9) % 10)).2.1, (P ((q + 9) % 10)).2.2.1, (P ((q + 9) % 10)).2.2.2.1, (P ((q + 9) % 10)).2.2.2.2.1, (P ((q + 9) % 10)).2.2.2.2.2, P, (q + 9) % 10, kn - 1⟩ (show (((kn - 1 : Nat) : Int), ((((P ((q + 9) % 10)).1), ((P ((q + 9) % 10)).2.1), ((P ((q + 9) % 10)).2.2.1), ((P ((q + 9) % 10)).2.2.2.1), ((P ((q + 9) % 10)).2.2.2.2.1), ((P ((q + 9) % 10)).2.2.2.2.2)), P, ((q + 9) % 10), (kn - 1))) = spUndo ((wh, de, t, sv, vt, ps), P, q, kn) from (by simp only [spUndo]; (repeat (first | rw [if_pos (by omega)] | rw [if_neg (by omega)])) <;> rfl)) (mv_ri (by rfl)) rfl rfl dX11_undo_31
  · refine V_bipush X (-2) dX11_undo_10 (by decide) ?_
    exact V_iret X Y ⟨-2, wh, de, t, sv, vt, ps, P, q, kn⟩ (show ((-2), ((wh, de, t, sv, vt, ps), P, q, kn)) = spUndo ((wh, de, t, sv, vt, ps), P, q, kn) from (by simp only [spUndo]; (repeat (first | rw [if_pos (by omega)] | rw [if_neg (by omega)])) <;> rfl)) (mv_ri (by rfl)) rfl rfl dX11_undo_12
set_option maxHeartbeats 4000000 in
set_option maxRecDepth 100000 in
theorem c_X11_power (l : Launch) (G : mvG) (a : Nat → Nat) (im : Nat → Nat → Nat) (kd : Nat → Nat) (re : Nat) (pa : Nat) (fa : Nat) (b : Nat → Nat) (c : Nat → Nat) (kk : Nat → Nat) (ts : Nat → Nat) (bt : Nat → Int) (sp : Nat → Int) (qu : Nat → Nat) (bs : Int) (tr : Nat) (w : Nat → Nat) (v : Nat → Nat) (n : Nat) (k : Nat) (p : Int) (q : Int) (hn : n ≤ 5) (hv : ∀ j, v j ≤ 9) (hp : -2147483648 ≤ p ∧ p < 2147483648) (hq : -2147483648 ≤ q ∧ q < 2147483648) : KQ l yX11_power cX11_power 6 (some .int) (2, 45) G [.ref (a 0), .int (iI p), .int (iI q)] [gMoot G a (fun j => im j 0) kd re (b 0) (c 0) pa fa (nF kk) (nF ts) (sF bt) (sF sp) (nF qu) (iI bs) (lN tr), gRoll G b (nF w) (nF v) (nI n) (nI k)] (fun (_ : Unit) => some (.int (iI (spPower v n p q)))) (fun (_ : Unit) => True) (fun (_ : Unit) => [gMoot G a (fun j => im j 0) kd re (b 0) (c 0) pa fa (nF kk) (nF ts) (sF bt) (sF sp) (nF qu) (iI bs) (lN tr), gRoll G b (nF w) (nF v) (nI n) (nI k)]) := by
  refine KQ.mk (by decide +kernel) (fun _ _ => rfl) [some (.ref (a 0)), some (.int (iI p)), some (.int (iI q)), none, none, none] (Nat.le_of_ble_eq_true rfl) rfl (fun C X Y hC => ?_)
  subst hC
  have hp5 := pow5 hn
  refine V_aload_n X dX11_power_0 rfl ?_
  refine V_get X fl_X11_19 0 0 rfl rfl rfl dX11_power_1 ?_
  refine V_iload_n X dX11_power_4 rfl ?_
  refine V_callV (rest := []) X (c_X7_has (Cl C) G b w v n k p (by first | assumption | omega) (by first | assumption | omega)) mi_X7_has kw_2_169 kw_2_170 kw_2_171 dX11_power_5 [1] rfl (by decide) 1 0 rfl rfl rfl rfl rfl rfl (by decide) (Nat.le_of_ble_eq_true rfl) ⟨rfl, rfl⟩ (fun u_ hu_2 => ?_)
  obtain ⟨b_1, rfl⟩ : ∃ z, z = u_ := ⟨_, rfl⟩
  have hu_2 : (b_1 = 1 ∧ 0 ≤ p ∧ p < (n : Int)) ∨ (b_1 = 0 ∧ (p < 0 ∨ (n : Int) ≤ p)) := hu_2
  show V C 0 0 [gMoot G a (fun j => im j 0) kd re (b 0) (c 0) pa fa (nF kk) (nF ts) (sF bt) (sF sp) (nF qu) (iI bs) (lN tr), gRoll G b (nF w) (nF v) (nI n) (nI k)] 8 [some (.ref (a 0)), some (.int (iI p)), some (.int (iI q)), none, none, none] [.int (nI b_1)]
  refine V_if_eqN X 22 dX11_power_8 (by decide) (by omega) (fun c_3 => ?_) (fun c_3 => ?_)
  · refine V_iconst X (-1) dX11_power_22 (by decide) ?_
    exact V_iret X Y () trivial (mv_ri (by simp only [spPower]; (repeat (first | rw [if_pos (by omega)] | rw [if_neg (by omega)])) <;> rfl)) rfl rfl dX11_power_23
  · refine V_iload_n X dX11_power_11 rfl ?_
    refine V_iconst X (nI 1) dX11_power_12 (by decide) ?_
    refine V_icmp_ltI (i := q) (j := 1) X 22 dX11_power_13 (by decide) (iI_toInt (by omega) (by omega)) (nI_toInt (by decide)) (fun c_4 => ?_) (fun c_4 => ?_)
    · refine V_iconst X (-1) dX11_power_22 (by decide) ?_
      exact V_iret X Y () trivial (mv_ri (by simp only [spPower]; (repeat (first | rw [if_pos (by omega)] | rw [if_neg (by omega)])) <;> rfl)) rfl rfl dX11_power_23
    · refine V_iload_n X dX11_power_16 rfl ?_
      refine V_bipush X (nI 45) dX11_power_17 (by decide) ?_
      refine V_icmp_leI (i := q) (j := 45) X 24 dX11_power_19 (by decide) (iI_toInt (by omega) (by omega)) (nI_toInt (by decide)) (fun c_5 => ?_) (fun c_5 => ?_)
      · refine V_loc (y := (nI p.toNat)) 1 rfl (mv_sn (by omega)) ?_
        refine V_loc (y := (nI q.toNat)) 2 rfl (mv_sn (by omega)) ?_
        refine V_iconst X (nI 0) dX11_power_24 (by decide) ?_
        refine V_istore_n X dX11_power_25 (by decide) rfl ?_
        refine V_iconst X (nI 0) dX11_power_26 (by decide) ?_
        refine V_istore X dX11_power_27 (by decide) rfl ?_
        have L_29 : ∀ (fz_29 : Nat) (x : Nat) (e : Nat) (he : e ≤ 2 ^ n) (hx : x = powN v n p.toNat q.toNat e) (hxe : x ≤ e), (2 ^ n - e) < fz_29 → V C 0 0 [gMoot G a (fun j => im j 0) kd re (b 0) (c 0) pa fa (nF kk) (nF ts) (sF bt) (sF sp) (nF qu) (iI bs) (lN tr), gRoll G b (nF w) (nF v) (nI n) (nI k)] 29 [some (.ref (a 0)), some (.int (nI p.toNat)), some (.int (nI q.toNat)), some (.int (nI x)), some (.int (nI e)), none] [] := by
          intro fz_29
          induction fz_29 with
          | zero => intro x e he hx hxe hf_29; exact absurd hf_29 (Nat.not_lt_zero _)
          | succ fz_29 ih_29 =>
            intro x e he hx hxe hf_29
            refine V_iload X dX11_power_29 rfl ?_
            refine V_aload_n X dX11_power_31 rfl ?_
            refine V_get X fl_X11_19 0 0 rfl rfl rfl dX11_power_32 ?_
            refine V_callV (rest := [.int (nI e)]) X (c_X7_sets (Cl C) G b w v n k (by first | assumption | omega)) mi_X7_sets kw_3_44 kw_3_45 kw_3_46 dX11_power_35 [1] rfl (by decide) 1 0 rfl rfl rfl rfl rfl rfl (by decide) (Nat.le_of_ble_eq_true rfl) ⟨rfl, rfl⟩ (fun _ _ => ?_)
            show V C 0 0 [gMoot G a (fun j => im j 0) kd re (b 0) (c 0) pa fa (nF kk) (nF ts) (sF bt) (sF sp) (nF qu) (iI bs) (lN tr), gRoll G b (nF w) (nF v) (nI n) (nI k)] 38 [some (.ref (a 0)), some (.int (nI p.toNat)), some (.int (nI q.toNat)), some (.int (nI x)), some (.int (nI e)), none] [.int (nI (2 ^ n)), .int (nI e)]
            refine V_icmp_geN X 91 dX11_power_38 (by decide) (by omega) (by omega) (fun c_6 => ?_) (fun c_6 => ?_)
            · refine V_iload_n X dX11_power_91 rfl ?_
              exact V_iret X Y () trivial (mv_ri (by simp only [spPower]; rw [if_pos (by omega), hx, show e = 2 ^ n by omega] <;> rfl)) rfl rfl dX11_power_92
            · refine V_iload X dX11_power_41 rfl ?_
              refine V_iconst X (nI 1) dX11_power_43 (by decide) ?_
              refine V_iload_n X dX11_power_44 rfl ?_
              refine V_ishl1N X dX11_power_45 (by omega) ?_
              refine V_iandN X dX11_power_46 ?_
              refine V_if_neN X 85 dX11_power_47 (by decide) (by first | omega | exact Nat.lt_of_le_of_lt Nat.and_le_left (by omega)) (fun c_7 => ?_) (fun c_7 => ?_)
              · refine V_iincN X (c := 1) dX11_power_85 rfl (by decide) rfl ?_
                refine V_goto X 29 dX11_power_88 (by decide) ?_
                refine V_weak (lv' := [some (.ref (a 0)), some (.int (nI p.toNat)), some (.int (nI q.toNat)), some (.int (nI x)), some (.int (nI (e + 1))), none]) (And.intro rfl (And.intro rfl (And.intro rfl (And.intro rfl (And.intro rfl trivial))))) ?_
                exact ih_29 x (e + 1) (by omega) (by simp only [powN, hx]; first | rw [if_pos ⟨by assumption, by omega, by omega⟩] | rw [if_neg (fun z => by have z1 := z.1; have z2 := z.2; omega), Nat.add_zero]) (by omega) (by omega)
              · refine V_aload_n X dX11_power_50 rfl ?_
                refine V_get X fl_X11_19 0 0 rfl rfl rfl dX11_power_51 ?_
                refine V_iload X dX11_power_54 rfl ?_
                refine V_callV (rest := []) X (c_X7_voicesTogether (Cl C) G b w v n k e (by first | assumption | omega) (by first | assumption | omega)) mi_X7_voicesTogether kw_3_48 kw_3_49 kw_3_50 dX11_power_56 [1] rfl (by decide) 1 0 rfl rfl rfl rfl rfl rfl (by decide) (Nat.le_of_ble_eq_true rfl) ⟨rfl, rfl⟩ (fun _ _ => ?_)
                show V C 0 0 [gMoot G a (fun j => im j 0) kd re (b 0) (c 0) pa fa (nF kk) (nF ts) (sF bt) (sF sp) (nF qu) (iI bs) (lN tr), gRoll G b (nF w) (nF v) (nI n) (nI k)] 59 [some (.ref (a 0)), some (.int (nI p.toNat)), some (.int (nI q.toNat)), some (.int (nI x)), some (.int (nI e)), none] [.int (nI (bSum v e n))]
                have hbs := bSum_le (f := v) e n (fun j _ => hv j)
                refine V_istore X dX11_power_59 (by decide) rfl ?_
                refine V_iload X dX11_power_61 rfl ?_
                refine V_iload_n X dX11_power_63 rfl ?_
                refine V_icmp_geN X 85 dX11_power_64 (by decide) (by omega) (by omega) (fun c_8 => ?_) (fun c_8 => ?_)
                · refine V_iincN X (c := 1) dX11_power_85 rfl (by decide) rfl ?_
                  refine V_goto X 29 dX11_power_88 (by decide) ?_
                  refine V_weak (lv' := [some (.ref (a 0)), some (.int (nI p.toNat)), some (.int (nI q.toNat)), some (.int (nI x)), some (.int (nI (e + 1))), none]) (And.intro rfl (And.intro rfl (And.intro rfl (And.intro rfl (And.intro rfl trivial))))) ?_
                  exact ih_29 x (e + 1) (by omega) (by simp only [powN, hx]; first | rw [if_pos ⟨by assumption, by omega, by omega⟩] | rw [if_neg (fun z => by have z1 := z.1; have z2 := z.2; omega), Nat.add_zero]) (by omega) (by omega)
                · refine V_iload X dX11_power_67 rfl ?_
                  refine V_aload_n X dX11_power_69 rfl ?_
                  refine V_get X fl_X11_19 0 0 rfl rfl rfl dX11_power_70 ?_
                  refine V_iload_n X dX11_power_73 rfl ?_
                  refine V_callV (rest := [.int (nI (bSum v e n))]) X (c_X7_voicesOf (Cl C) G b w v n k p.toNat (by first | assumption | omega)) mi_X7_voicesOf kw_2_180 kw_2_181 kw_2_182 dX11_power_74 [1] rfl (by decide) 1 0 rfl rfl rfl rfl rfl rfl (by decide) (Nat.le_of_ble_eq_true rfl) ⟨rfl, rfl⟩ (fun _ _ => ?_)
                  show V C 0 0 [gMoot G a (fun j => im j 0) kd re (b 0) (c 0) pa fa (nF kk) (nF ts) (sF bt) (sF sp) (nF qu) (iI bs) (lN tr), gRoll G b (nF w) (nF v) (nI n) (nI k)] 77 [some (.ref (a 0)), some (.int (nI p.toNat)), some (.int (nI q.toNat)), some (.int (nI x)), some (.int (nI e)), some (.int (nI (bSum v e n)))] [.int (nI (v p.toNat)), .int (nI (bSum v e n))]
                  have hvp := hv p.toNat
                  refine V_iaddN X dX11_power_77 ?_
                  refine V_iload_n X dX11_power_78 rfl ?_
                  refine V_icmp_ltN X 85 dX11_power_79 (by decide) (by omega) (by omega) (fun c_9 => ?_) (fun c_9 => ?_)
                  · refine V_iincN X (c := 1) dX11_power_85 rfl (by decide) rfl ?_
                    refine V_goto X 29 dX11_power_88 (by decide) ?_
                    refine V_weak (lv' := [some (.ref (a 0)), some (.int (nI p.toNat)), some (.int (nI q.toNat)), some (.int (nI x)), some (.int (nI (e + 1))), none]) (And.intro rfl (And.intro rfl (And.intro rfl (And.intro rfl (And.intro rfl trivial))))) ?_
                    exact ih_29 x (e + 1) (by omega) (by simp only [powN, hx]; first | rw [if_pos ⟨by assumption, by omega, by omega⟩] | rw [if_neg (fun z => by have z1 := z.1; have z2 := z.2; omega), Nat.add_zero]) (by omega) (by omega)
                  · refine V_iincN X (c := 1) dX11_power_82 rfl (by decide) rfl ?_
                    refine V_iincN X (c := 1) dX11_power_85 rfl (by decide) rfl ?_
                    refine V_goto X 29 dX11_power_88 (by decide) ?_
                    refine V_weak (lv' := [some (.ref (a 0)), some (.int (nI p.toNat)), some (.int (nI q.toNat)), some (.int (nI (x + 1))), some (.int (nI (e + 1))), none]) (And.intro rfl (And.intro rfl (And.intro rfl (And.intro rfl (And.intro rfl trivial))))) ?_
                    exact ih_29 (x + 1) (e + 1) (by omega) (by simp only [powN, hx]; first | rw [if_pos ⟨by assumption, by omega, by omega⟩] | rw [if_neg (fun z => by have z1 := z.1; have z2 := z.2; omega), Nat.add_zero]) (by omega) (by omega)
        refine V_weak (lv' := [some (.ref (a 0)), some (.int (nI p.toNat)), some (.int (nI q.toNat)), some (.int (nI 0)), some (.int (nI 0)), none]) (And.intro rfl (And.intro rfl (And.intro rfl (And.intro rfl (And.intro rfl trivial))))) ?_
        exact L_29 _ 0 0 (Nat.zero_le _) rfl (by omega) (Nat.lt_succ_self _)
      · refine V_iconst X (-1) dX11_power_22 (by decide) ?_
        exact V_iret X Y () trivial (mv_ri (by simp only [spPower]; (repeat (first | rw [if_pos (by omega)] | rw [if_neg (by omega)])) <;> rfl)) rfl rfl dX11_power_23
set_option maxHeartbeats 4000000 in
set_option maxRecDepth 100000 in
theorem c_X11_best (l : Launch) (G : mvG) (a : Nat → Nat) (im : Nat → Nat → Nat) (kd : Nat → Nat) (re : Nat) (pa : Nat) (fa : Nat) (b : Nat → Nat) (c : Nat → Nat) (kk : Nat → Nat) (ts : Nat → Nat) (bt : Nat → Int) (sp : Nat → Int) (qu : Nat → Nat) (bs : Int) (tr : Nat) (wh : Nat → Nat) (de : Nat → Nat) (t : Nat → Int32) (sv : Nat) (vt : Nat) (ps : Nat) (x : Int) (y : Int) (hde : ∀ j, de j ≤ 9) (hx : -2147483648 ≤ x ∧ x < 2147483648) (hy : -2147483648 ≤ y ∧ y < 2147483648) : KQ l yX11_best cX11_best 3 (some .int) (4, 91) G [.ref (a 0), .int (iI x), .int (iI y)] [gMoot G a (fun j => im j 0) kd re (b 0) (c 0) pa fa (nF kk) (nF ts) (sF bt) (sF sp) (nF qu) (iI bs) (lN tr), gMo G c (nF wh) (nF de) t (nI sv) (nI vt) (nI ps)] (fun (zz : Int × (Nat → Nat) × Int × (Nat → Int)) => some (.int (iI zz.1))) (fun (zz : Int × (Nat → Nat) × Int × (Nat → Int)) => zz.1 = spBest de bt x y) (fun (zz : Int × (Nat → Nat) × Int × (Nat → Int)) => [gMoot G a (fun j => im j 0) kd re (b 0) (c 0) pa fa (nF kk) (nF zz.2.1) (sF zz.2.2.2) (sF sp) (nF qu) (iI zz.2.2.1) (lN tr), gMo G c (nF wh) (nF de) t (nI sv) (nI vt) (nI ps)]) := by
  refine KQ.mk (by decide +kernel) (fun _ _ => rfl) [some (.ref (a 0)), some (.int (iI x)), some (.int (iI y))] (Nat.le_of_ble_eq_true rfl) rfl (fun C X Y hC => ?_)
  subst hC
  refine V_iload_n X dX11_best_0 rfl ?_
  refine V_iconst X (nI 1) dX11_best_1 (by decide) ?_
  refine V_icmp_ltI (i := x) (j := 1) X 20 dX11_best_2 (by decide) (iI_toInt (by omega) (by omega)) (nI_toInt (by decide)) (fun c_1 => ?_) (fun c_1 => ?_)
  · refine V_iconst X (-1) dX11_best_20 (by decide) ?_
    exact V_iret X Y ⟨-1, ts, bs, bt⟩ (show (-1) = spBest de bt x y from (by simp only [spBest]; repeat (first | rw [if_pos (by omega)] | rw [if_neg (by omega)]))) (mv_ri (by rfl)) rfl rfl dX11_best_21
  · refine V_iload_n X dX11_best_5 rfl ?_
    refine V_iconst X (nI 3) dX11_best_6 (by decide) ?_
    refine V_icmp_gtI (i := x) (j := 3) X 20 dX11_best_7 (by decide) (iI_toInt (by omega) (by omega)) (nI_toInt (by decide)) (fun c_2 => ?_) (fun c_2 => ?_)
    · refine V_iconst X (-1) dX11_best_20 (by decide) ?_
      exact V_iret X Y ⟨-1, ts, bs, bt⟩ (show (-1) = spBest de bt x y from (by simp only [spBest]; repeat (first | rw [if_pos (by omega)] | rw [if_neg (by omega)]))) (mv_ri (by rfl)) rfl rfl dX11_best_21
    · refine V_iload_n X dX11_best_10 rfl ?_
      refine V_iconst X (-1) dX11_best_11 (by decide) ?_
      refine V_icmp_ltI (i := y) (j := -1) X 20 dX11_best_12 (by decide) (iI_toInt (by omega) (by omega)) (by rfl) (fun c_3 => ?_) (fun c_3 => ?_)
      · refine V_iconst X (-1) dX11_best_20 (by decide) ?_
        exact V_iret X Y ⟨-1, ts, bs, bt⟩ (show (-1) = spBest de bt x y from (by simp only [spBest]; repeat (first | rw [if_pos (by omega)] | rw [if_neg (by omega)]))) (mv_ri (by rfl)) rfl rfl dX11_best_21
      · refine V_iload_n X dX11_best_15 rfl ?_
        refine V_iconst X (nI 3) dX11_best_16 (by decide) ?_
        refine V_icmp_ltI (i := y) (j := 3) X 22 dX11_best_17 (by decide) (iI_toInt (by omega) (by omega)) (nI_toInt (by decide)) (fun c_4 => ?_) (fun c_4 => ?_)
        · refine V_iload_n X dX11_best_22 rfl ?_
          refine V_iload_n X dX11_best_23 rfl ?_
          refine V_icmp_ltI (i := y) (j := x) X 30 dX11_best_24 (by decide) (iI_toInt (by omega) (by omega)) (iI_toInt (by omega) (by omega)) (fun c_5 => ?_) (fun c_5 => ?_)
          · refine V_loc (y := (nI x.toNat)) 1 rfl (mv_sn (by omega)) ?_
            refine V_aload_n X dX11_best_30 rfl ?_
            refine V_iload_n X dX11_best_31 rfl ?_
            refine V_callV (rest := []) X (c_X11_seekBest (Cl C) G a im kd re pa fa b c kk ts bt sp qu bs (lN tr) wh de t sv vt ps x.toNat (by first | assumption | omega) (by first | assumption | omega)) mi_X11_seekBest kw_3_60 kw_3_62 kw_s_17 dX11_best_32 [0, 1] rfl (by decide) 0 0 rfl rfl rfl rfl rfl rfl (by decide) (Nat.le_of_ble_eq_true rfl) ⟨rfl, rfl⟩ (fun u_ hu_8 => ?_)
            obtain ⟨x_6, B_7⟩ := u_
            have hu_8 : (x_6, B_7) = seek1 (trT de) x.toNat (-1, bt) ∧ -1 ≤ x_6 ∧ x_6 ≤ 108 := hu_8
            show V C 0 0 [gMoot G a (fun j => im j 0) kd re (b 0) (c 0) pa fa (nF kk) (nF (trT de)) (sF B_7) (sF sp) (nF qu) (iI x_6) (lN tr), gMo G c (nF wh) (nF de) t (nI sv) (nI vt) (nI ps)] 35 [some (.ref (a 0)), some (.int (nI x.toNat)), some (.int (iI y))] []
            have hsk := hu_8
            have hok := seek1_ok (T := trT de) (k := x.toNat) (B := bt) (by omega)
            rw [← hsk.1] at hok
            refine V_iload_n X dX11_best_35 rfl ?_
            refine V_if_ltI (i := y) X 48 dX11_best_36 (by decide) (iI_toInt (by omega) (by omega)) (fun c_9 => ?_) (fun c_9 => ?_)
            · refine V_aload_n X dX11_best_48 rfl ?_
              refine V_get X fl_X11_228 0 0 rfl rfl rfl dX11_best_49 ?_
              exact V_iret X Y ⟨x_6, trT de, x_6, B_7⟩ (show x_6 = spBest de bt x y from (by simp only [spBest]; rw [if_pos (by omega), if_neg (by omega), ← hsk.1]; (repeat (first | rw [if_pos (by omega)] | rw [if_neg (by omega)])) <;> (dsimp only; omega))) rfl rfl rfl dX11_best_52
            · refine V_loc (y := (nI y.toNat)) 2 rfl (mv_sn (by omega)) ?_
              have hoy := hok.2 y.toNat (by omega)
              dsimp only at hoy
              refine V_iload_n X dX11_best_39 rfl ?_
              refine V_aload_n X dX11_best_40 rfl ?_
              refine V_get X fl_X11_62 0 0 rfl rfl rfl dX11_best_41 ?_
              refine V_alen X (t0 := 0) 0 5 (nI 3) rfl rfl rfl rfl dX11_best_44 ?_
              refine V_icmp_ltN X 53 dX11_best_45 (by decide) (by omega) (by decide) (fun c_10 => ?_) (fun c_10 => ?_)
              · refine V_bipush X (nI 10) dX11_best_53 (by decide) ?_
                refine V_aload_n X dX11_best_55 rfl ?_
                refine V_get X fl_X11_62 0 0 rfl rfl rfl dX11_best_56 ?_
                refine V_iload_n X dX11_best_59 rfl ?_
                refine V_ialdS X 0 5 rfl rfl (by omega) (by decide) dX11_best_60 ?_
                refine V_topi (show (iI (B_7 y.toNat)) = (nI ((B_7 y.toNat).toNat)) from (mv_sn (by omega))) ?_
                refine V_iconst X (nI 5) dX11_best_61 (by decide) ?_
                refine V_idivN X dX11_best_62 (by omega) (by omega) (by omega) ?_
                refine V_imulN X dX11_best_63 ?_
                refine V_aload_n X dX11_best_64 rfl ?_
                refine V_get X fl_X11_62 0 0 rfl rfl rfl dX11_best_65 ?_
                refine V_iload_n X dX11_best_68 rfl ?_
                refine V_ialdS X 0 5 rfl rfl (by omega) (by decide) dX11_best_69 ?_
                refine V_topi (show (iI (B_7 y.toNat)) = (nI ((B_7 y.toNat).toNat)) from (mv_sn (by omega))) ?_
                refine V_iconst X (nI 5) dX11_best_70 (by decide) ?_
                refine V_iremN X dX11_best_71 (by omega) (by omega) (by omega) ?_
                refine V_iaddN X dX11_best_72 ?_
                exact V_iret X Y ⟨(((10 * (((B_7 y.toNat).toNat) / 5)) + (((B_7 y.toNat).toNat) % 5) : Nat) : Int), trT de, x_6, B_7⟩ (show (((10 * (((B_7 y.toNat).toNat) / 5)) + (((B_7 y.toNat).toNat) % 5) : Nat) : Int) = spBest de bt x y from (by simp only [spBest]; rw [if_pos (by omega), if_neg (by omega), ← hsk.1]; (repeat (first | rw [if_pos (by omega)] | rw [if_neg (by omega)])) <;> (dsimp only; omega))) (mv_ri (by rfl)) rfl rfl dX11_best_73
              · exfalso; omega
          · refine V_bipush X (-9) dX11_best_27 (by decide) ?_
            exact V_iret X Y ⟨-9, ts, bs, bt⟩ (show (-9) = spBest de bt x y from (by simp only [spBest]; repeat (first | rw [if_pos (by omega)] | rw [if_neg (by omega)]))) (mv_ri (by rfl)) rfl rfl dX11_best_29
        · refine V_iconst X (-1) dX11_best_20 (by decide) ?_
          exact V_iret X Y ⟨-1, ts, bs, bt⟩ (show (-1) = spBest de bt x y from (by simp only [spBest]; repeat (first | rw [if_pos (by omega)] | rw [if_neg (by omega)]))) (mv_ri (by rfl)) rfl rfl dX11_best_21
set_option maxHeartbeats 4000000 in
set_option maxRecDepth 100000 in
theorem c_X11_way (l : Launch) (G : mvG) (a : Nat → Nat) (im : Nat → Nat → Nat) (kd : Nat → Nat) (re : Nat) (pa : Nat) (fa : Nat) (b : Nat → Nat) (c : Nat → Nat) (kk : Nat → Nat) (ts : Nat → Nat) (bt : Nat → Int) (sp : Nat → Int) (qu : Nat → Nat) (bs : Int) (tr : Nat) (w : Nat → Nat) (v : Nat → Nat) (n : Nat) (k : Nat) (wh : Nat → Nat) (de : Nat → Nat) (t : Nat → Int32) (sv : Nat) (vt : Nat) (ps : Nat) (p : Int) (x : Int) (hn : n ≤ 5) (hwh : ∀ j, wh j < 36) (hde : ∀ j, de j ≤ 9) (hp : -2147483648 ≤ p ∧ p < 2147483648) (hx : -2147483648 ≤ x ∧ x < 2147483648) : KQ l yX11_way cX11_way 4 (some .int) (4, 90) G [.ref (a 0), .int (iI p), .int (iI x)] [gMoot G a (fun j => im j 0) kd re (b 0) (c 0) pa fa (nF kk) (nF ts) (sF bt) (sF sp) (nF qu) (iI bs) (lN tr), gRoll G b (nF w) (nF v) (nI n) (nI k), gMo G c (nF wh) (nF de) t (nI sv) (nI vt) (nI ps)] (fun (zz : Int × (Nat → Int) × (Nat → Nat)) => some (.int (iI zz.1))) (fun (zz : Int × (Nat → Int) × (Nat → Nat)) => (¬ (0 ≤ p ∧ p < (n : Int) ∧ 0 ≤ x ∧ x / 10 < 6 ∧ x % 10 < 6) ∧ zz.1 = -1) ∨ ((0 ≤ p ∧ p < (n : Int) ∧ 0 ≤ x ∧ x / 10 < 6 ∧ x % 10 < 6) ∧ isD de (wh p.toNat) zz.2.1 ∧ zz.1 = zz.2.1 (6 * (x / 10) + x % 10).toNat)) (fun (zz : Int × (Nat → Int) × (Nat → Nat)) => [gMoot G a (fun j => im j 0) kd re (b 0) (c 0) pa fa (nF kk) (nF ts) (sF bt) (sF zz.2.1) (nF zz.2.2) (iI bs) (lN tr), gRoll G b (nF w) (nF v) (nI n) (nI k), gMo G c (nF wh) (nF de) t (nI sv) (nI vt) (nI ps)]) := by
  refine KQ.mk (by decide +kernel) (fun _ _ => rfl) [some (.ref (a 0)), some (.int (iI p)), some (.int (iI x)), none] (Nat.le_of_ble_eq_true rfl) rfl (fun C X Y hC => ?_)
  subst hC
  refine V_iload_n X dX11_way_0 rfl ?_
  refine V_callS (rest := []) X (c_X11_placeOfCell (Cl C) G x (by first | assumption | omega)) mi_X11_placeOfCell kw_2_141 kw_2_142 dX11_way_1 [] rfl (by decide) rfl rfl (by decide) (Nat.le_of_ble_eq_true rfl) ⟨rfl, rfl⟩ (fun u_ hu_2 => ?_)
  obtain ⟨z_1, rfl⟩ : ∃ z, z = u_ := ⟨_, rfl⟩
  have hu_2 : (0 ≤ x ∧ x / 10 < 6 ∧ x % 10 < 6 ∧ z_1 = 6 * (x / 10) + x % 10) ∨ ((x < 0 ∨ 6 ≤ x / 10 ∨ 6 ≤ x % 10) ∧ z_1 = -9) := hu_2
  show V C 0 0 [gMoot G a (fun j => im j 0) kd re (b 0) (c 0) pa fa (nF kk) (nF ts) (sF bt) (sF sp) (nF qu) (iI bs) (lN tr), gRoll G b (nF w) (nF v) (nI n) (nI k), gMo G c (nF wh) (nF de) t (nI sv) (nI vt) (nI ps)] 4 [some (.ref (a 0)), some (.int (iI p)), some (.int (iI x)), none] [.int (iI z_1)]
  have hzz := hu_2
  refine V_istore_n X dX11_way_4 (by decide) rfl ?_
  refine V_aload_n X dX11_way_5 rfl ?_
  refine V_get X fl_X11_19 0 0 rfl rfl rfl dX11_way_6 ?_
  refine V_iload_n X dX11_way_9 rfl ?_
  refine V_callV (rest := []) X (c_X7_has (Cl C) G b w v n k p (by first | assumption | omega) (by first | assumption | omega)) mi_X7_has kw_2_169 kw_2_170 kw_2_171 dX11_way_10 [1] rfl (by decide) 1 0 rfl rfl rfl rfl rfl rfl (by decide) (Nat.le_of_ble_eq_true rfl) ⟨rfl, rfl⟩ (fun u_ hu_4 => ?_)
  obtain ⟨b_3, rfl⟩ : ∃ z, z = u_ := ⟨_, rfl⟩
  have hu_4 : (b_3 = 1 ∧ 0 ≤ p ∧ p < (n : Int)) ∨ (b_3 = 0 ∧ (p < 0 ∨ (n : Int) ≤ p)) := hu_4
  show V C 0 0 [gMoot G a (fun j => im j 0) kd re (b 0) (c 0) pa fa (nF kk) (nF ts) (sF bt) (sF sp) (nF qu) (iI bs) (lN tr), gRoll G b (nF w) (nF v) (nI n) (nI k), gMo G c (nF wh) (nF de) t (nI sv) (nI vt) (nI ps)] 13 [some (.ref (a 0)), some (.int (iI p)), some (.int (iI x)), some (.int (iI z_1))] [.int (nI b_3)]
  refine V_if_eqN X 29 dX11_way_13 (by decide) (by omega) (fun c_5 => ?_) (fun c_5 => ?_)
  · refine V_iconst X (-1) dX11_way_29 (by decide) ?_
    exact V_iret X Y ⟨-1, sp, qu⟩ (show (¬ (0 ≤ p ∧ p < (n : Int) ∧ 0 ≤ x ∧ x / 10 < 6 ∧ x % 10 < 6) ∧ (-1) = -1) ∨ ((0 ≤ p ∧ p < (n : Int) ∧ 0 ≤ x ∧ x / 10 < 6 ∧ x % 10 < 6) ∧ isD de (wh p.toNat) sp ∧ (-1) = sp (6 * (x / 10) + x % 10).toNat) from (Or.inl ⟨by omega, rfl⟩)) (mv_ri (by rfl)) rfl rfl dX11_way_30
  · refine V_iload_n X dX11_way_16 rfl ?_
    refine V_if_ltI (i := z_1) X 29 dX11_way_17 (by decide) (iI_toInt (by omega) (by omega)) (fun c_6 => ?_) (fun c_6 => ?_)
    · refine V_iconst X (-1) dX11_way_29 (by decide) ?_
      exact V_iret X Y ⟨-1, sp, qu⟩ (show (¬ (0 ≤ p ∧ p < (n : Int) ∧ 0 ≤ x ∧ x / 10 < 6 ∧ x % 10 < 6) ∧ (-1) = -1) ∨ ((0 ≤ p ∧ p < (n : Int) ∧ 0 ≤ x ∧ x / 10 < 6 ∧ x % 10 < 6) ∧ isD de (wh p.toNat) sp ∧ (-1) = sp (6 * (x / 10) + x % 10).toNat) from (Or.inl ⟨by omega, rfl⟩)) (mv_ri (by rfl)) rfl rfl dX11_way_30
    · refine V_iload_n X dX11_way_20 rfl ?_
      refine V_aload_n X dX11_way_21 rfl ?_
      refine V_get X fl_X11_65 0 0 rfl rfl rfl dX11_way_22 ?_
      refine V_alen X (t0 := 0) 0 6 (nI 36) rfl rfl rfl rfl dX11_way_25 ?_
      refine V_icmp_ltI (i := z_1) (j := 36) X 31 dX11_way_26 (by decide) (iI_toInt (by omega) (by omega)) (nI_toInt (by decide)) (fun c_7 => ?_) (fun c_7 => ?_)
      · refine V_loc (y := (nI p.toNat)) 1 rfl (mv_sn (by omega)) ?_
        refine V_loc (y := (nI z_1.toNat)) 3 rfl (mv_sn (by omega)) ?_
        have hze : z_1 = 6 * (x / 10) + x % 10 := by omega
        refine V_aload_n X dX11_way_31 rfl ?_
        refine V_aload_n X dX11_way_32 rfl ?_
        refine V_get X fl_X11_26 0 0 rfl rfl rfl dX11_way_33 ?_
        refine V_iload_n X dX11_way_36 rfl ?_
        refine V_callV (rest := [.ref (a 0)]) X (c_X3_placeOf (Cl C) G c wh de t sv vt ps p.toNat (by first | assumption | omega)) mi_X3_placeOf kw_2_157 kw_2_158 kw_2_159 dX11_way_37 [2] rfl (by decide) 2 0 rfl rfl rfl rfl rfl rfl (by decide) (Nat.le_of_ble_eq_true rfl) ⟨rfl, rfl⟩ (fun _ _ => ?_)
        show V C 0 0 [gMoot G a (fun j => im j 0) kd re (b 0) (c 0) pa fa (nF kk) (nF ts) (sF bt) (sF sp) (nF qu) (iI bs) (lN tr), gRoll G b (nF w) (nF v) (nI n) (nI k), gMo G c (nF wh) (nF de) t (nI sv) (nI vt) (nI ps)] 40 [some (.ref (a 0)), some (.int (nI p.toNat)), some (.int (iI x)), some (.int (nI z_1.toNat))] [.int (nI (wh p.toNat)), .ref (a 0)]
        have hwp := hwh p.toNat
        refine V_callV (rest := []) X (c_X11_measureSteps (Cl C) G a im kd re pa fa b c kk ts bt sp qu bs (lN tr) wh de t sv vt ps (wh p.toNat) (by first | assumption | omega) (by first | assumption | omega)) mi_X11_measureSteps kw_3_86 kw_3_88 kw_s_21 dX11_way_40 [0, 2] rfl (by decide) 0 0 rfl rfl rfl rfl rfl rfl (by decide) (Nat.le_of_ble_eq_true rfl) ⟨rfl, rfl⟩ (fun u_ hu_10 => ?_)
        obtain ⟨S_8, Q_9⟩ := u_
        have hu_10 : isD de (wh p.toNat) S_8 ∧ ∀ j, -9 ≤ S_8 j ∧ S_8 j ≤ 100 := hu_10
        show V C 0 0 [gMoot G a (fun j => im j 0) kd re (b 0) (c 0) pa fa (nF kk) (nF ts) (sF bt) (sF S_8) (nF Q_9) (iI bs) (lN tr), gRoll G b (nF w) (nF v) (nI n) (nI k), gMo G c (nF wh) (nF de) t (nI sv) (nI vt) (nI ps)] 43 [some (.ref (a 0)), some (.int (nI p.toNat)), some (.int (iI x)), some (.int (nI z_1.toNat))] []
        have hms := hu_10
        refine V_aload_n X dX11_way_43 rfl ?_
        refine V_get X fl_X11_65 0 0 rfl rfl rfl dX11_way_44 ?_
        refine V_iload_n X dX11_way_47 rfl ?_
        refine V_ialdS X 0 6 rfl rfl (by omega) (by decide) dX11_way_48 ?_
        exact V_iret X Y ⟨S_8 z_1.toNat, S_8, Q_9⟩ (show (¬ (0 ≤ p ∧ p < (n : Int) ∧ 0 ≤ x ∧ x / 10 < 6 ∧ x % 10 < 6) ∧ (S_8 z_1.toNat) = -1) ∨ ((0 ≤ p ∧ p < (n : Int) ∧ 0 ≤ x ∧ x / 10 < 6 ∧ x % 10 < 6) ∧ isD de (wh p.toNat) S_8 ∧ (S_8 z_1.toNat) = S_8 (6 * (x / 10) + x % 10).toNat) from (Or.inr ⟨by omega, hms.1, by rw [← hze]⟩)) (mv_si (by rfl)) rfl rfl dX11_way_49
      · refine V_iconst X (-1) dX11_way_29 (by decide) ?_
        exact V_iret X Y ⟨-1, sp, qu⟩ (show (¬ (0 ≤ p ∧ p < (n : Int) ∧ 0 ≤ x ∧ x / 10 < 6 ∧ x % 10 < 6) ∧ (-1) = -1) ∨ ((0 ≤ p ∧ p < (n : Int) ∧ 0 ≤ x ∧ x / 10 < 6 ∧ x % 10 < 6) ∧ isD de (wh p.toNat) sp ∧ (-1) = sp (6 * (x / 10) + x % 10).toNat) from (Or.inl ⟨by omega, rfl⟩)) (mv_ri (by rfl)) rfl rfl dX11_way_30
set_option maxHeartbeats 4000000 in
set_option maxRecDepth 100000 in
theorem c_X11_odds (l : Launch) (G : mvG) (a : Nat → Nat) (im : Nat → Nat → Nat) (kd : Nat → Nat) (re : Nat) (pa : Nat) (fa : Nat) (b : Nat → Nat) (c : Nat → Nat) (kk : Nat → Nat) (ts : Nat → Nat) (bt : Nat → Int) (sp : Nat → Int) (qu : Nat → Nat) (bs : Int) (tr : Nat) (w : Nat → Nat) (v : Nat → Nat) (n : Nat) (k : Nat) (wh : Nat → Nat) (de : Nat → Nat) (t : Nat → Int32) (sv : Nat) (vt : Nat) (ps : Nat) (x : Int) (y : Int) (e : Int) (q : Int) (hn : n ≤ 5) (hwh : ∀ j, wh j < 36) (hde : ∀ j, de j ≤ 9) (hk : 1 ≤ k ∧ k ≤ 9) (hx : -2147483648 ≤ x ∧ x < 2147483648) (hy : -2147483648 ≤ y ∧ y < 2147483648) (he : -2147483648 ≤ e ∧ e < 2147483648) (hq : -2147483648 ≤ q ∧ q < 2147483648) : KQ l yX11_odds cX11_odds 12 (some .int) (3, 61) G [.ref (a 0), .int (iI x), .int (iI y), .int (iI e), .int (iI q)] [gMoot G a (fun j => im j 0) kd re (b 0) (c 0) pa fa (nF kk) (nF ts) (sF bt) (sF sp) (nF qu) (iI bs) (lN tr), gRoll G b (nF w) (nF v) (nI n) (nI k), gMo G c (nF wh) (nF de) t (nI sv) (nI vt) (nI ps)] (fun (_ : Unit) => some (.int (iI (spOdds de k x y e q)))) (fun (_ : Unit) => True) (fun (_ : Unit) => [gMoot G a (fun j => im j 0) kd re (b 0) (c 0) pa fa (nF kk) (nF ts) (sF bt) (sF sp) (nF qu) (iI bs) (lN tr), gRoll G b (nF w) (nF v) (nI n) (nI k), gMo G c (nF wh) (nF de) t (nI sv) (nI vt) (nI ps)]) := by
  refine KQ.mk (by decide +kernel) (fun _ _ => rfl) [some (.ref (a 0)), some (.int (iI x)), some (.int (iI y)), some (.int (iI e)), some (.int (iI q)), none, none, none, none, none, none, none] (Nat.le_of_ble_eq_true rfl) rfl (fun C X Y hC => ?_)
  subst hC
  refine V_iload_n X dX11_odds_0 rfl ?_
  refine V_callS (rest := []) X (c_X11_placeOfCell (Cl C) G x (by first | assumption | omega)) mi_X11_placeOfCell kw_2_141 kw_2_142 dX11_odds_1 [] rfl (by decide) rfl rfl (by decide) (Nat.le_of_ble_eq_true rfl) ⟨rfl, rfl⟩ (fun u_ hu_2 => ?_)
  obtain ⟨z_1, rfl⟩ : ∃ z, z = u_ := ⟨_, rfl⟩
  have hu_2 : (0 ≤ x ∧ x / 10 < 6 ∧ x % 10 < 6 ∧ z_1 = 6 * (x / 10) + x % 10) ∨ ((x < 0 ∨ 6 ≤ x / 10 ∨ 6 ≤ x % 10) ∧ z_1 = -9) := hu_2
  show V C 0 0 [gMoot G a (fun j => im j 0) kd re (b 0) (c 0) pa fa (nF kk) (nF ts) (sF bt) (sF sp) (nF qu) (iI bs) (lN tr), gRoll G b (nF w) (nF v) (nI n) (nI k), gMo G c (nF wh) (nF de) t (nI sv) (nI vt) (nI ps)] 4 [some (.ref (a 0)), some (.int (iI x)), some (.int (iI y)), some (.int (iI e)), some (.int (iI q)), none, none, none, none, none, none, none] [.int (iI z_1)]
  have hzz := hu_2
  refine V_istore X dX11_odds_4 (by decide) rfl ?_
  refine V_iload X dX11_odds_6 rfl ?_
  refine V_if_ltI (i := z_1) X 42 dX11_odds_8 (by decide) (iI_toInt (by omega) (by omega)) (fun c_3 => ?_) (fun c_3 => ?_)
  · refine V_iconst X (-1) dX11_odds_42 (by decide) ?_
    exact V_iret X Y () trivial (mv_ri (by simp only [spOdds]; (repeat (first | rw [if_pos (by omega)] | rw [if_neg (by omega)])) <;> rfl)) rfl rfl dX11_odds_43
  · refine V_iload_n X dX11_odds_11 rfl ?_
    refine V_if_ltI (i := y) X 42 dX11_odds_12 (by decide) (iI_toInt (by omega) (by omega)) (fun c_4 => ?_) (fun c_4 => ?_)
    · refine V_iconst X (-1) dX11_odds_42 (by decide) ?_
      exact V_iret X Y () trivial (mv_ri (by simp only [spOdds]; (repeat (first | rw [if_pos (by omega)] | rw [if_neg (by omega)])) <;> rfl)) rfl rfl dX11_odds_43
    · refine V_iload_n X dX11_odds_15 rfl ?_
      refine V_bipush X (nI 10) dX11_odds_16 (by decide) ?_
      refine V_icmp_gtI (i := y) (j := 10) X 42 dX11_odds_18 (by decide) (iI_toInt (by omega) (by omega)) (nI_toInt (by decide)) (fun c_5 => ?_) (fun c_5 => ?_)
      · refine V_iconst X (-1) dX11_odds_42 (by decide) ?_
        exact V_iret X Y () trivial (mv_ri (by simp only [spOdds]; (repeat (first | rw [if_pos (by omega)] | rw [if_neg (by omega)])) <;> rfl)) rfl rfl dX11_odds_43
      · refine V_iload_n X dX11_odds_21 rfl ?_
        refine V_if_ltI (i := e) X 42 dX11_odds_22 (by decide) (iI_toInt (by omega) (by omega)) (fun c_6 => ?_) (fun c_6 => ?_)
        · refine V_iconst X (-1) dX11_odds_42 (by decide) ?_
          exact V_iret X Y () trivial (mv_ri (by simp only [spOdds]; (repeat (first | rw [if_pos (by omega)] | rw [if_neg (by omega)])) <;> rfl)) rfl rfl dX11_odds_43
        · refine V_iload_n X dX11_odds_25 rfl ?_
          refine V_bipush X (nI 8) dX11_odds_26 (by decide) ?_
          refine V_icmp_gtI (i := e) (j := 8) X 42 dX11_odds_28 (by decide) (iI_toInt (by omega) (by omega)) (nI_toInt (by decide)) (fun c_7 => ?_) (fun c_7 => ?_)
          · refine V_iconst X (-1) dX11_odds_42 (by decide) ?_
            exact V_iret X Y () trivial (mv_ri (by simp only [spOdds]; (repeat (first | rw [if_pos (by omega)] | rw [if_neg (by omega)])) <;> rfl)) rfl rfl dX11_odds_43
          · refine V_iload X dX11_odds_31 rfl ?_
            refine V_if_ltI (i := q) X 42 dX11_odds_33 (by decide) (iI_toInt (by omega) (by omega)) (fun c_8 => ?_) (fun c_8 => ?_)
            · refine V_iconst X (-1) dX11_odds_42 (by decide) ?_
              exact V_iret X Y () trivial (mv_ri (by simp only [spOdds]; (repeat (first | rw [if_pos (by omega)] | rw [if_neg (by omega)])) <;> rfl)) rfl rfl dX11_odds_43
            · refine V_iload X dX11_odds_36 rfl ?_
              refine V_iconst X (nI 1) dX11_odds_38 (by decide) ?_
              refine V_icmp_leI (i := q) (j := 1) X 44 dX11_odds_39 (by decide) (iI_toInt (by omega) (by omega)) (nI_toInt (by decide)) (fun c_9 => ?_) (fun c_9 => ?_)
              · refine V_loc (y := (nI y.toNat)) 2 rfl (mv_sn (by omega)) ?_
                refine V_loc (y := (nI e.toNat)) 3 rfl (mv_sn (by omega)) ?_
                refine V_loc (y := (nI z_1.toNat)) 5 rfl (mv_sn (by omega)) ?_
                have hze : z_1 = 6 * (x / 10) + x % 10 := by omega
                refine V_aload_n X dX11_odds_44 rfl ?_
                refine V_iload X dX11_odds_45 rfl ?_
                refine V_callV (rest := []) X (c_X11_rainsUntilGone (Cl C) G a im kd re pa fa b c kk ts bt sp qu bs (lN tr) w v n k wh de t sv vt ps z_1.toNat (by first | assumption | omega) (by first | assumption | omega) (by first | assumption | omega)) mi_X11_rainsUntilGone kw_2_161 kw_2_163 kw_s_10 dX11_odds_47 [0, 1, 2] rfl (by decide) 0 0 rfl rfl rfl rfl rfl rfl (by decide) (Nat.le_of_ble_eq_true rfl) ⟨rfl, rfl⟩ (fun _ _ => ?_)
                show V C 0 0 [gMoot G a (fun j => im j 0) kd re (b 0) (c 0) pa fa (nF kk) (nF ts) (sF bt) (sF sp) (nF qu) (iI bs) (lN tr), gRoll G b (nF w) (nF v) (nI n) (nI k), gMo G c (nF wh) (nF de) t (nI sv) (nI vt) (nI ps)] 50 [some (.ref (a 0)), some (.int (iI x)), some (.int (nI y.toNat)), some (.int (nI e.toNat)), some (.int (iI q)), some (.int (nI z_1.toNat)), none, none, none, none, none, none] [.int (nI ((de z_1.toNat + k - 1) / k))]
                have hdz := hde z_1.toNat
                have hgz : ((de z_1.toNat + k - 1) / k) ≤ 9 := gz9 hk (hde _)
                refine V_iload_n X dX11_odds_50 rfl ?_
                refine V_iload_n X dX11_odds_51 rfl ?_
                refine V_callS (rest := []) X (c_X11_chancesToStay (Cl C) G ((de z_1.toNat + k - 1) / k) y.toNat e.toNat (by first | assumption | omega) (by first | assumption | omega) (by first | assumption | omega)) mi_X11_chancesToStay kw_3_103 kw_3_104 dX11_odds_52 [] rfl (by decide) rfl rfl (by decide) (Nat.le_of_ble_eq_true rfl) ⟨rfl, rfl⟩ (fun _ _ => ?_)
                show V C 0 0 [gMoot G a (fun j => im j 0) kd re (b 0) (c 0) pa fa (nF kk) (nF ts) (sF bt) (sF sp) (nF qu) (iI bs) (lN tr), gRoll G b (nF w) (nF v) (nI n) (nI k), gMo G c (nF wh) (nF de) t (nI sv) (nI vt) (nI ps)] 55 [some (.ref (a 0)), some (.int (iI x)), some (.int (nI y.toNat)), some (.int (nI e.toNat)), some (.int (iI q)), some (.int (nI z_1.toNat)), none, none, none, none, none, none] [.long (lN (chStay ((de z_1.toNat + k - 1) / k) y.toNat e.toNat))]
                have hch := chStay_le _ hgz y.toNat (by omega) e.toNat (by omega)
                have hpw := pw10 e.toNat (by omega)
                refine V_lstore X dX11_odds_55 (by decide) rfl ?_
                refine V_bipush X (nI 10) dX11_odds_57 (by decide) ?_
                refine V_iload_n X dX11_odds_59 rfl ?_
                refine V_callS (rest := []) X (c_X11_powerOf (Cl C) G 10 e.toNat (by first | assumption | omega) (by first | assumption | omega)) mi_X11_powerOf kw_3_106 kw_3_107 dX11_odds_60 [] rfl (by decide) rfl rfl (by decide) (Nat.le_of_ble_eq_true rfl) ⟨rfl, rfl⟩ (fun _ _ => ?_)
                show V C 0 0 [gMoot G a (fun j => im j 0) kd re (b 0) (c 0) pa fa (nF kk) (nF ts) (sF bt) (sF sp) (nF qu) (iI bs) (lN tr), gRoll G b (nF w) (nF v) (nI n) (nI k), gMo G c (nF wh) (nF de) t (nI sv) (nI vt) (nI ps)] 63 [some (.ref (a 0)), some (.int (iI x)), some (.int (nI y.toNat)), some (.int (nI e.toNat)), some (.int (iI q)), some (.int (nI z_1.toNat)), some (.long (lN (chStay ((de z_1.toNat + k - 1) / k) y.toNat e.toNat))), none, none, none, none, none] [.long (lN (10 ^ e.toNat))]
                refine V_lstore X dX11_odds_63 (by decide) rfl ?_
                refine V_lload X dX11_odds_65 rfl ?_
                refine V_lload X dX11_odds_67 rfl ?_
                refine V_callS (rest := []) X (c_X11_commonPart (Cl C) G (chStay ((de z_1.toNat + k - 1) / k) y.toNat e.toNat) (10 ^ e.toNat) (by first | assumption | omega) (by first | assumption | omega)) mi_X11_commonPart kw_3_109 kw_3_110 dX11_odds_69 [] rfl (by decide) rfl rfl (by decide) (Nat.le_of_ble_eq_true rfl) ⟨rfl, rfl⟩ (fun _ _ => ?_)
                show V C 0 0 [gMoot G a (fun j => im j 0) kd re (b 0) (c 0) pa fa (nF kk) (nF ts) (sF bt) (sF sp) (nF qu) (iI bs) (lN tr), gRoll G b (nF w) (nF v) (nI n) (nI k), gMo G c (nF wh) (nF de) t (nI sv) (nI vt) (nI ps)] 72 [some (.ref (a 0)), some (.int (iI x)), some (.int (nI y.toNat)), some (.int (nI e.toNat)), some (.int (iI q)), some (.int (nI z_1.toNat)), some (.long (lN (chStay ((de z_1.toNat + k - 1) / k) y.toNat e.toNat))), none, some (.long (lN (10 ^ e.toNat))), none, none, none] [.long (lN (eucl 100 (10 ^ e.toNat) (chStay ((de z_1.toNat + k - 1) / k) y.toNat e.toNat)))]
                have hep := eucl_pos 100 (10 ^ e.toNat) (chStay ((de z_1.toNat + k - 1) / k) y.toNat e.toNat) (by omega)
                have hel := eucl_le 100 (10 ^ e.toNat) (chStay ((de z_1.toNat + k - 1) / k) y.toNat e.toNat) 100000000 (by omega) (by omega)
                have hd1 := Nat.div_le_self (10 ^ e.toNat) (eucl 100 (10 ^ e.toNat) (chStay ((de z_1.toNat + k - 1) / k) y.toNat e.toNat))
                have hd2 := Nat.div_le_self (chStay ((de z_1.toNat + k - 1) / k) y.toNat e.toNat) (eucl 100 (10 ^ e.toNat) (chStay ((de z_1.toNat + k - 1) / k) y.toNat e.toNat))
                refine V_lstore X dX11_odds_72 (by decide) rfl ?_
                refine V_lload X dX11_odds_74 rfl ?_
                refine V_lconst X (lN 1) dX11_odds_76 (by decide) ?_
                refine V_lcmp_geN X 83 dX11_odds_77 dX11_odds_78 (by decide) (by omega) (by omega) (fun c_10 => ?_) (fun c_10 => ?_)
                · refine V_iload X dX11_odds_83 rfl ?_
                  refine V_if_neI (i := q) X 93 dX11_odds_85 (by decide) (iI_toInt (by omega) (by omega)) (fun c_11 => ?_) (fun c_11 => ?_)
                  · refine V_lload X dX11_odds_93 rfl ?_
                    refine V_lload X dX11_odds_95 rfl ?_
                    refine V_ldivN X dX11_odds_97 (by omega) (by omega) (by omega) ?_
                    refine V_l2i X (nI ((10 ^ e.toNat) / (eucl 100 (10 ^ e.toNat) (chStay ((de z_1.toNat + k - 1) / k) y.toNat e.toNat)))) dX11_odds_98 (lN_i _) ?_
                    exact V_iret X Y () trivial (mv_ri (by simp only [spOdds]; rw [← hze]; (repeat (first | rw [if_pos (by omega)] | rw [if_neg (by omega)])) <;> rfl)) rfl rfl dX11_odds_99
                  · refine V_lload X dX11_odds_88 rfl ?_
                    refine V_goto X 95 dX11_odds_90 (by decide) ?_
                    refine V_lload X dX11_odds_95 rfl ?_
                    refine V_ldivN X dX11_odds_97 (by omega) (by omega) (by omega) ?_
                    refine V_l2i X (nI ((chStay ((de z_1.toNat + k - 1) / k) y.toNat e.toNat) / (eucl 100 (10 ^ e.toNat) (chStay ((de z_1.toNat + k - 1) / k) y.toNat e.toNat)))) dX11_odds_98 (lN_i _) ?_
                    exact V_iret X Y () trivial (mv_ri (by simp only [spOdds]; rw [← hze]; (repeat (first | rw [if_pos (by omega)] | rw [if_neg (by omega)])) <;> rfl)) rfl rfl dX11_odds_99
                · exfalso; omega
              · refine V_iconst X (-1) dX11_odds_42 (by decide) ?_
                exact V_iret X Y () trivial (mv_ri (by simp only [spOdds]; (repeat (first | rw [if_pos (by omega)] | rw [if_neg (by omega)])) <;> rfl)) rfl rfl dX11_odds_43
set_option maxHeartbeats 4000000 in
set_option maxRecDepth 100000 in
theorem c_X11_found (l : Launch) (G : mvG) (a : Nat → Nat) (im : Nat → Nat → Nat) (kd : Nat → Nat) (re : Nat) (pa : Nat) (b : Nat → Nat) (c : Nat → Nat) (kk : Nat → Nat) (ts : Nat → Nat) (bt : Nat → Int) (sp : Nat → Int) (qu : Nat → Nat) (bs : Int) (tr : Nat) (w : Nat → Nat) (v : Nat → Nat) (n : Nat) (k : Nat) (f : Nat → Nat) (el : Nat → Nat) (fd : Nat → Nat) (m : Nat) (x : Int) (y : Int) (hn : n ≤ 5) (hm : m ≤ 6) (hx : -2147483648 ≤ x ∧ x < 2147483648) (hy : -2147483648 ≤ y ∧ y < 2147483648) : KQ l yX11_found cX11_found 3 (some .int) (1, 22) G [.ref (a 0), .int (iI x), .int (iI y)] [gMoot G a (fun j => im j 0) kd re (b 0) (c 0) pa (f 0) (nF kk) (nF ts) (sF bt) (sF sp) (nF qu) (iI bs) (lN tr), gRoll G b (nF w) (nF v) (nI n) (nI k), gFind G f (nF el) (nF fd) (nI m)] (fun (zz : Int × (Nat → Nat) × (Nat → Nat) × Nat) => some (.int (iI zz.1))) (fun (zz : Int × (Nat → Nat) × (Nat → Nat) × Nat) => zz.1 = spFound n m x y ∧ (((0 ≤ x ∧ x < ((2 ^ n : Nat) : Int) ∧ 1 ≤ y ∧ y ≤ 9) ∧ m < 6 ∧ zz.2.1 = va_up el m x.toNat ∧ zz.2.2.1 = va_up fd m y.toNat ∧ zz.2.2.2 = m + 1) ∨ (¬ ((0 ≤ x ∧ x < ((2 ^ n : Nat) : Int) ∧ 1 ≤ y ∧ y ≤ 9) ∧ m < 6) ∧ zz.2.1 = el ∧ zz.2.2.1 = fd ∧ zz.2.2.2 = m))) (fun (zz : Int × (Nat → Nat) × (Nat → Nat) × Nat) => [gMoot G a (fun j => im j 0) kd re (b 0) (c 0) pa (f 0) (nF kk) (nF ts) (sF bt) (sF sp) (nF qu) (iI bs) (lN tr), gRoll G b (nF w) (nF v) (nI n) (nI k), gFind G f (nF zz.2.1) (nF zz.2.2.1) (nI zz.2.2.2)]) := by
  refine KQ.mk (by decide +kernel) (fun _ _ => rfl) [some (.ref (a 0)), some (.int (iI x)), some (.int (iI y))] (Nat.le_of_ble_eq_true rfl) rfl (fun C X Y hC => ?_)
  subst hC
  have hp5 := pow5 hn
  refine V_iload_n X dX11_found_0 rfl ?_
  refine V_if_ltI (i := x) X 26 dX11_found_1 (by decide) (iI_toInt (by omega) (by omega)) (fun c_1 => ?_) (fun c_1 => ?_)
  · refine V_iconst X (-1) dX11_found_26 (by decide) ?_
    exact V_iret X Y ⟨-1, el, fd, m⟩ (show (-1) = spFound n m x y ∧ (((0 ≤ x ∧ x < ((2 ^ n : Nat) : Int) ∧ 1 ≤ y ∧ y ≤ 9) ∧ m < 6 ∧ el = va_up el m x.toNat ∧ fd = va_up fd m y.toNat ∧ m = m + 1) ∨ (¬ ((0 ≤ x ∧ x < ((2 ^ n : Nat) : Int) ∧ 1 ≤ y ∧ y ≤ 9) ∧ m < 6) ∧ el = el ∧ fd = fd ∧ m = m)) from ⟨by simp only [spFound]; repeat (first | rw [if_pos (by omega)] | rw [if_neg (by omega)]), Or.inr ⟨by omega, rfl, rfl, rfl⟩⟩) (mv_ri (by rfl)) rfl rfl dX11_found_27
  · refine V_iload_n X dX11_found_4 rfl ?_
    refine V_aload_n X dX11_found_5 rfl ?_
    refine V_get X fl_X11_19 0 0 rfl rfl rfl dX11_found_6 ?_
    refine V_callV (rest := [.int (iI x)]) X (c_X7_sets (Cl C) G b w v n k (by first | assumption | omega)) mi_X7_sets kw_3_44 kw_3_45 kw_3_46 dX11_found_9 [1] rfl (by decide) 1 0 rfl rfl rfl rfl rfl rfl (by decide) (Nat.le_of_ble_eq_true rfl) ⟨rfl, rfl⟩ (fun _ _ => ?_)
    show V C 0 0 [gMoot G a (fun j => im j 0) kd re (b 0) (c 0) pa (f 0) (nF kk) (nF ts) (sF bt) (sF sp) (nF qu) (iI bs) (lN tr), gRoll G b (nF w) (nF v) (nI n) (nI k), gFind G f (nF el) (nF fd) (nI m)] 12 [some (.ref (a 0)), some (.int (iI x)), some (.int (iI y))] [.int (nI (2 ^ n)), .int (iI x)]
    refine V_icmp_geI (i := x) (j := ((2 ^ n : Nat) : Int)) X 26 dX11_found_12 (by decide) (iI_toInt (by omega) (by omega)) (nI_toInt (by omega)) (fun c_2 => ?_) (fun c_2 => ?_)
    · refine V_iconst X (-1) dX11_found_26 (by decide) ?_
      exact V_iret X Y ⟨-1, el, fd, m⟩ (show (-1) = spFound n m x y ∧ (((0 ≤ x ∧ x < ((2 ^ n : Nat) : Int) ∧ 1 ≤ y ∧ y ≤ 9) ∧ m < 6 ∧ el = va_up el m x.toNat ∧ fd = va_up fd m y.toNat ∧ m = m + 1) ∨ (¬ ((0 ≤ x ∧ x < ((2 ^ n : Nat) : Int) ∧ 1 ≤ y ∧ y ≤ 9) ∧ m < 6) ∧ el = el ∧ fd = fd ∧ m = m)) from ⟨by simp only [spFound]; repeat (first | rw [if_pos (by omega)] | rw [if_neg (by omega)]), Or.inr ⟨by omega, rfl, rfl, rfl⟩⟩) (mv_ri (by rfl)) rfl rfl dX11_found_27
    · refine V_iload_n X dX11_found_15 rfl ?_
      refine V_iconst X (nI 1) dX11_found_16 (by decide) ?_
      refine V_icmp_ltI (i := y) (j := 1) X 26 dX11_found_17 (by decide) (iI_toInt (by omega) (by omega)) (nI_toInt (by decide)) (fun c_3 => ?_) (fun c_3 => ?_)
      · refine V_iconst X (-1) dX11_found_26 (by decide) ?_
        exact V_iret X Y ⟨-1, el, fd, m⟩ (show (-1) = spFound n m x y ∧ (((0 ≤ x ∧ x < ((2 ^ n : Nat) : Int) ∧ 1 ≤ y ∧ y ≤ 9) ∧ m < 6 ∧ el = va_up el m x.toNat ∧ fd = va_up fd m y.toNat ∧ m = m + 1) ∨ (¬ ((0 ≤ x ∧ x < ((2 ^ n : Nat) : Int) ∧ 1 ≤ y ∧ y ≤ 9) ∧ m < 6) ∧ el = el ∧ fd = fd ∧ m = m)) from ⟨by simp only [spFound]; repeat (first | rw [if_pos (by omega)] | rw [if_neg (by omega)]), Or.inr ⟨by omega, rfl, rfl, rfl⟩⟩) (mv_ri (by rfl)) rfl rfl dX11_found_27
      · refine V_iload_n X dX11_found_20 rfl ?_
        refine V_bipush X (nI 9) dX11_found_21 (by decide) ?_
        refine V_icmp_leI (i := y) (j := 9) X 28 dX11_found_23 (by decide) (iI_toInt (by omega) (by omega)) (nI_toInt (by decide)) (fun c_4 => ?_) (fun c_4 => ?_)
        · refine V_loc (y := (nI x.toNat)) 1 rfl (mv_sn (by omega)) ?_
          refine V_loc (y := (nI y.toNat)) 2 rfl (mv_sn (by omega)) ?_
          refine V_aload_n X dX11_found_28 rfl ?_
          refine V_get X fl_X11_40 0 0 rfl rfl rfl dX11_found_29 ?_
          refine V_iload_n X dX11_found_32 rfl ?_
          refine V_iload_n X dX11_found_33 rfl ?_
          refine V_callV (rest := []) X (c_X1_add (Cl C) G f el fd m x.toNat y.toNat (by first | assumption | omega)) mi_X1_add kw_3_116 kw_3_117 kw_3_118 dX11_found_34 [2] rfl (by decide) 2 0 rfl rfl rfl rfl rfl rfl (by decide) (Nat.le_of_ble_eq_true rfl) ⟨rfl, rfl⟩ (fun u_ hu_9 => ?_)
          obtain ⟨b_5, e_6, d_7, m_8⟩ := u_
          have hu_9 : (m < 6 ∧ b_5 = 1 ∧ e_6 = va_up el m x.toNat ∧ d_7 = va_up fd m y.toNat ∧ m_8 = m + 1) ∨ (m = 6 ∧ b_5 = 0 ∧ e_6 = el ∧ d_7 = fd ∧ m_8 = m) := hu_9
          show V C 0 0 [gMoot G a (fun j => im j 0) kd re (b 0) (c 0) pa (f 0) (nF kk) (nF ts) (sF bt) (sF sp) (nF qu) (iI bs) (lN tr), gRoll G b (nF w) (nF v) (nI n) (nI k), gFind G f (nF e_6) (nF d_7) (nI m_8)] 37 [some (.ref (a 0)), some (.int (nI x.toNat)), some (.int (nI y.toNat))] [.int (nI b_5)]
          have had := hu_9
          refine V_if_eqN X 50 dX11_found_37 (by decide) (by omega) (fun c_10 => ?_) (fun c_10 => ?_)
          · refine V_bipush X (-3) dX11_found_50 (by decide) ?_
            exact V_iret X Y ⟨-3, e_6, d_7, m_8⟩ (show (-3) = spFound n m x y ∧ (((0 ≤ x ∧ x < ((2 ^ n : Nat) : Int) ∧ 1 ≤ y ∧ y ≤ 9) ∧ m < 6 ∧ e_6 = va_up el m x.toNat ∧ d_7 = va_up fd m y.toNat ∧ m_8 = m + 1) ∨ (¬ ((0 ≤ x ∧ x < ((2 ^ n : Nat) : Int) ∧ 1 ≤ y ∧ y ≤ 9) ∧ m < 6) ∧ e_6 = el ∧ d_7 = fd ∧ m_8 = m)) from (by rcases had with ⟨h1, h2, h3, h4, h5⟩ | ⟨h1, h2, h3, h4, h5⟩ <;> first | omega | exact ⟨by simp only [spFound]; rw [if_pos (by omega), if_pos (by omega)]; omega, Or.inl ⟨by omega, by omega, h3, h4, h5⟩⟩ | exact ⟨by simp only [spFound]; rw [if_pos (by omega), if_neg (by omega)], Or.inr ⟨by omega, h3, h4, h5⟩⟩)) (mv_ri (by rfl)) rfl rfl dX11_found_52
          · refine V_aload_n X dX11_found_40 rfl ?_
            refine V_get X fl_X11_40 0 0 rfl rfl rfl dX11_found_41 ?_
            refine V_get X fl_X11_113 2 0 rfl rfl rfl dX11_found_44 ?_
            refine V_goto X 52 dX11_found_47 (by decide) ?_
            exact V_iret X Y ⟨((m_8 : Nat) : Int), e_6, d_7, m_8⟩ (show ((m_8 : Nat) : Int) = spFound n m x y ∧ (((0 ≤ x ∧ x < ((2 ^ n : Nat) : Int) ∧ 1 ≤ y ∧ y ≤ 9) ∧ m < 6 ∧ e_6 = va_up el m x.toNat ∧ d_7 = va_up fd m y.toNat ∧ m_8 = m + 1) ∨ (¬ ((0 ≤ x ∧ x < ((2 ^ n : Nat) : Int) ∧ 1 ≤ y ∧ y ≤ 9) ∧ m < 6) ∧ e_6 = el ∧ d_7 = fd ∧ m_8 = m)) from (by rcases had with ⟨h1, h2, h3, h4, h5⟩ | ⟨h1, h2, h3, h4, h5⟩ <;> first | omega | exact ⟨by simp only [spFound]; rw [if_pos (by omega), if_pos (by omega)]; omega, Or.inl ⟨by omega, by omega, h3, h4, h5⟩⟩ | exact ⟨by simp only [spFound]; rw [if_pos (by omega), if_neg (by omega)], Or.inr ⟨by omega, h3, h4, h5⟩⟩)) (mv_ri (by rfl)) rfl rfl dX11_found_52
        · refine V_iconst X (-1) dX11_found_26 (by decide) ?_
          exact V_iret X Y ⟨-1, el, fd, m⟩ (show (-1) = spFound n m x y ∧ (((0 ≤ x ∧ x < ((2 ^ n : Nat) : Int) ∧ 1 ≤ y ∧ y ≤ 9) ∧ m < 6 ∧ el = va_up el m x.toNat ∧ fd = va_up fd m y.toNat ∧ m = m + 1) ∨ (¬ ((0 ≤ x ∧ x < ((2 ^ n : Nat) : Int) ∧ 1 ≤ y ∧ y ≤ 9) ∧ m < 6) ∧ el = el ∧ fd = fd ∧ m = m)) from ⟨by simp only [spFound]; repeat (first | rw [if_pos (by omega)] | rw [if_neg (by omega)]), Or.inr ⟨by omega, rfl, rfl, rfl⟩⟩) (mv_ri (by rfl)) rfl rfl dX11_found_27
set_option maxHeartbeats 4000000 in
set_option maxRecDepth 100000 in
theorem c_X11_forget (l : Launch) (G : mvG) (a : Nat → Nat) (im : Nat → Nat → Nat) (kd : Nat → Nat) (re : Nat) (pa : Nat) (b : Nat → Nat) (c : Nat → Nat) (kk : Nat → Nat) (ts : Nat → Nat) (bt : Nat → Int) (sp : Nat → Int) (qu : Nat → Nat) (bs : Int) (tr : Nat) (f : Nat → Nat) (el : Nat → Nat) (fd : Nat → Nat) (m : Nat) : KQ l yX11_forget cX11_forget 2 (some .int) (0, 0) G [.ref (a 0)] [gMoot G a (fun j => im j 0) kd re (b 0) (c 0) pa (f 0) (nF kk) (nF ts) (sF bt) (sF sp) (nF qu) (iI bs) (lN tr), gFind G f (nF el) (nF fd) (nI m)] (fun (_ : Unit) => some (.int (nI m))) (fun (_ : Unit) => True) (fun (_ : Unit) => [gMoot G a (fun j => im j 0) kd re (b 0) (c 0) pa (f 0) (nF kk) (nF ts) (sF bt) (sF sp) (nF qu) (iI bs) (lN tr), gFind G f (nF el) (nF fd) (nI 0)]) := by
  refine KQ.mk (by decide +kernel) (fun _ _ => rfl) [some (.ref (a 0)), none] (Nat.le_of_ble_eq_true rfl) rfl (fun C X Y hC => ?_)
  subst hC
  refine V_aload_n X dX11_forget_0 rfl ?_
  refine V_get X fl_X11_40 0 0 rfl rfl rfl dX11_forget_1 ?_
  refine V_get X fl_X11_113 1 0 rfl rfl rfl dX11_forget_4 ?_
  refine V_istore_n X dX11_forget_7 (by decide) rfl ?_
  refine V_aload_n X dX11_forget_8 rfl ?_
  refine V_get X fl_X11_40 0 0 rfl rfl rfl dX11_forget_9 ?_
  refine V_iconst X (nI 0) dX11_forget_12 (by decide) ?_
  refine V_put X fl_X11_113 1 0 rfl rfl rfl rfl (Nat.le_of_ble_eq_true rfl) dX11_forget_13 ?_
  show V C 0 0 [gMoot G a (fun j => im j 0) kd re (b 0) (c 0) pa (f 0) (nF kk) (nF ts) (sF bt) (sF sp) (nF qu) (iI bs) (lN tr), gFind G f (nF el) (nF fd) (nI 0)] 16 [some (.ref (a 0)), some (.int (nI m))] []
  refine V_iload_n X dX11_forget_16 rfl ?_
  exact V_iret X Y () trivial rfl rfl rfl dX11_forget_17
set_option maxHeartbeats 4000000 in
set_option maxRecDepth 100000 in
theorem c_X11_can (l : Launch) (G : mvG) (a : Nat → Nat) (im : Nat → Nat → Nat) (kd : Nat → Nat) (re : Nat) (pa : Nat) (b : Nat → Nat) (c : Nat → Nat) (kk : Nat → Nat) (ts : Nat → Nat) (bt : Nat → Int) (sp : Nat → Int) (qu : Nat → Nat) (bs : Int) (tr : Nat) (w : Nat → Nat) (v : Nat → Nat) (n : Nat) (k : Nat) (f : Nat → Nat) (el : Nat → Nat) (fd : Nat → Nat) (m : Nat) (y : Int) (hn : n ≤ 5) (hw : ∀ j, w j ≤ 4) (hm : m ≤ 6) (hel : ∀ j, j < m → el j < 32) (hfd : ∀ j, j < m → fd j ≤ 9) (hy : -2147483648 ≤ y ∧ y < 2147483648) : KQ l yX11_can cX11_can 2 (some .int) (4, 91) G [.ref (a 0), .int (iI y)] [gMoot G a (fun j => im j 0) kd re (b 0) (c 0) pa (f 0) (nF kk) (nF ts) (sF bt) (sF sp) (nF qu) (iI bs) (lN tr), gRoll G b (nF w) (nF v) (nI n) (nI k), gFind G f (nF el) (nF fd) (nI m)] (fun (_ : Unit) => some (.int (iI (spCan w n el fd m y)))) (fun (_ : Unit) => True) (fun (_ : Unit) => [gMoot G a (fun j => im j 0) kd re (b 0) (c 0) pa (f 0) (nF kk) (nF ts) (sF bt) (sF sp) (nF qu) (iI bs) (lN tr), gRoll G b (nF w) (nF v) (nI n) (nI k), gFind G f (nF el) (nF fd) (nI m)]) := by
  refine KQ.mk (by decide +kernel) (fun _ _ => rfl) [some (.ref (a 0)), some (.int (iI y))] (Nat.le_of_ble_eq_true rfl) rfl (fun C X Y hC => ?_)
  subst hC
  refine V_iload_n X dX11_can_0 rfl ?_
  by_cases c_1 : y = 0
  · refine V_tableInI (i := y) (off := 27) X 28 dX11_can_1 0 (iI_toInt (by omega) (by omega)) c_1 (by decide) (by decide) (by decide) ?_
    refine V_aload_n X dX11_can_28 rfl ?_
    refine V_iconst X (nI 0) dX11_can_29 (by decide) ?_
    refine V_callV (rest := []) X (c_X11_setsThatCan (Cl C) G a im kd re pa b c kk ts bt sp qu bs (lN tr) w v n k f el fd m 0 (by first | assumption | omega) (by first | assumption | omega) (by first | assumption | omega) (by first | assumption | omega) (by first | assumption | omega) (by first | assumption | omega)) mi_X11_setsThatCan kw_3_128 kw_3_130 kw_s_24 dX11_can_30 [0, 1, 2] rfl (by decide) 0 0 rfl rfl rfl rfl rfl rfl (by decide) (Nat.le_of_ble_eq_true rfl) ⟨rfl, rfl⟩ (fun _ _ => ?_)
    show V C 0 0 [gMoot G a (fun j => im j 0) kd re (b 0) (c 0) pa (f 0) (nF kk) (nF ts) (sF bt) (sF sp) (nF qu) (iI bs) (lN tr), gRoll G b (nF w) (nF v) (nI n) (nI k), gFind G f (nF el) (nF fd) (nI m)] 33 [some (.ref (a 0)), some (.int (iI y))] [.int (nI (canN w n el fd m 0 (2 ^ n)))]
    exact V_iret X Y () trivial (mv_ri (by simp only [spCan]; (repeat (first | rw [if_pos (by omega)] | rw [if_neg (by omega)])) <;> rfl)) rfl rfl dX11_can_33
  · by_cases c_2 : y = 1
    · refine V_tableInI (i := y) (off := 33) X 34 dX11_can_1 1 (iI_toInt (by omega) (by omega)) c_2 (by decide) (by decide) (by decide) ?_
      refine V_aload_n X dX11_can_34 rfl ?_
      refine V_callV (rest := []) X (c_X11_peopleInAll (Cl C) G a im kd re pa b c kk ts bt sp qu bs (lN tr) w v n k f el fd m (by first | assumption | omega) (by first | assumption | omega) (by first | assumption | omega) (by first | assumption | omega) (by first | assumption | omega)) mi_X11_peopleInAll kw_3_141 kw_3_143 kw_s_25 dX11_can_35 [0, 1, 2] rfl (by decide) 0 0 rfl rfl rfl rfl rfl rfl (by decide) (Nat.le_of_ble_eq_true rfl) ⟨rfl, rfl⟩ (fun _ _ => ?_)
      show V C 0 0 [gMoot G a (fun j => im j 0) kd re (b 0) (c 0) pa (f 0) (nF kk) (nF ts) (sF bt) (sF sp) (nF qu) (iI bs) (lN tr), gRoll G b (nF w) (nF v) (nI n) (nI k), gFind G f (nF el) (nF fd) (nI m)] 38 [some (.ref (a 0)), some (.int (iI y))] [.int (iI (inAll w n el fd m (2 ^ n)))]
      exact V_iret X Y () trivial (mv_si (by simp only [spCan]; (repeat (first | rw [if_pos (by omega)] | rw [if_neg (by omega)])) <;> rfl)) rfl rfl dX11_can_38
    · by_cases c_3 : y = 2
      · refine V_tableInI (i := y) (off := 38) X 39 dX11_can_1 2 (iI_toInt (by omega) (by omega)) c_3 (by decide) (by decide) (by decide) ?_
        refine V_aload_n X dX11_can_39 rfl ?_
        refine V_callV (rest := []) X (c_X11_peopleInSome (Cl C) G a im kd re pa b c kk ts bt sp qu bs (lN tr) w v n k f el fd m (by first | assumption | omega) (by first | assumption | omega) (by first | assumption | omega) (by first | assumption | omega) (by first | assumption | omega)) mi_X11_peopleInSome kw_3_145 kw_3_147 kw_s_26 dX11_can_40 [0, 1, 2] rfl (by decide) 0 0 rfl rfl rfl rfl rfl rfl (by decide) (Nat.le_of_ble_eq_true rfl) ⟨rfl, rfl⟩ (fun _ _ => ?_)
        show V C 0 0 [gMoot G a (fun j => im j 0) kd re (b 0) (c 0) pa (f 0) (nF kk) (nF ts) (sF bt) (sF sp) (nF qu) (iI bs) (lN tr), gRoll G b (nF w) (nF v) (nI n) (nI k), gFind G f (nF el) (nF fd) (nI m)] 43 [some (.ref (a 0)), some (.int (iI y))] [.int (nI (inSome w n el fd m (2 ^ n)))]
        exact V_iret X Y () trivial (mv_ri (by simp only [spCan]; (repeat (first | rw [if_pos (by omega)] | rw [if_neg (by omega)])) <;> rfl)) rfl rfl dX11_can_43
      · refine V_tableOutI (i := y) X 44 dX11_can_1 (iI_toInt (by omega) (by omega)) (by omega) (by decide) ?_
        refine V_iconst X (-1) dX11_can_44 (by decide) ?_
        exact V_iret X Y () trivial (mv_ri (by simp only [spCan]; (repeat (first | rw [if_pos (by omega)] | rw [if_neg (by omega)])) <;> rfl)) rfl rfl dX11_can_45
set_option maxHeartbeats 4000000 in
set_option maxRecDepth 100000 in
theorem c_X11_ask (l : Launch) (G : mvG) (a : Nat → Nat) (im : Nat → Nat → Nat) (kd : Nat → Nat) (re : Nat) (pa : Nat) (b : Nat → Nat) (c : Nat → Nat) (kk : Nat → Nat) (ts : Nat → Nat) (bt : Nat → Int) (sp : Nat → Int) (qu : Nat → Nat) (bs : Int) (tr : Nat) (w : Nat → Nat) (v : Nat → Nat) (n : Nat) (k : Nat) (f : Nat → Nat) (el : Nat → Nat) (fd : Nat → Nat) (m : Nat) (hn : n ≤ 5) (hw : ∀ j, w j ≤ 4) (hm : m ≤ 6) (hel : ∀ j, j < m → el j < 32) (hfd : ∀ j, j < m → fd j ≤ 9) : KQ l yX11_ask cX11_ask 7 (some .int) (4, 91) G [.ref (a 0)] [gMoot G a (fun j => im j 0) kd re (b 0) (c 0) pa (f 0) (nF kk) (nF ts) (sF bt) (sF sp) (nF qu) (iI bs) (lN tr), gRoll G b (nF w) (nF v) (nI n) (nI k), gFind G f (nF el) (nF fd) (nI m)] (fun (_ : Unit) => some (.int (iI (spAsk w n el fd m)))) (fun (_ : Unit) => True) (fun (_ : Unit) => [gMoot G a (fun j => im j 0) kd re (b 0) (c 0) pa (f 0) (nF kk) (nF ts) (sF bt) (sF sp) (nF qu) (iI bs) (lN tr), gRoll G b (nF w) (nF v) (nI n) (nI k), gFind G f (nF el) (nF fd) (nI m)]) := by
  refine KQ.mk (by decide +kernel) (fun _ _ => rfl) [some (.ref (a 0)), none, none, none, none, none, none] (Nat.le_of_ble_eq_true rfl) rfl (fun C X Y hC => ?_)
  subst hC
  have hp5 := pow5 hn
  have hal := canN_le w n el fd m 0 (2 ^ n)
  refine V_aload_n X dX11_ask_0 rfl ?_
  refine V_iconst X (nI 0) dX11_ask_1 (by decide) ?_
  refine V_callV (rest := []) X (c_X11_setsThatCan (Cl C) G a im kd re pa b c kk ts bt sp qu bs (lN tr) w v n k f el fd m 0 (by first | assumption | omega) (by first | assumption | omega) (by first | assumption | omega) (by first | assumption | omega) (by first | assumption | omega) (by first | assumption | omega)) mi_X11_setsThatCan kw_3_128 kw_3_130 kw_s_24 dX11_ask_2 [0, 1, 2] rfl (by decide) 0 0 rfl rfl rfl rfl rfl rfl (by decide) (Nat.le_of_ble_eq_true rfl) ⟨rfl, rfl⟩ (fun _ _ => ?_)
  show V C 0 0 [gMoot G a (fun j => im j 0) kd re (b 0) (c 0) pa (f 0) (nF kk) (nF ts) (sF bt) (sF sp) (nF qu) (iI bs) (lN tr), gRoll G b (nF w) (nF v) (nI n) (nI k), gFind G f (nF el) (nF fd) (nI m)] 5 [some (.ref (a 0)), none, none, none, none, none, none] [.int (nI (canN w n el fd m 0 (2 ^ n)))]
  refine V_istore_n X dX11_ask_5 (by decide) rfl ?_
  refine V_bipush X (-9) dX11_ask_6 (by decide) ?_
  refine V_istore_n X dX11_ask_8 (by decide) rfl ?_
  refine V_iload_n X dX11_ask_9 rfl ?_
  refine V_istore_n X dX11_ask_10 (by decide) rfl ?_
  refine V_iconst X (nI 0) dX11_ask_11 (by decide) ?_
  refine V_istore X dX11_ask_12 (by decide) rfl ?_
  have L_14 : ∀ (fz_14 : Nat) (le : Nat) (ch : Int) (p : Nat) (hp : p ≤ n) (hs : (le, ch) = askS (fun p => canN w n el fd m (2 ^ p) (2 ^ n)) (canN w n el fd m 0 (2 ^ n)) p) (hpa : p = 0 ∨ 1 < canN w n el fd m 0 (2 ^ n)) (hlc : le ≤ canN w n el fd m 0 (2 ^ n) ∧ -9 ≤ ch ∧ ch ≤ p), (n - p) < fz_14 → V C 0 0 [gMoot G a (fun j => im j 0) kd re (b 0) (c 0) pa (f 0) (nF kk) (nF ts) (sF bt) (sF sp) (nF qu) (iI bs) (lN tr), gRoll G b (nF w) (nF v) (nI n) (nI k), gFind G f (nF el) (nF fd) (nI m)] 14 [some (.ref (a 0)), some (.int (nI (canN w n el fd m 0 (2 ^ n)))), some (.int (iI ch)), some (.int (nI le)), some (.int (nI p)), none, none] [] := by
    intro fz_14
    induction fz_14 with
    | zero => intro le ch p hp hs hpa hlc hf_14; exact absurd hf_14 (Nat.not_lt_zero _)
    | succ fz_14 ih_14 =>
      intro le ch p hp hs hpa hlc hf_14
      refine V_iload X dX11_ask_14 rfl ?_
      refine V_aload_n X dX11_ask_16 rfl ?_
      refine V_get X fl_X11_19 0 0 rfl rfl rfl dX11_ask_17 ?_
      refine V_get X fl_X11_257 1 0 rfl rfl rfl dX11_ask_20 ?_
      refine V_icmp_geN X 70 dX11_ask_23 (by decide) (by omega) (by omega) (fun c_1 => ?_) (fun c_1 => ?_)
      · refine V_iload_n X dX11_ask_70 rfl ?_
        exact V_iret X Y () trivial (mv_si (by simp only [spAsk]; by_cases h9 : canN w n el fd m 0 (2 ^ n) ≤ 1; (rw [if_pos h9]; (have e : p = 0 := by omega); subst e; simp only [askS] at hs; exact (congrArg Prod.snd hs).symm); (first | (exfalso; omega) | (rw [if_neg h9]; rw [show p = n by omega] at hs; exact (congrArg Prod.snd hs).symm)))) rfl rfl dX11_ask_71
      · refine V_iload_n X dX11_ask_26 rfl ?_
        refine V_iconst X (nI 1) dX11_ask_27 (by decide) ?_
        refine V_icmp_leN X 70 dX11_ask_28 (by decide) (by omega) (by decide) (fun c_2 => ?_) (fun c_2 => ?_)
        · refine V_iload_n X dX11_ask_70 rfl ?_
          exact V_iret X Y () trivial (mv_si (by simp only [spAsk]; by_cases h9 : canN w n el fd m 0 (2 ^ n) ≤ 1; (rw [if_pos h9]; (have e : p = 0 := by omega); subst e; simp only [askS] at hs; exact (congrArg Prod.snd hs).symm); (first | (exfalso; omega) | (rw [if_neg h9]; rw [show p = n by omega] at hs; exact (congrArg Prod.snd hs).symm)))) rfl rfl dX11_ask_71
        · refine V_aload_n X dX11_ask_31 rfl ?_
          refine V_iconst X (nI 1) dX11_ask_32 (by decide) ?_
          refine V_iload X dX11_ask_33 rfl ?_
          refine V_ishl1N X dX11_ask_35 (by omega) ?_
          have hp2 := p2_lt (show p < 5 by omega)
          have hcn := canN_le w n el fd m (2 ^ p) (2 ^ n)
          refine V_callV (rest := []) X (c_X11_setsThatCan (Cl C) G a im kd re pa b c kk ts bt sp qu bs (lN tr) w v n k f el fd m (2 ^ p) (by first | assumption | omega) (by first | assumption | omega) (by first | assumption | omega) (by first | assumption | omega) (by first | assumption | omega) (by first | assumption | omega)) mi_X11_setsThatCan kw_3_128 kw_3_130 kw_s_24 dX11_ask_36 [0, 1, 2] rfl (by decide) 0 0 rfl rfl rfl rfl rfl rfl (by decide) (Nat.le_of_ble_eq_true rfl) ⟨rfl, rfl⟩ (fun _ _ => ?_)
          show V C 0 0 [gMoot G a (fun j => im j 0) kd re (b 0) (c 0) pa (f 0) (nF kk) (nF ts) (sF bt) (sF sp) (nF qu) (iI bs) (lN tr), gRoll G b (nF w) (nF v) (nI n) (nI k), gFind G f (nF el) (nF fd) (nI m)] 39 [some (.ref (a 0)), some (.int (nI (canN w n el fd m 0 (2 ^ n)))), some (.int (iI ch)), some (.int (nI le)), some (.int (nI p)), none, none] [.int (nI (canN w n el fd m (2 ^ p) (2 ^ n)))]
          refine V_istore X dX11_ask_39 (by decide) rfl ?_
          refine V_iload X dX11_ask_41 rfl ?_
          refine V_iload_n X dX11_ask_43 rfl ?_
          refine V_iload X dX11_ask_44 rfl ?_
          refine V_isubN X dX11_ask_46 (by omega) ?_
          refine V_mmaxN X kw_3_153 dX11_ask_47 (by decide) (Nat.le_of_ble_eq_true rfl) ⟨rfl, rfl⟩ (by omega) (by omega) ?_
          refine V_istore X dX11_ask_50 (by decide) rfl ?_
          refine V_iload X dX11_ask_52 rfl ?_
          refine V_iload_n X dX11_ask_54 rfl ?_
          refine V_icmp_geN X 64 dX11_ask_55 (by decide) (by omega) (by omega) (fun c_3 => ?_) (fun c_3 => ?_)
          · refine V_iincN X (c := 1) dX11_ask_64 rfl (by decide) rfl ?_
            refine V_goto X 14 dX11_ask_67 (by decide) ?_
            refine V_weak (lv' := [some (.ref (a 0)), some (.int (nI (canN w n el fd m 0 (2 ^ n)))), some (.int (iI ch)), some (.int (nI le)), some (.int (nI (p + 1))), none, none]) (And.intro rfl (And.intro rfl (And.intro rfl (And.intro rfl (And.intro rfl trivial))))) ?_
            exact ih_14 le ch (p + 1) (by omega) (by simp only [askS]; rw [← hs]; dsimp only; first | rw [if_pos (by omega)] | rw [if_neg (by omega)]) (by omega) (by omega) (by omega)
          · refine V_iload X dX11_ask_58 rfl ?_
            refine V_istore_n X dX11_ask_60 (by decide) rfl ?_
            refine V_iload X dX11_ask_61 rfl ?_
            refine V_istore_n X dX11_ask_63 (by decide) rfl ?_
            refine V_iincN X (c := 1) dX11_ask_64 rfl (by decide) rfl ?_
            refine V_goto X 14 dX11_ask_67 (by decide) ?_
            refine V_weak (lv' := [some (.ref (a 0)), some (.int (nI (canN w n el fd m 0 (2 ^ n)))), some (.int (nI p)), some (.int (nI (max (canN w n el fd m (2 ^ p) (2 ^ n)) ((canN w n el fd m 0 (2 ^ n)) - (canN w n el fd m (2 ^ p) (2 ^ n)))))), some (.int (nI (p + 1))), none, none]) (And.intro rfl (And.intro rfl (And.intro rfl (And.intro rfl (And.intro rfl trivial))))) ?_
            exact ih_14 (max (canN w n el fd m (2 ^ p) (2 ^ n)) ((canN w n el fd m 0 (2 ^ n)) - (canN w n el fd m (2 ^ p) (2 ^ n)))) (p : Nat) (p + 1) (by omega) (by simp only [askS]; rw [← hs]; dsimp only; first | rw [if_pos (by omega)] | rw [if_neg (by omega)]) (by omega) (by omega) (by omega)
  refine V_weak (lv' := [some (.ref (a 0)), some (.int (nI (canN w n el fd m 0 (2 ^ n)))), some (.int (-9)), some (.int (nI (canN w n el fd m 0 (2 ^ n)))), some (.int (nI 0)), none, none]) (And.intro rfl (And.intro rfl (And.intro rfl (And.intro rfl (And.intro rfl trivial))))) ?_
  exact L_14 _ (canN w n el fd m 0 (2 ^ n)) (-9) 0 (by omega) rfl (by omega) (by omega) (Nat.lt_succ_self _)
set_option maxHeartbeats 4000000 in
set_option maxRecDepth 100000 in
theorem c_X11_keep (l : Launch) (G : mvG) (a : Nat → Nat) (im : Nat → Nat → Nat) (kd : Nat → Nat) (re : Nat) (pa : Nat) (fa : Nat) (b : Nat → Nat) (c : Nat → Nat) (kk : Nat → Nat) (ts : Nat → Nat) (bt : Nat → Int) (sp : Nat → Int) (qu : Nat → Nat) (bs : Int) (tr : Nat) (wh : Nat → Nat) (de : Nat → Nat) (t : Nat → Int32) (sv : Nat) (vt : Nat) (ps : Nat) (I : Nat → MoT) (x : Int) (hx : -2147483648 ≤ x ∧ x < 2147483648) : KQ l yX11_keep cX11_keep 3 (some .int) (2, 39) G [.ref (a 0), .int (iI x)] [gMoot G a (fun j => im j 0) kd re (b 0) (c 0) pa fa (nF kk) (nF ts) (sF bt) (sF sp) (nF qu) (iI bs) (lN tr), gMo G c (nF wh) (nF de) t (nI sv) (nI vt) (nI ps), gMoT G (im 0) (I 0), gMoT G (im 1) (I 1)] (fun (zz : Int × (Nat → MoT) × (Nat → Nat)) => some (.int (iI zz.1))) (fun (zz : Int × (Nat → MoT) × (Nat → Nat)) => (zz.1, zz.2.1, zz.2.2) = spKeep I kk (wh, de, t, sv, vt, ps) x) (fun (zz : Int × (Nat → MoT) × (Nat → Nat)) => [gMoot G a (fun j => im j 0) kd re (b 0) (c 0) pa fa (nF zz.2.2) (nF ts) (sF bt) (sF sp) (nF qu) (iI bs) (lN tr), gMo G c (nF wh) (nF de) t (nI sv) (nI vt) (nI ps), gMoT G (im 0) (zz.2.1 0), gMoT G (im 1) (zz.2.1 1)]) := by
  refine KQ.mk (by decide +kernel) (fun _ _ => rfl) [some (.ref (a 0)), some (.int (iI x)), none] (Nat.le_of_ble_eq_true rfl) rfl (fun C X Y hC => ?_)
  subst hC
  refine V_iload_n X dX11_keep_0 rfl ?_
  refine V_if_ltI (i := x) X 9 dX11_keep_1 (by decide) (iI_toInt (by omega) (by omega)) (fun c_1 => ?_) (fun c_1 => ?_)
  · refine V_iconst X (-1) dX11_keep_9 (by decide) ?_
    exact V_iret X Y ⟨-1, I, kk⟩ (show ((-1), I, kk) = spKeep I kk (wh, de, t, sv, vt, ps) x from (by simp only [spKeep]; repeat (first | rw [if_pos (by omega)] | rw [if_neg (by omega)]))) (mv_ri (by rfl)) rfl rfl dX11_keep_10
  · refine V_iload_n X dX11_keep_4 rfl ?_
    refine V_iconst X (nI 2) dX11_keep_5 (by decide) ?_
    refine V_icmp_ltI (i := x) (j := 2) X 11 dX11_keep_6 (by decide) (iI_toInt (by omega) (by omega)) (nI_toInt (by decide)) (fun c_2 => ?_) (fun c_2 => ?_)
    · obtain ⟨K, hK⟩ : ∃ K : Nat, K = x.toNat := ⟨_, rfl⟩
      refine V_loc (y := (nI K)) 1 rfl (by rw [hK]; exact mv_sn (by omega)) ?_
      rcases (show K = 0 ∨ K = 1 from by omega) with rfl | rfl
      · refine V_aload_n X dX11_keep_11 rfl ?_
        refine V_get X fl_X11_44 0 0 rfl rfl rfl dX11_keep_12 ?_
        refine V_iload_n X dX11_keep_15 rfl ?_
        refine V_aaldN X (t0 := 3) 0 1 rfl rfl rfl (by decide) (by decide) dX11_keep_16 ?_
        refine V_astore_n X dX11_keep_17 (by decide) rfl ?_
        refine V_aload_n X dX11_keep_18 rfl ?_
        refine V_ifnonnull X 24 dX11_keep_19 (by decide) ?_
        show V C 0 0 [gMoot G a (fun j => im j 0) kd re (b 0) (c 0) pa fa (nF kk) (nF ts) (sF bt) (sF sp) (nF qu) (iI bs) (lN tr), gMo G c (nF wh) (nF de) t (nI sv) (nI vt) (nI ps), gMo G (im 0) (nF ((I 0).1)) (nF ((I 0).2.1)) ((I 0).2.2.1) (nI ((I 0).2.2.2.1)) (nI ((I 0).2.2.2.2.1)) (nI ((I 0).2.2.2.2.2)), gMoT G (im 1) (I 1)] 24 [some (.ref (a 0)), some (.int (nI 0)), some (.ref (im 0 0))] []
        refine V_aload_n X dX11_keep_24 rfl ?_
        refine V_aload_n X dX11_keep_25 rfl ?_
        refine V_get X fl_X11_26 0 0 rfl rfl rfl dX11_keep_26 ?_
        refine V_callV (rest := []) X (c_X3_copyFrom (Cl C) G (im 0) ((I 0).1) ((I 0).2.1) ((I 0).2.2.1) ((I 0).2.2.2.1) ((I 0).2.2.2.2.1) ((I 0).2.2.2.2.2) c wh de t sv vt ps) mi_X3_copyFrom kw_2_124 kw_2_125 kw_2_126 dX11_keep_29 [2, 1] rfl (by decide) 2 0 rfl rfl rfl rfl rfl rfl (by decide) (Nat.le_of_ble_eq_true rfl) ⟨rfl, rfl⟩ (fun _ _ => ?_)
        show V C 0 0 [gMoot G a (fun j => im j 0) kd re (b 0) (c 0) pa fa (nF kk) (nF ts) (sF bt) (sF sp) (nF qu) (iI bs) (lN tr), gMo G c (nF wh) (nF de) t (nI sv) (nI vt) (nI ps), gMo G (im 0) (nF wh) (nF de) t (nI sv) (nI vt) (nI ps), gMoT G (im 1) (I 1)] 32 [some (.ref (a 0)), some (.int (nI 0)), some (.ref (im 0 0))] []
        refine V_aload_n X dX11_keep_32 rfl ?_
        refine V_get X fl_X11_48 0 0 rfl rfl rfl dX11_keep_33 ?_
        refine V_iload_n X dX11_keep_36 rfl ?_
        refine V_iconst X (nI 1) dX11_keep_37 (by decide) ?_
        refine V_zastN X 0 2 rfl rfl (by decide) (by decide) (by omega) dX11_keep_38 ?_
        show V C 0 0 [gMoot G a (fun j => im j 0) kd re (b 0) (c 0) pa fa (nF (va_up kk 0 1)) (nF ts) (sF bt) (sF sp) (nF qu) (iI bs) (lN tr), gMo G c (nF wh) (nF de) t (nI sv) (nI vt) (nI ps), gMo G (im 0) (nF wh) (nF de) t (nI sv) (nI vt) (nI ps), gMoT G (im 1) (I 1)] 39 [some (.ref (a 0)), some (.int (nI 0)), some (.ref (im 0 0))] []
        refine V_aload_n X dX11_keep_39 rfl ?_
        refine V_get X fl_X11_26 0 0 rfl rfl rfl dX11_keep_40 ?_
        refine V_get X fl_X11_154 1 0 rfl rfl rfl dX11_keep_43 ?_
        exact V_iret X Y ⟨((sv : Nat) : Int), (va_up I 0 (wh, de, t, sv, vt, ps)), va_up kk 0 1⟩ (show (((sv : Nat) : Int), (va_up I 0 (wh, de, t, sv, vt, ps)), (va_up kk 0 1)) = spKeep I kk (wh, de, t, sv, vt, ps) x from (by simp only [spKeep]; rw [if_pos (by omega), ← hK] <;> rfl)) (mv_ri (by rfl)) rfl rfl dX11_keep_46
      · refine V_aload_n X dX11_keep_11 rfl ?_
        refine V_get X fl_X11_44 0 0 rfl rfl rfl dX11_keep_12 ?_
        refine V_iload_n X dX11_keep_15 rfl ?_
        refine V_aaldN X (t0 := 3) 0 1 rfl rfl rfl (by decide) (by decide) dX11_keep_16 ?_
        refine V_astore_n X dX11_keep_17 (by decide) rfl ?_
        refine V_aload_n X dX11_keep_18 rfl ?_
        refine V_ifnonnull X 24 dX11_keep_19 (by decide) ?_
        show V C 0 0 [gMoot G a (fun j => im j 0) kd re (b 0) (c 0) pa fa (nF kk) (nF ts) (sF bt) (sF sp) (nF qu) (iI bs) (lN tr), gMo G c (nF wh) (nF de) t (nI sv) (nI vt) (nI ps), gMoT G (im 0) (I 0), gMo G (im 1) (nF ((I 1).1)) (nF ((I 1).2.1)) ((I 1).2.2.1) (nI ((I 1).2.2.2.1)) (nI ((I 1).2.2.2.2.1)) (nI ((I 1).2.2.2.2.2))] 24 [some (.ref (a 0)), some (.int (nI 1)), some (.ref (im 1 0))] []
        refine V_aload_n X dX11_keep_24 rfl ?_
        refine V_aload_n X dX11_keep_25 rfl ?_
        refine V_get X fl_X11_26 0 0 rfl rfl rfl dX11_keep_26 ?_
        refine V_callV (rest := []) X (c_X3_copyFrom (Cl C) G (im 1) ((I 1).1) ((I 1).2.1) ((I 1).2.2.1) ((I 1).2.2.2.1) ((I 1).2.2.2.2.1) ((I 1).2.2.2.2.2) c wh de t sv vt ps) mi_X3_copyFrom kw_2_124 kw_2_125 kw_2_126 dX11_keep_29 [3, 1] rfl (by decide) 3 0 rfl rfl rfl rfl rfl rfl (by decide) (Nat.le_of_ble_eq_true rfl) ⟨rfl, rfl⟩ (fun _ _ => ?_)
        show V C 0 0 [gMoot G a (fun j => im j 0) kd re (b 0) (c 0) pa fa (nF kk) (nF ts) (sF bt) (sF sp) (nF qu) (iI bs) (lN tr), gMo G c (nF wh) (nF de) t (nI sv) (nI vt) (nI ps), gMoT G (im 0) (I 0), gMo G (im 1) (nF wh) (nF de) t (nI sv) (nI vt) (nI ps)] 32 [some (.ref (a 0)), some (.int (nI 1)), some (.ref (im 1 0))] []
        refine V_aload_n X dX11_keep_32 rfl ?_
        refine V_get X fl_X11_48 0 0 rfl rfl rfl dX11_keep_33 ?_
        refine V_iload_n X dX11_keep_36 rfl ?_
        refine V_iconst X (nI 1) dX11_keep_37 (by decide) ?_
        refine V_zastN X 0 2 rfl rfl (by decide) (by decide) (by omega) dX11_keep_38 ?_
        show V C 0 0 [gMoot G a (fun j => im j 0) kd re (b 0) (c 0) pa fa (nF (va_up kk 1 1)) (nF ts) (sF bt) (sF sp) (nF qu) (iI bs) (lN tr), gMo G c (nF wh) (nF de) t (nI sv) (nI vt) (nI ps), gMoT G (im 0) (I 0), gMo G (im 1) (nF wh) (nF de) t (nI sv) (nI vt) (nI ps)] 39 [some (.ref (a 0)), some (.int (nI 1)), some (.ref (im 1 0))] []
        refine V_aload_n X dX11_keep_39 rfl ?_
        refine V_get X fl_X11_26 0 0 rfl rfl rfl dX11_keep_40 ?_
        refine V_get X fl_X11_154 1 0 rfl rfl rfl dX11_keep_43 ?_
        exact V_iret X Y ⟨((sv : Nat) : Int), (va_up I 1 (wh, de, t, sv, vt, ps)), va_up kk 1 1⟩ (show (((sv : Nat) : Int), (va_up I 1 (wh, de, t, sv, vt, ps)), (va_up kk 1 1)) = spKeep I kk (wh, de, t, sv, vt, ps) x from (by simp only [spKeep]; rw [if_pos (by omega), ← hK] <;> rfl)) (mv_ri (by rfl)) rfl rfl dX11_keep_46
    · refine V_iconst X (-1) dX11_keep_9 (by decide) ?_
      exact V_iret X Y ⟨-1, I, kk⟩ (show ((-1), I, kk) = spKeep I kk (wh, de, t, sv, vt, ps) x from (by simp only [spKeep]; repeat (first | rw [if_pos (by omega)] | rw [if_neg (by omega)]))) (mv_ri (by rfl)) rfl rfl dX11_keep_10
set_option maxHeartbeats 4000000 in
set_option maxRecDepth 100000 in
theorem c_X11_back (l : Launch) (G : mvG) (a : Nat → Nat) (im : Nat → Nat → Nat) (kd : Nat → Nat) (re : Nat) (fa : Nat) (b : Nat → Nat) (c : Nat → Nat) (kk : Nat → Nat) (ts : Nat → Nat) (bt : Nat → Int) (sp : Nat → Int) (qu : Nat → Nat) (bs : Int) (tr : Nat) (wh : Nat → Nat) (de : Nat → Nat) (t : Nat → Int32) (sv : Nat) (vt : Nat) (ps : Nat) (I : Nat → MoT) (pp : Nat → Nat) (pr : Nat → Nat) (q : Nat) (kn : Nat) (x : Int) (hkk : ∀ j, kk j ≤ 1) (hx : -2147483648 ≤ x ∧ x < 2147483648) : KQ l yX11_back cX11_back 3 (some .int) (2, 39) G [.ref (a 0), .int (iI x)] [gMoot G a (fun j => im j 0) kd re (b 0) (c 0) (pp 0) fa (nF kk) (nF ts) (sF bt) (sF sp) (nF qu) (iI bs) (lN tr), gMo G c (nF wh) (nF de) t (nI sv) (nI vt) (nI ps), gPast G pp pr (nI q) (nI kn), gMoT G (im 0) (I 0), gMoT G (im 1) (I 1)] (fun (zz : Int × (Nat → Nat) × (Nat → Nat) × (Nat → Int32) × Nat × Nat × Nat × Nat) => some (.int (iI zz.1))) (fun (zz : Int × (Nat → Nat) × (Nat → Nat) × (Nat → Int32) × Nat × Nat × Nat × Nat) => (zz.1, (zz.2.1, zz.2.2.1, zz.2.2.2.1, zz.2.2.2.2.1, zz.2.2.2.2.2.1, zz.2.2.2.2.2.2.1), zz.2.2.2.2.2.2.2) = spBack I kk (wh, de, t, sv, vt, ps) kn x) (fun (zz : Int × (Nat → Nat) × (Nat → Nat) × (Nat → Int32) × Nat × Nat × Nat × Nat) => [gMoot G a (fun j => im j 0) kd re (b 0) (c 0) (pp 0) fa (nF kk) (nF ts) (sF bt) (sF sp) (nF qu) (iI bs) (lN tr), gMo G c (nF zz.2.1) (nF zz.2.2.1) zz.2.2.2.1 (nI zz.2.2.2.2.1) (nI zz.2.2.2.2.2.1) (nI zz.2.2.2.2.2.2.1), gPast G pp pr (nI q) (nI zz.2.2.2.2.2.2.2), gMoT G (im 0) (I 0), gMoT G (im 1) (I 1)]) := by
  refine KQ.mk (by decide +kernel) (fun _ _ => rfl) [some (.ref (a 0)), some (.int (iI x)), none] (Nat.le_of_ble_eq_true rfl) rfl (fun C X Y hC => ?_)
  subst hC
  refine V_iload_n X dX11_back_0 rfl ?_
  refine V_if_ltI (i := x) X 9 dX11_back_1 (by decide) (iI_toInt (by omega) (by omega)) (fun c_1 => ?_) (fun c_1 => ?_)
  · refine V_iconst X (-1) dX11_back_9 (by decide) ?_
    exact V_iret X Y ⟨-1, wh, de, t, sv, vt, ps, kn⟩ (show ((-1), (wh, de, t, sv, vt, ps), kn) = spBack I kk (wh, de, t, sv, vt, ps) kn x from (by simp only [spBack]; repeat (first | rw [if_pos (by omega)] | rw [if_neg (by omega)]))) (mv_ri (by rfl)) rfl rfl dX11_back_10
  · refine V_iload_n X dX11_back_4 rfl ?_
    refine V_iconst X (nI 2) dX11_back_5 (by decide) ?_
    refine V_icmp_ltI (i := x) (j := 2) X 11 dX11_back_6 (by decide) (iI_toInt (by omega) (by omega)) (nI_toInt (by decide)) (fun c_2 => ?_) (fun c_2 => ?_)
    · obtain ⟨K, hK⟩ : ∃ K : Nat, K = x.toNat := ⟨_, rfl⟩
      refine V_loc (y := (nI K)) 1 rfl (by rw [hK]; exact mv_sn (by omega)) ?_
      rcases (show K = 0 ∨ K = 1 from by omega) with rfl | rfl
      · refine V_aload_n X dX11_back_11 rfl ?_
        refine V_get X fl_X11_44 0 0 rfl rfl rfl dX11_back_12 ?_
        refine V_iload_n X dX11_back_15 rfl ?_
        refine V_aaldN X (t0 := 3) 0 1 rfl rfl rfl (by decide) (by decide) dX11_back_16 ?_
        refine V_astore_n X dX11_back_17 (by decide) rfl ?_
        refine V_aload_n X dX11_back_18 rfl ?_
        refine V_ifnull X dX11_back_19 ?_
        refine V_aload_n X dX11_back_22 rfl ?_
        refine V_get X fl_X11_48 0 0 rfl rfl rfl dX11_back_23 ?_
        refine V_iload_n X dX11_back_26 rfl ?_
        refine V_zaldN X 0 2 rfl rfl (by decide) (by decide) dX11_back_27 ?_
        refine V_if_neN X 34 dX11_back_28 (by decide) (by have h1 := hkk 0; have h2 := hkk 1; omega) (fun c_3 => ?_) (fun c_3 => ?_)
        · show V C 0 0 [gMoot G a (fun j => im j 0) kd re (b 0) (c 0) (pp 0) fa (nF kk) (nF ts) (sF bt) (sF sp) (nF qu) (iI bs) (lN tr), gMo G c (nF wh) (nF de) t (nI sv) (nI vt) (nI ps), gPast G pp pr (nI q) (nI kn), gMo G (im 0) (nF ((I 0).1)) (nF ((I 0).2.1)) ((I 0).2.2.1) (nI ((I 0).2.2.2.1)) (nI ((I 0).2.2.2.2.1)) (nI ((I 0).2.2.2.2.2)), gMoT G (im 1) (I 1)] 34 [some (.ref (a 0)), some (.int (nI 0)), some (.ref (im 0 0))] []
          refine V_aload_n X dX11_back_34 rfl ?_
          refine V_get X fl_X11_26 0 0 rfl rfl rfl dX11_back_35 ?_
          refine V_aload_n X dX11_back_38 rfl ?_
          refine V_callV (rest := []) X (c_X3_copyFrom (Cl C) G c wh de t sv vt ps (im 0) ((I 0).1) ((I 0).2.1) ((I 0).2.2.1) ((I 0).2.2.2.1) ((I 0).2.2.2.2.1) ((I 0).2.2.2.2.2)) mi_X3_copyFrom kw_2_124 kw_2_125 kw_2_126 dX11_back_39 [1, 3] rfl (by decide) 1 0 rfl rfl rfl rfl rfl rfl (by decide) (Nat.le_of_ble_eq_true rfl) ⟨rfl, rfl⟩ (fun _ _ => ?_)
          show V C 0 0 [gMoot G a (fun j => im j 0) kd re (b 0) (c 0) (pp 0) fa (nF kk) (nF ts) (sF bt) (sF sp) (nF qu) (iI bs) (lN tr), gMo G c (nF ((I 0).1)) (nF ((I 0).2.1)) ((I 0).2.2.1) (nI ((I 0).2.2.2.1)) (nI ((I 0).2.2.2.2.1)) (nI ((I 0).2.2.2.2.2)), gPast G pp pr (nI q) (nI kn), gMo G (im 0) (nF ((I 0).1)) (nF ((I 0).2.1)) ((I 0).2.2.1) (nI ((I 0).2.2.2.1)) (nI ((I 0).2.2.2.2.1)) (nI ((I 0).2.2.2.2.2)), gMoT G (im 1) (I 1)] 42 [some (.ref (a 0)), some (.int (nI 0)), some (.ref (im 0 0))] []
          refine V_aload_n X dX11_back_42 rfl ?_
          refine V_get X fl_X11_33 0 0 rfl rfl rfl dX11_back_43 ?_
          refine V_callV (rest := []) X (c_X5_lose (Cl C) G pp pr q kn) mi_X5_lose kw_2_129 kw_2_130 kw_2_131 dX11_back_46 [2] rfl (by decide) 2 0 rfl rfl rfl rfl rfl rfl (by decide) (Nat.le_of_ble_eq_true rfl) ⟨rfl, rfl⟩ (fun _ _ => ?_)
          show V C 0 0 [gMoot G a (fun j => im j 0) kd re (b 0) (c 0) (pp 0) fa (nF kk) (nF ts) (sF bt) (sF sp) (nF qu) (iI bs) (lN tr), gMo G c (nF ((I 0).1)) (nF ((I 0).2.1)) ((I 0).2.2.1) (nI ((I 0).2.2.2.1)) (nI ((I 0).2.2.2.2.1)) (nI ((I 0).2.2.2.2.2)), gPast G pp pr (nI q) (nI 0), gMo G (im 0) (nF ((I 0).1)) (nF ((I 0).2.1)) ((I 0).2.2.1) (nI ((I 0).2.2.2.1)) (nI ((I 0).2.2.2.2.1)) (nI ((I 0).2.2.2.2.2)), gMoT G (im 1) (I 1)] 49 [some (.ref (a 0)), some (.int (nI 0)), some (.ref (im 0 0))] []
          refine V_aload_n X dX11_back_49 rfl ?_
          refine V_get X fl_X11_26 0 0 rfl rfl rfl dX11_back_50 ?_
          refine V_get X fl_X11_154 1 0 rfl rfl rfl dX11_back_53 ?_
          exact V_iret X Y ⟨((((I 0).2.2.2.1) : Nat) : Int), ((I 0).1), ((I 0).2.1), ((I 0).2.2.1), ((I 0).2.2.2.1), ((I 0).2.2.2.2.1), ((I 0).2.2.2.2.2), 0⟩ (show (((((I 0).2.2.2.1) : Nat) : Int), (((I 0).1), ((I 0).2.1), ((I 0).2.2.1), ((I 0).2.2.2.1), ((I 0).2.2.2.2.1), ((I 0).2.2.2.2.2)), 0) = spBack I kk (wh, de, t, sv, vt, ps) kn x from (by simp only [spBack]; rw [if_pos (by omega), ← hK]; (repeat (first | rw [if_pos (by omega)] | rw [if_neg (by omega)])) <;> rfl)) (mv_ri (by rfl)) rfl rfl dX11_back_56
        · refine V_bipush X (-2) dX11_back_31 (by decide) ?_
          exact V_iret X Y ⟨-2, wh, de, t, sv, vt, ps, kn⟩ (show ((-2), (wh, de, t, sv, vt, ps), kn) = spBack I kk (wh, de, t, sv, vt, ps) kn x from (by simp only [spBack]; rw [if_pos (by omega), ← hK]; (repeat (first | rw [if_pos (by omega)] | rw [if_neg (by omega)])) <;> rfl)) (mv_ri (by rfl)) rfl rfl dX11_back_33
      · refine V_aload_n X dX11_back_11 rfl ?_
        refine V_get X fl_X11_44 0 0 rfl rfl rfl dX11_back_12 ?_
        refine V_iload_n X dX11_back_15 rfl ?_
        refine V_aaldN X (t0 := 3) 0 1 rfl rfl rfl (by decide) (by decide) dX11_back_16 ?_
        refine V_astore_n X dX11_back_17 (by decide) rfl ?_
        refine V_aload_n X dX11_back_18 rfl ?_
        refine V_ifnull X dX11_back_19 ?_
        refine V_aload_n X dX11_back_22 rfl ?_
        refine V_get X fl_X11_48 0 0 rfl rfl rfl dX11_back_23 ?_
        refine V_iload_n X dX11_back_26 rfl ?_
        refine V_zaldN X 0 2 rfl rfl (by decide) (by decide) dX11_back_27 ?_
        refine V_if_neN X 34 dX11_back_28 (by decide) (by have h1 := hkk 0; have h2 := hkk 1; omega) (fun c_4 => ?_) (fun c_4 => ?_)
        · show V C 0 0 [gMoot G a (fun j => im j 0) kd re (b 0) (c 0) (pp 0) fa (nF kk) (nF ts) (sF bt) (sF sp) (nF qu) (iI bs) (lN tr), gMo G c (nF wh) (nF de) t (nI sv) (nI vt) (nI ps), gPast G pp pr (nI q) (nI kn), gMoT G (im 0) (I 0), gMo G (im 1) (nF ((I 1).1)) (nF ((I 1).2.1)) ((I 1).2.2.1) (nI ((I 1).2.2.2.1)) (nI ((I 1).2.2.2.2.1)) (nI ((I 1).2.2.2.2.2))] 34 [some (.ref (a 0)), some (.int (nI 1)), some (.ref (im 1 0))] []
          refine V_aload_n X dX11_back_34 rfl ?_
          refine V_get X fl_X11_26 0 0 rfl rfl rfl dX11_back_35 ?_
          refine V_aload_n X dX11_back_38 rfl ?_
          refine V_callV (rest := []) X (c_X3_copyFrom (Cl C) G c wh de t sv vt ps (im 1) ((I 1).1) ((I 1).2.1) ((I 1).2.2.1) ((I 1).2.2.2.1) ((I 1).2.2.2.2.1) ((I 1).2.2.2.2.2)) mi_X3_copyFrom kw_2_124 kw_2_125 kw_2_126 dX11_back_39 [1, 4] rfl (by decide) 1 0 rfl rfl rfl rfl rfl rfl (by decide) (Nat.le_of_ble_eq_true rfl) ⟨rfl, rfl⟩ (fun _ _ => ?_)
          show V C 0 0 [gMoot G a (fun j => im j 0) kd re (b 0) (c 0) (pp 0) fa (nF kk) (nF ts) (sF bt) (sF sp) (nF qu) (iI bs) (lN tr), gMo G c (nF ((I 1).1)) (nF ((I 1).2.1)) ((I 1).2.2.1) (nI ((I 1).2.2.2.1)) (nI ((I 1).2.2.2.2.1)) (nI ((I 1).2.2.2.2.2)), gPast G pp pr (nI q) (nI kn), gMoT G (im 0) (I 0), gMo G (im 1) (nF ((I 1).1)) (nF ((I 1).2.1)) ((I 1).2.2.1) (nI ((I 1).2.2.2.1)) (nI ((I 1).2.2.2.2.1)) (nI ((I 1).2.2.2.2.2))] 42 [some (.ref (a 0)), some (.int (nI 1)), some (.ref (im 1 0))] []
          refine V_aload_n X dX11_back_42 rfl ?_
          refine V_get X fl_X11_33 0 0 rfl rfl rfl dX11_back_43 ?_
          refine V_callV (rest := []) X (c_X5_lose (Cl C) G pp pr q kn) mi_X5_lose kw_2_129 kw_2_130 kw_2_131 dX11_back_46 [2] rfl (by decide) 2 0 rfl rfl rfl rfl rfl rfl (by decide) (Nat.le_of_ble_eq_true rfl) ⟨rfl, rfl⟩ (fun _ _ => ?_)
          show V C 0 0 [gMoot G a (fun j => im j 0) kd re (b 0) (c 0) (pp 0) fa (nF kk) (nF ts) (sF bt) (sF sp) (nF qu) (iI bs) (lN tr), gMo G c (nF ((I 1).1)) (nF ((I 1).2.1)) ((I 1).2.2.1) (nI ((I 1).2.2.2.1)) (nI ((I 1).2.2.2.2.1)) (nI ((I 1).2.2.2.2.2)), gPast G pp pr (nI q) (nI 0), gMoT G (im 0) (I 0), gMo G (im 1) (nF ((I 1).1)) (nF ((I 1).2.1)) ((I 1).2.2.1) (nI ((I 1).2.2.2.1)) (nI ((I 1).2.2.2.2.1)) (nI ((I 1).2.2.2.2.2))] 49 [some (.ref (a 0)), some (.int (nI 1)), some (.ref (im 1 0))] []
          refine V_aload_n X dX11_back_49 rfl ?_
          refine V_get X fl_X11_26 0 0 rfl rfl rfl dX11_back_50 ?_
          refine V_get X fl_X11_154 1 0 rfl rfl rfl dX11_back_53 ?_
          exact V_iret X Y ⟨((((I 1).2.2.2.1) : Nat) : Int), ((I 1).1), ((I 1).2.1), ((I 1).2.2.1), ((I 1).2.2.2.1), ((I 1).2.2.2.2.1), ((I 1).2.2.2.2.2), 0⟩ (show (((((I 1).2.2.2.1) : Nat) : Int), (((I 1).1), ((I 1).2.1), ((I 1).2.2.1), ((I 1).2.2.2.1), ((I 1).2.2.2.2.1), ((I 1).2.2.2.2.2)), 0) = spBack I kk (wh, de, t, sv, vt, ps) kn x from (by simp only [spBack]; rw [if_pos (by omega), ← hK]; (repeat (first | rw [if_pos (by omega)] | rw [if_neg (by omega)])) <;> rfl)) (mv_ri (by rfl)) rfl rfl dX11_back_56
        · refine V_bipush X (-2) dX11_back_31 (by decide) ?_
          exact V_iret X Y ⟨-2, wh, de, t, sv, vt, ps, kn⟩ (show ((-2), (wh, de, t, sv, vt, ps), kn) = spBack I kk (wh, de, t, sv, vt, ps) kn x from (by simp only [spBack]; rw [if_pos (by omega), ← hK]; (repeat (first | rw [if_pos (by omega)] | rw [if_neg (by omega)])) <;> rfl)) (mv_ri (by rfl)) rfl rfl dX11_back_33
    · refine V_iconst X (-1) dX11_back_9 (by decide) ?_
      exact V_iret X Y ⟨-1, wh, de, t, sv, vt, ps, kn⟩ (show ((-1), (wh, de, t, sv, vt, ps), kn) = spBack I kk (wh, de, t, sv, vt, ps) kn x from (by simp only [spBack]; repeat (first | rw [if_pos (by omega)] | rw [if_neg (by omega)]))) (mv_ri (by rfl)) rfl rfl dX11_back_10
set_option maxHeartbeats 4000000 in
set_option maxRecDepth 100000 in
theorem c_X11_count (l : Launch) (G : mvG) (a : Nat → Nat) (im : Nat → Nat → Nat) (kd : Nat → Nat) (pa : Nat) (b : Nat → Nat) (c : Nat → Nat) (kk : Nat → Nat) (ts : Nat → Nat) (bt : Nat → Int) (sp : Nat → Int) (qu : Nat → Nat) (bs : Int) (tr : Nat) (w : Nat → Nat) (v : Nat → Nat) (n : Nat) (k : Nat) (f : Nat → Nat) (el : Nat → Nat) (fd : Nat → Nat) (m : Nat) (rr : Nat → Nat) (ro : Nat) (fi : Nat) (L : Nat → Nat) (Nn : Nat → Nat) (len : Nat) (sk : Nat) (att : Nat) (ts1 : Nat) (tk : Nat) (nb1 : Nat) (y : Int) (hy : -2147483648 ≤ y ∧ y < 2147483648) : KQ l yX11_count cX11_count 2 (some .int) (0, 0) G [.ref (a 0), .int (iI y)] [gMoot G a (fun j => im j 0) kd (rr 0) (b 0) (c 0) pa (f 0) (nF kk) (nF ts) (sF bt) (sF sp) (nF qu) (iI bs) (lN tr), gRoll G b (nF w) (nF v) (nI n) (nI k), gFind G f (nF el) (nF fd) (nI m), gRead G rr ro fi (nF L) (nF Nn) (nI len) (nI sk) (nI att) (nI ts1) (nI tk) (nI nb1)] (fun (_ : Unit) => some (.int (iI (spCount n k m len y)))) (fun (_ : Unit) => True) (fun (_ : Unit) => [gMoot G a (fun j => im j 0) kd (rr 0) (b 0) (c 0) pa (f 0) (nF kk) (nF ts) (sF bt) (sF sp) (nF qu) (iI bs) (lN tr), gRoll G b (nF w) (nF v) (nI n) (nI k), gFind G f (nF el) (nF fd) (nI m), gRead G rr ro fi (nF L) (nF Nn) (nI len) (nI sk) (nI att) (nI ts1) (nI tk) (nI nb1)]) := by
  refine KQ.mk (by decide +kernel) (fun _ _ => rfl) [some (.ref (a 0)), some (.int (iI y))] (Nat.le_of_ble_eq_true rfl) rfl (fun C X Y hC => ?_)
  subst hC
  refine V_iload_n X dX11_count_0 rfl ?_
  by_cases c_1 : y = 0
  · refine V_tableInI (i := y) (off := 31) X 32 dX11_count_1 0 (iI_toInt (by omega) (by omega)) c_1 (by decide) (by decide) (by decide) ?_
    refine V_aload_n X dX11_count_32 rfl ?_
    refine V_get X fl_X11_19 0 0 rfl rfl rfl dX11_count_33 ?_
    refine V_get X fl_X11_257 1 0 rfl rfl rfl dX11_count_36 ?_
    exact V_iret X Y () trivial (mv_ri (by simp only [spCount]; (repeat (first | rw [if_pos (by omega)] | rw [if_neg (by omega)])) <;> rfl)) rfl rfl dX11_count_39
  · by_cases c_2 : y = 1
    · refine V_tableInI (i := y) (off := 39) X 40 dX11_count_1 1 (iI_toInt (by omega) (by omega)) c_2 (by decide) (by decide) (by decide) ?_
      refine V_aload_n X dX11_count_40 rfl ?_
      refine V_get X fl_X11_19 0 0 rfl rfl rfl dX11_count_41 ?_
      refine V_get X fl_X11_193 1 0 rfl rfl rfl dX11_count_44 ?_
      exact V_iret X Y () trivial (mv_ri (by simp only [spCount]; (repeat (first | rw [if_pos (by omega)] | rw [if_neg (by omega)])) <;> rfl)) rfl rfl dX11_count_47
    · by_cases c_3 : y = 2
      · refine V_tableInI (i := y) (off := 47) X 48 dX11_count_1 2 (iI_toInt (by omega) (by omega)) c_3 (by decide) (by decide) (by decide) ?_
        refine V_aload_n X dX11_count_48 rfl ?_
        refine V_get X fl_X11_40 0 0 rfl rfl rfl dX11_count_49 ?_
        refine V_get X fl_X11_113 2 0 rfl rfl rfl dX11_count_52 ?_
        exact V_iret X Y () trivial (mv_ri (by simp only [spCount]; (repeat (first | rw [if_pos (by omega)] | rw [if_neg (by omega)])) <;> rfl)) rfl rfl dX11_count_55
      · by_cases c_4 : y = 3
        · refine V_tableInI (i := y) (off := 55) X 56 dX11_count_1 3 (iI_toInt (by omega) (by omega)) c_4 (by decide) (by decide) (by decide) ?_
          refine V_aload_n X dX11_count_56 rfl ?_
          refine V_get X fl_X11_12 0 0 rfl rfl rfl dX11_count_57 ?_
          refine V_get X fl_X11_91 3 0 rfl rfl rfl dX11_count_60 ?_
          exact V_iret X Y () trivial (mv_ri (by simp only [spCount]; (repeat (first | rw [if_pos (by omega)] | rw [if_neg (by omega)])) <;> rfl)) rfl rfl dX11_count_63
        · refine V_tableOutI (i := y) X 64 dX11_count_1 (iI_toInt (by omega) (by omega)) (by omega) (by decide) ?_
          refine V_iconst X (-1) dX11_count_64 (by decide) ?_
          exact V_iret X Y () trivial (mv_ri (by simp only [spCount]; (repeat (first | rw [if_pos (by omega)] | rw [if_neg (by omega)])) <;> rfl)) rfl rfl dX11_count_65
set_option maxHeartbeats 4000000 in
set_option maxRecDepth 100000 in
theorem c_X11_trace (l : Launch) (G : mvG) (a : Nat → Nat) (im : Nat → Nat → Nat) (kd : Nat → Nat) (re : Nat) (pa : Nat) (fa : Nat) (b : Nat → Nat) (c : Nat → Nat) (kk : Nat → Nat) (ts : Nat → Nat) (bt : Nat → Int) (sp : Nat → Int) (qu : Nat → Nat) (bs : Int) (tr : Nat) : KQ l yX11_trace cX11_trace 1 (some .long) (0, 0) G [.ref (a 0)] [gMoot G a (fun j => im j 0) kd re (b 0) (c 0) pa fa (nF kk) (nF ts) (sF bt) (sF sp) (nF qu) (iI bs) (lN tr)] (fun (_ : Unit) => some (.long (lN tr))) (fun (_ : Unit) => True) (fun (_ : Unit) => [gMoot G a (fun j => im j 0) kd re (b 0) (c 0) pa fa (nF kk) (nF ts) (sF bt) (sF sp) (nF qu) (iI bs) (lN tr)]) := by
  refine KQ.mk (by decide +kernel) (fun _ _ => rfl) [some (.ref (a 0))] (Nat.le_of_ble_eq_true rfl) rfl (fun C X Y hC => ?_)
  subst hC
  refine V_aload_n X dX11_trace_0 rfl ?_
  refine V_get X fl_X11_270 0 0 rfl rfl rfl dX11_trace_1 ?_
  exact V_lret X Y () trivial rfl rfl dX11_trace_4
