theorem lw_stat {b : Nat} {s : State} {A : Nat → Prop} (hg : (Jvm.Cond.and given_1 narrow_1).before #[Value.ref b] s = true) (hts : ∀ w ∈ lw_tbl, w.before #[Value.ref b] s = true) (hA : ∀ a : Nat, a < s.heap.size → ¬ A a) : ∃ st : Nat → Nat, mvSZ st A s s.heap := by
  have hs := flat_of_before _ hg
  obtain ⟨t0, ev0, hT0⟩ := va_Tof (N := 4) (tm := (.static "MudMoot$Reader" "PERSON_LEAST" "[I")) (ty := .int) (f := fun j => .int (([0, 0, 1, 0] : List Int32).getD j 0)) (A := A) (by decide) (hs (.arrayOf (.static "MudMoot$Reader" "PERSON_LEAST" "[I") .int) (by decide +kernel)) (va_eqt (hs (.eq (.length (.static "MudMoot$Reader" "PERSON_LEAST" "[I")) (.int 4)) (by decide +kernel))) (fun j hj => by match j, hj with | 0, _ => exact va_eqt (hs (.eq (.elem (.static "MudMoot$Reader" "PERSON_LEAST" "[I") (.int 0)) (.int 0)) (by decide +kernel)) | 1, _ => exact va_eqt (hs (.eq (.elem (.static "MudMoot$Reader" "PERSON_LEAST" "[I") (.int 1)) (.int 0)) (by decide +kernel)) | 2, _ => exact va_eqt (hs (.eq (.elem (.static "MudMoot$Reader" "PERSON_LEAST" "[I") (.int 2)) (.int 1)) (by decide +kernel)) | 3, _ => exact va_eqt (hs (.eq (.elem (.static "MudMoot$Reader" "PERSON_LEAST" "[I") (.int 3)) (.int 0)) (by decide +kernel)) | j + 4, h => exact absurd h (by omega)) hA
  have hZ0 := va_Zref (A := A) (hts _ (mu_2 72 rfl)) (hts _ (List.mem_filter.mp kw_1_2).1) ev0 hA
  obtain ⟨t1, ev1, hT1⟩ := va_Tof (N := 4) (tm := (.static "MudMoot$Reader" "PERSON_MOST" "[I")) (ty := .int) (f := fun j => .int (([5, 5, 4, 9] : List Int32).getD j 0)) (A := A) (by decide) (hs (.arrayOf (.static "MudMoot$Reader" "PERSON_MOST" "[I") .int) (by decide +kernel)) (va_eqt (hs (.eq (.length (.static "MudMoot$Reader" "PERSON_MOST" "[I")) (.int 4)) (by decide +kernel))) (fun j hj => by match j, hj with | 0, _ => exact va_eqt (hs (.eq (.elem (.static "MudMoot$Reader" "PERSON_MOST" "[I") (.int 0)) (.int 5)) (by decide +kernel)) | 1, _ => exact va_eqt (hs (.eq (.elem (.static "MudMoot$Reader" "PERSON_MOST" "[I") (.int 1)) (.int 5)) (by decide +kernel)) | 2, _ => exact va_eqt (hs (.eq (.elem (.static "MudMoot$Reader" "PERSON_MOST" "[I") (.int 2)) (.int 4)) (by decide +kernel)) | 3, _ => exact va_eqt (hs (.eq (.elem (.static "MudMoot$Reader" "PERSON_MOST" "[I") (.int 3)) (.int 9)) (by decide +kernel)) | j + 4, h => exact absurd h (by omega)) hA
  have hZ1 := va_Zref (A := A) (hts _ (mu_2 74 rfl)) (hts _ (List.mem_filter.mp kw_1_2).1) ev1 hA
  obtain ⟨t2, ev2, hT2⟩ := va_Tof (N := 1) (tm := (.static "MudMoot$Reader" "SOAKED_LEAST" "[I")) (ty := .int) (f := fun j => .int (([1] : List Int32).getD j 0)) (A := A) (by decide) (hs (.arrayOf (.static "MudMoot$Reader" "SOAKED_LEAST" "[I") .int) (by decide +kernel)) (va_eqt (hs (.eq (.length (.static "MudMoot$Reader" "SOAKED_LEAST" "[I")) (.int 1)) (by decide +kernel))) (fun j hj => by match j, hj with | 0, _ => exact va_eqt (hs (.eq (.elem (.static "MudMoot$Reader" "SOAKED_LEAST" "[I") (.int 0)) (.int 1)) (by decide +kernel)) | j + 1, h => exact absurd h (by omega)) hA
  have hZ2 := va_Zref (A := A) (hts _ (mu_2 98 rfl)) (hts _ (List.mem_filter.mp kw_1_2).1) ev2 hA
  obtain ⟨t3, ev3, hT3⟩ := va_Tof (N := 1) (tm := (.static "MudMoot$Reader" "SOAKED_MOST" "[I")) (ty := .int) (f := fun j => .int (([9] : List Int32).getD j 0)) (A := A) (by decide) (hs (.arrayOf (.static "MudMoot$Reader" "SOAKED_MOST" "[I") .int) (by decide +kernel)) (va_eqt (hs (.eq (.length (.static "MudMoot$Reader" "SOAKED_MOST" "[I")) (.int 1)) (by decide +kernel))) (fun j hj => by match j, hj with | 0, _ => exact va_eqt (hs (.eq (.elem (.static "MudMoot$Reader" "SOAKED_MOST" "[I") (.int 0)) (.int 9)) (by decide +kernel)) | j + 1, h => exact absurd h (by omega)) hA
  have hZ3 := va_Zref (A := A) (hts _ (mu_2 100 rfl)) (hts _ (List.mem_filter.mp kw_1_2).1) ev3 hA
  obtain ⟨t4, ev4, hT4⟩ := va_Tof (N := 3) (tm := (.static "MudMoot$Reader" "DEEP_LEAST" "[I")) (ty := .int) (f := fun j => .int (([0, 0, 0] : List Int32).getD j 0)) (A := A) (by decide) (hs (.arrayOf (.static "MudMoot$Reader" "DEEP_LEAST" "[I") .int) (by decide +kernel)) (va_eqt (hs (.eq (.length (.static "MudMoot$Reader" "DEEP_LEAST" "[I")) (.int 3)) (by decide +kernel))) (fun j hj => by match j, hj with | 0, _ => exact va_eqt (hs (.eq (.elem (.static "MudMoot$Reader" "DEEP_LEAST" "[I") (.int 0)) (.int 0)) (by decide +kernel)) | 1, _ => exact va_eqt (hs (.eq (.elem (.static "MudMoot$Reader" "DEEP_LEAST" "[I") (.int 1)) (.int 0)) (by decide +kernel)) | 2, _ => exact va_eqt (hs (.eq (.elem (.static "MudMoot$Reader" "DEEP_LEAST" "[I") (.int 2)) (.int 0)) (by decide +kernel)) | j + 3, h => exact absurd h (by omega)) hA
  have hZ4 := va_Zref (A := A) (hts _ (mu_2 106 rfl)) (hts _ (List.mem_filter.mp kw_1_2).1) ev4 hA
  obtain ⟨t5, ev5, hT5⟩ := va_Tof (N := 3) (tm := (.static "MudMoot$Reader" "DEEP_MOST" "[I")) (ty := .int) (f := fun j => .int (([5, 5, 9] : List Int32).getD j 0)) (A := A) (by decide) (hs (.arrayOf (.static "MudMoot$Reader" "DEEP_MOST" "[I") .int) (by decide +kernel)) (va_eqt (hs (.eq (.length (.static "MudMoot$Reader" "DEEP_MOST" "[I")) (.int 3)) (by decide +kernel))) (fun j hj => by match j, hj with | 0, _ => exact va_eqt (hs (.eq (.elem (.static "MudMoot$Reader" "DEEP_MOST" "[I") (.int 0)) (.int 5)) (by decide +kernel)) | 1, _ => exact va_eqt (hs (.eq (.elem (.static "MudMoot$Reader" "DEEP_MOST" "[I") (.int 1)) (.int 5)) (by decide +kernel)) | 2, _ => exact va_eqt (hs (.eq (.elem (.static "MudMoot$Reader" "DEEP_MOST" "[I") (.int 2)) (.int 9)) (by decide +kernel)) | j + 3, h => exact absurd h (by omega)) hA
  have hZ5 := va_Zref (A := A) (hts _ (mu_2 108 rfl)) (hts _ (List.mem_filter.mp kw_1_2).1) ev5 hA
  refine ⟨fun k => [t0, t1, t2, t3, t4, t5].getD k 0, fun k q hq => ?_⟩
  match k, hq with
  | 0, hq => cases hq; exact ⟨hZ0, hT0⟩
  | 1, hq => cases hq; exact ⟨hZ1, hT1⟩
  | 2, hq => cases hq; exact ⟨hZ2, hT2⟩
  | 3, hq => cases hq; exact ⟨hZ3, hT3⟩
  | 4, hq => cases hq; exact ⟨hZ4, hT4⟩
  | 5, hq => cases hq; exact ⟨hZ5, hT5⟩
  | k + 6, hq => simp [mvST] at hq
theorem lw_classes {b : Nat} {s : State} (htb : ∀ w ∈ TB, w.before #[Value.ref b] s = true) : ∃ D : va_G, ∀ (k : Nat) (q : vw_C), vwCl[k]? = some q → u_Kn s q.1 q.2.1 q.2.2 (D.1 k) (D.2 k) := by
  obtain ⟨c0, i0, h0⟩ := u_known (C := RX0) (T := TX0) (N := 0) htb inX0 (htb _ kw_1_177)
  obtain ⟨c1, i1, h1⟩ := u_known (C := RX1) (T := TX1) (N := 3) htb inX1 (htb _ kw_1_151)
  obtain ⟨c2, i2, h2⟩ := u_known (C := RX2) (T := TX2) (N := 0) htb inX2 (htb _ kw_1_184)
  obtain ⟨c3, i3, h3⟩ := u_known (C := RX3) (T := TX3) (N := 6) htb inX3 (htb _ kw_1_57)
  obtain ⟨c4, i4, h4⟩ := u_known (C := RX4) (T := TX4) (N := 0) htb inX4 (htb _ kw_1_169)
  obtain ⟨c5, i5, h5⟩ := u_known (C := RX5) (T := TX5) (N := 3) htb inX5 (htb _ kw_1_131)
  obtain ⟨c6, i6, h6⟩ := u_known (C := RX6) (T := TX6) (N := 10) htb inX6 (htb _ kw_1_26)
  obtain ⟨c7, i7, h7⟩ := u_known (C := RX7) (T := TX7) (N := 4) htb inX7 (htb _ kw_1_32)
  obtain ⟨c8, i8, h8⟩ := u_known (C := RX8) (T := TX8) (N := 0) htb inX8 (htb _ kw_1_191)
  obtain ⟨c9, i9, h9⟩ := u_known (C := RX9) (T := TX9) (N := 0) htb inX9 (htb _ kw_1_205)
  obtain ⟨c10, i10, h10⟩ := u_known (C := RX10) (T := TX10) (N := 0) htb inX10 (htb _ kw_1_198)
  obtain ⟨c11, i11, h11⟩ := u_known (C := RX11) (T := TX11) (N := 14) htb inX11 (htb _ kw_1_18)
  obtain ⟨c12, i12, h12⟩ := u_known (C := RX12) (T := TX12) (N := 18) htb inX12 (htb _ kw_3_212)
  refine ⟨(fun k => [c0, c1, c2, c3, c4, c5, c6, c7, c8, c9, c10, c11, c12].getD k 0, fun k => [i0, i1, i2, i3, i4, i5, i6, i7, i8, i9, i10, i11, i12].getD k (fun _ => 0)), fun k q hq => ?_⟩
  match k, hq with
  | 0, hq => cases hq; exact h0
  | 1, hq => cases hq; exact h1
  | 2, hq => cases hq; exact h2
  | 3, hq => cases hq; exact h3
  | 4, hq => cases hq; exact h4
  | 5, hq => cases hq; exact h5
  | 6, hq => cases hq; exact h6
  | 7, hq => cases hq; exact h7
  | 8, hq => cases hq; exact h8
  | 9, hq => cases hq; exact h9
  | 10, hq => cases hq; exact h10
  | 11, hq => cases hq; exact h11
  | 12, hq => cases hq; exact h12
  | k + 13, hq => simp [vwCl] at hq
theorem arr_prim {args : Array Value} {s : State} {ty : FieldType} (h : (Cond.arrayClass ty).before args s = true) (hra : ∀ c : ClassId, s.vm.findClass ("[" ++ ty.toString) = some c → va_RA s c ty) : ∃ c : ClassId, ArrOfT s c ty ∧ va_RA s c ty := by
  obtain ⟨c, k, comp, h1, h2, h3⟩ := Cond.arrayClass_spec h
  exact ⟨c, fun n z => ⟨(fun k h => by cases h), k, h2, comp, h3⟩, hra c h1⟩
theorem arr_obj {s : State} {Cn : String} (h : va_AO Cn s) : ∃ c : ClassId, ArrOfT s c (.object Cn) ∧ va_RA s c (.object Cn) := by
  obtain ⟨comp, c, k, h1, h2, h3, h4, h5⟩ := Cond.arrayOver_spec h
  exact ⟨c, fun n z => ⟨(fun k h => by cases h), k, h3, comp, h4⟩, k, comp, h3, h4, h1, h5⟩
theorem lw_arrays {b : Nat} {s : State} (htb : ∀ w ∈ TB, w.before #[Value.ref b] s = true) (hO : mvAO s) : ∃ cy : Nat → ClassId, ∀ (k : Nat) (q : ClassId × FieldType), (TY cy)[k]? = some q → ArrOfT s q.1 q.2 ∧ va_RA s q.1 q.2 := by
  obtain ⟨c0, h0⟩ := arr_prim (htb _ kw_1_55) (fun c h => h)
  obtain ⟨c1, h1⟩ := arr_prim (htb _ kw_1_175) (fun c h => h)
  obtain ⟨c2, h2⟩ := arr_prim (htb _ kw_1_54) (fun c h => h)
  obtain ⟨c3, h3⟩ := arr_obj hO.1
  obtain ⟨c4, h4⟩ := arr_obj hO.2
  refine ⟨fun k => [c0, c1, c2, c3, c4].getD k 0, fun k q hq => ?_⟩
  match k, hq with
  | 0, hq => cases hq; exact h0
  | 1, hq => cases hq; exact h1
  | 2, hq => cases hq; exact h2
  | 3, hq => cases hq; exact h3
  | 4, hq => cases hq; exact h4
  | k + 5, hq => simp [TY] at hq
theorem and31 (x : Int32) : ∃ j : Nat, j < 32 ∧ x &&& nI 31 = nI j := by
  refine ⟨(x &&& nI 31).toBitVec.toNat, ?_, ?_⟩
  · rw [Int32.toBitVec_and, BitVec.toNat_and]
    exact Nat.lt_of_le_of_lt Nat.and_le_right (by decide)
  · apply Int32.toBitVec_inj.mp
    apply BitVec.eq_of_toNat_eq
    simp only [nI, Int32.toBitVec_ofNat, BitVec.toNat_ofNat]
    exact (Nat.mod_eq_of_lt (BitVec.isLt _)).symm
set_option maxHeartbeats 4000000 in
set_option maxRecDepth 100000 in
theorem law_head {C : Cx} {G : mvG} {kc ks : Nat} (X : OK C cL_law RL 4 room_1 G) (hcs : kc ≤ 600000 ∧ ks ≤ 7302250) {sb Ls : Nat} {xs : Nat → Int32} (S : SC C sb Ls xs) (a : Nat → Nat) (iM : Nat → Nat → Nat) (kD : Nat → Nat) (rR : Nat → Nat) (gg : Nat → Nat) (hh : Nat → Nat) (bB : Nat → Nat) (cC : Nat → Nat) (pP : Nat → Nat) (aM : Nat → Nat → Nat) (fF : Nat → Nat) (zZ : Nat → Nat) (hLs : Ls ≤ 320) (hE : ∀ gs lv, V C kc ks gs 791 lv [.int (nI 1)]) : ∀ (fz i : Nat) (L : Nat → Nat) (Nn : Nat → Nat) (len : Nat) (sk : Nat) (att : Nat) (ts1 : Nat) (tk : Nat) (nb1 : Nat) (w1 : Nat → Nat) (v1 : Nat → Nat) (n1 : Nat) (k1 : Nat) (h1 : Nat → Nat) (d1 : Nat → Nat) (t1 : Nat → Int32) (s1 : Nat) (u1 : Nat) (p1 : Nat) (w : Nat → Nat) (v : Nat → Nat) (n : Nat) (k : Nat) (wh : Nat → Nat) (de : Nat → Nat) (t : Nat → Int32) (sv : Nat) (vt : Nat) (ps : Nat) (P : Nat → MoT) (q : Nat) (kn : Nat) (el : Nat → Nat) (fd : Nat → Nat) (m : Nat) (I : Nat → MoT) (kk : Nat → Nat) (ts : Nat → Nat) (bt : Nat → Int) (sp : Nat → Int) (qu : Nat → Nat) (bs : Int) (tr : Nat) (tx : Nat → Nat) (to : Nat → Nat) (dr : Nat → Nat) (be : Nat → Nat) (s : Nat → Nat) (pa : Nat → Nat) (im : Nat → Nat) (ke : Nat → Nat) (no : Nat → Nat) (fa : Nat → Nat) (tr2 : Nat) (ty : Nat) (kn2 : Nat) (nd : Nat) (at2 : Nat) (so : Nat) (ss : Nat) (va : Int), REL L len nb1 w1 v1 w v n k (wh, de, t, sv, vt, ps) P q kn el fd m I kk tr tx to s pa im ke no tr2 ty kn2 nd → i ≤ 320 → 330 - i < fz → V C kc ks [gMoot G a (fun j => iM j 0) kD (rR 0) (bB 0) (cC 0) (pP 0) (fF 0) (nF kk) (nF ts) (sF bt) (sF sp) (nF qu) (iI bs) (lN tr), gRead G rR (gg 0) (hh 0) (nF L) (nF Nn) (nI len) (nI sk) (nI att) (nI ts1) (nI tk) (nI nb1), gRoll G gg (nF w1) (nF v1) (nI n1) (nI k1), gMo G hh (nF h1) (nF d1) t1 (nI s1) (nI u1) (nI p1), gRoll G bB (nF w) (nF v) (nI n) (nI k), gMo G cC (nF wh) (nF de) t (nI sv) (nI vt) (nI ps), gPast G pP (fun j => aM j 0) (nI q) (nI kn), gMoT G (aM 0) (P 0), gMoT G (aM 1) (P 1), gMoT G (aM 2) (P 2), gMoT G (aM 3) (P 3), gMoT G (aM 4) (P 4), gMoT G (aM 5) (P 5), gMoT G (aM 6) (P 6), gMoT G (aM 7) (P 7), gMoT G (aM 8) (P 8), gMoT G (aM 9) (P 9), gFind G fF (nF el) (nF fd) (nI m), gMoT G (iM 0) (I 0), gMoT G (iM 1) (I 1), gObj (kD 0) 4, gObj (kD 1) 0, gObj (kD 2) 2, gObj (kD 3) 8, gObj (kD 4) 10, gObj (kD 5) 9, gMod G zZ (nF tx) (nF to) (nF dr) (nF be) (nF s) (nF pa) (nF im) (nF ke) (nF no) (nF fa) (lN tr2) (nI ty) (nI kn2) (nI nd) (nI at2) (nI so) (nI ss) (iI va)] 18 [some (.ref sb), some (.ref (a 0)), some (.ref (zZ 0)), some (.int (nI i))] [] := by
  intro fz
  induction fz with
  | zero => intro i L Nn len sk att ts1 tk nb1 w1 v1 n1 k1 h1 d1 t1 s1 u1 p1 w v n k wh de t sv vt ps P q kn el fd m I kk ts bt sp qu bs tr tx to dr be s pa im ke no fa tr2 ty kn2 nd at2 so ss va R hi hf; exact absurd hf (Nat.not_lt_zero _)
  | succ fz ih =>
    intro i L Nn len sk att ts1 tk nb1 w1 v1 n1 k1 h1 d1 t1 s1 u1 p1 w v n k wh de t sv vt ps P q kn el fd m I kk ts bt sp qu bs tr tx to dr be s pa im ke no fa tr2 ty kn2 nd at2 so ss va R hi hf
    refine V_iload_n X dL_law_18 rfl ?_
    refine V_aload_n X dL_law_19 rfl ?_
    refine V_slenN X S dL_law_20 ?_
    refine V_iconst X (nI 5) dL_law_21 (by decide) ?_
    refine V_two (show nI Ls = iI (Ls : Int) from rfl) (show nI 5 = iI 5 from rfl) ?_
    refine V_isubS X dL_law_22 ?_
    refine V_icmp_gtI (i := (i : Int)) (j := (Ls : Int) - 5) X 790 dL_law_23 (by decide) (nI_toInt (by omega)) (iI_toInt (by omega) (by omega)) (fun c => ?_) (fun c => ?_)
    · refine V_iconst X (nI 1) dL_law_790 (by decide) ?_
      exact hE _ _
    have hi5 : i + 5 ≤ Ls ∧ Ls ≤ 320 := by omega
    have hK : ∀ (L : Nat → Nat) (Nn : Nat → Nat) (len : Nat) (sk : Nat) (att : Nat) (ts1 : Nat) (tk : Nat) (nb1 : Nat) (w1 : Nat → Nat) (v1 : Nat → Nat) (n1 : Nat) (k1 : Nat) (h1 : Nat → Nat) (d1 : Nat → Nat) (t1 : Nat → Int32) (s1 : Nat) (u1 : Nat) (p1 : Nat) (w : Nat → Nat) (v : Nat → Nat) (n : Nat) (k : Nat) (wh : Nat → Nat) (de : Nat → Nat) (t : Nat → Int32) (sv : Nat) (vt : Nat) (ps : Nat) (P : Nat → MoT) (q : Nat) (kn : Nat) (el : Nat → Nat) (fd : Nat → Nat) (m : Nat) (I : Nat → MoT) (kk : Nat → Nat) (ts : Nat → Nat) (bt : Nat → Int) (sp : Nat → Int) (qu : Nat → Nat) (bs : Int) (tr : Nat) (tx : Nat → Nat) (to : Nat → Nat) (dr : Nat → Nat) (be : Nat → Nat) (s : Nat → Nat) (pa : Nat → Nat) (im : Nat → Nat) (ke : Nat → Nat) (no : Nat → Nat) (fa : Nat → Nat) (tr2 : Nat) (ty : Nat) (kn2 : Nat) (nd : Nat) (at2 : Nat) (so : Nat) (ss : Nat) (va : Int), REL L len nb1 w1 v1 w v n k (wh, de, t, sv, vt, ps) P q kn el fd m I kk tr tx to s pa im ke no tr2 ty kn2 nd → V C kc ks [gMoot G a (fun j => iM j 0) kD (rR 0) (bB 0) (cC 0) (pP 0) (fF 0) (nF kk) (nF ts) (sF bt) (sF sp) (nF qu) (iI bs) (lN tr), gRead G rR (gg 0) (hh 0) (nF L) (nF Nn) (nI len) (nI sk) (nI att) (nI ts1) (nI tk) (nI nb1), gRoll G gg (nF w1) (nF v1) (nI n1) (nI k1), gMo G hh (nF h1) (nF d1) t1 (nI s1) (nI u1) (nI p1), gRoll G bB (nF w) (nF v) (nI n) (nI k), gMo G cC (nF wh) (nF de) t (nI sv) (nI vt) (nI ps), gPast G pP (fun j => aM j 0) (nI q) (nI kn), gMoT G (aM 0) (P 0), gMoT G (aM 1) (P 1), gMoT G (aM 2) (P 2), gMoT G (aM 3) (P 3), gMoT G (aM 4) (P 4), gMoT G (aM 5) (P 5), gMoT G (aM 6) (P 6), gMoT G (aM 7) (P 7), gMoT G (aM 8) (P 8), gMoT G (aM 9) (P 9), gFind G fF (nF el) (nF fd) (nI m), gMoT G (iM 0) (I 0), gMoT G (iM 1) (I 1), gObj (kD 0) 4, gObj (kD 1) 0, gObj (kD 2) 2, gObj (kD 3) 8, gObj (kD 4) 10, gObj (kD 5) 9, gMod G zZ (nF tx) (nF to) (nF dr) (nF be) (nF s) (nF pa) (nF im) (nF ke) (nF no) (nF fa) (lN tr2) (nI ty) (nI kn2) (nI nd) (nI at2) (nI so) (nI ss) (iI va)] 784 [some (.ref sb), some (.ref (a 0)), some (.ref (zZ 0)), some (.int (nI i))] [] := by
      intro L Nn len sk att ts1 tk nb1 w1 v1 n1 k1 h1 d1 t1 s1 u1 p1 w v n k wh de t sv vt ps P q kn el fd m I kk ts bt sp qu bs tr tx to dr be s pa im ke no fa tr2 ty kn2 nd at2 so ss va R
      refine V_iincN (c := 5) X dL_law_784 rfl (by decide) rfl ?_
      refine V_goto X 18 dL_law_787 (by decide) ?_
      exact ih (i + 5) L Nn len sk att ts1 tk nb1 w1 v1 n1 k1 h1 d1 t1 s1 u1 p1 w v n k wh de t sv vt ps P q kn el fd m I kk ts bt sp qu bs tr tx to dr be s pa im ke no fa tr2 ty kn2 nd at2 so ss va R (by omega) (by omega)
    refine V_aload_n X dL_law_26 rfl ?_
    refine V_iload_n X dL_law_27 rfl ?_
    refine V_sld X S (j := i) rfl (by omega) (by omega) rfl dL_law_28 ?_
    refine V_bipush X (nI 31) dL_law_29 (by decide) ?_
    refine V_iand X dL_law_31 ?_
    obtain ⟨j, hj, ej⟩ := and31 (xs i)
    refine V_topi ej ?_
    clear ej ih hf
    rcases (show j = 0 ∨ j = 1 ∨ j = 2 ∨ j = 3 ∨ j = 4 ∨ j = 5 ∨ j = 6 ∨ j = 7 ∨ j = 8 ∨ j = 9 ∨ j = 10 ∨ j = 11 ∨ j = 12 ∨ j = 13 ∨ j = 14 ∨ j = 15 ∨ j = 16 ∨ j = 17 ∨ j = 18 ∨ j = 19 ∨ j = 20 ∨ j = 21 ∨ j = 22 ∨ j = 23 ∨ j = 24 ∨ 25 ≤ j by omega) with rfl | rfl | rfl | rfl | rfl | rfl | rfl | rfl | rfl | rfl | rfl | rfl | rfl | rfl | rfl | rfl | rfl | rfl | rfl | rfl | rfl | rfl | rfl | rfl | rfl | hj2
    · refine V_tableInI (i := (0 : Int)) (off := 116) X 148 dL_law_32 0 (nI_toInt (by decide)) rfl (by decide) (by decide) (by decide) ?_
      exact lc_0 X hcs S a iM kD rR gg hh bB cC pP aM fF zZ i hi5 hK L Nn len sk att ts1 tk nb1 w1 v1 n1 k1 h1 d1 t1 s1 u1 p1 w v n k wh de t sv vt ps P q kn el fd m I kk ts bt sp qu bs tr tx to dr be s pa im ke no fa tr2 ty kn2 nd at2 so ss va R
    · refine V_tableInI (i := (1 : Int)) (off := 139) X 171 dL_law_32 1 (nI_toInt (by decide)) rfl (by decide) (by decide) (by decide) ?_
      exact lc_1 X hcs S a iM kD rR gg hh bB cC pP aM fF zZ i hi5 hK L Nn len sk att ts1 tk nb1 w1 v1 n1 k1 h1 d1 t1 s1 u1 p1 w v n k wh de t sv vt ps P q kn el fd m I kk ts bt sp qu bs tr tx to dr be s pa im ke no fa tr2 ty kn2 nd at2 so ss va R
    · refine V_tableInI (i := (2 : Int)) (off := 152) X 184 dL_law_32 2 (nI_toInt (by decide)) rfl (by decide) (by decide) (by decide) ?_
      exact lc_2 X hcs S a iM kD rR gg hh bB cC pP aM fF zZ i hi5 hK L Nn len sk att ts1 tk nb1 w1 v1 n1 k1 h1 d1 t1 s1 u1 p1 w v n k wh de t sv vt ps P q kn el fd m I kk ts bt sp qu bs tr tx to dr be s pa im ke no fa tr2 ty kn2 nd at2 so ss va R
    · refine V_tableInI (i := (3 : Int)) (off := 165) X 197 dL_law_32 3 (nI_toInt (by decide)) rfl (by decide) (by decide) (by decide) ?_
      exact lc_3 X hcs S a iM kD rR gg hh bB cC pP aM fF zZ i hi5 hK L Nn len sk att ts1 tk nb1 w1 v1 n1 k1 h1 d1 t1 s1 u1 p1 w v n k wh de t sv vt ps P q kn el fd m I kk ts bt sp qu bs tr tx to dr be s pa im ke no fa tr2 ty kn2 nd at2 so ss va R
    · refine V_tableInI (i := (4 : Int)) (off := 198) X 230 dL_law_32 4 (nI_toInt (by decide)) rfl (by decide) (by decide) (by decide) ?_
      exact lc_4 X hcs S a iM kD rR gg hh bB cC pP aM fF zZ i hi5 hK L Nn len sk att ts1 tk nb1 w1 v1 n1 k1 h1 d1 t1 s1 u1 p1 w v n k wh de t sv vt ps P q kn el fd m I kk ts bt sp qu bs tr tx to dr be s pa im ke no fa tr2 ty kn2 nd at2 so ss va R
    · refine V_tableInI (i := (5 : Int)) (off := 231) X 263 dL_law_32 5 (nI_toInt (by decide)) rfl (by decide) (by decide) (by decide) ?_
      exact lc_5 X hcs S a iM kD rR gg hh bB cC pP aM fF zZ i hi5 hK L Nn len sk att ts1 tk nb1 w1 v1 n1 k1 h1 d1 t1 s1 u1 p1 w v n k wh de t sv vt ps P q kn el fd m I kk ts bt sp qu bs tr tx to dr be s pa im ke no fa tr2 ty kn2 nd at2 so ss va R
    · refine V_tableInI (i := (6 : Int)) (off := 254) X 286 dL_law_32 6 (nI_toInt (by decide)) rfl (by decide) (by decide) (by decide) ?_
      exact lc_6 X hcs S a iM kD rR gg hh bB cC pP aM fF zZ i hi5 hK L Nn len sk att ts1 tk nb1 w1 v1 n1 k1 h1 d1 t1 s1 u1 p1 w v n k wh de t sv vt ps P q kn el fd m I kk ts bt sp qu bs tr tx to dr be s pa im ke no fa tr2 ty kn2 nd at2 so ss va R
    · refine V_tableInI (i := (7 : Int)) (off := 287) X 319 dL_law_32 7 (nI_toInt (by decide)) rfl (by decide) (by decide) (by decide) ?_
      exact lc_7 X hcs S a iM kD rR gg hh bB cC pP aM fF zZ i hi5 hK L Nn len sk att ts1 tk nb1 w1 v1 n1 k1 h1 d1 t1 s1 u1 p1 w v n k wh de t sv vt ps P q kn el fd m I kk ts bt sp qu bs tr tx to dr be s pa im ke no fa tr2 ty kn2 nd at2 so ss va R
    · refine V_tableInI (i := (8 : Int)) (off := 320) X 352 dL_law_32 8 (nI_toInt (by decide)) rfl (by decide) (by decide) (by decide) ?_
      exact lc_8 X hcs S a iM kD rR gg hh bB cC pP aM fF zZ i hi5 hK L Nn len sk att ts1 tk nb1 w1 v1 n1 k1 h1 d1 t1 s1 u1 p1 w v n k wh de t sv vt ps P q kn el fd m I kk ts bt sp qu bs tr tx to dr be s pa im ke no fa tr2 ty kn2 nd at2 so ss va R
    · refine V_tableInI (i := (9 : Int)) (off := 333) X 365 dL_law_32 9 (nI_toInt (by decide)) rfl (by decide) (by decide) (by decide) ?_
      exact lc_9 X hcs S a iM kD rR gg hh bB cC pP aM fF zZ i hi5 hK L Nn len sk att ts1 tk nb1 w1 v1 n1 k1 h1 d1 t1 s1 u1 p1 w v n k wh de t sv vt ps P q kn el fd m I kk ts bt sp qu bs tr tx to dr be s pa im ke no fa tr2 ty kn2 nd at2 so ss va R
    · refine V_tableInI (i := (10 : Int)) (off := 366) X 398 dL_law_32 10 (nI_toInt (by decide)) rfl (by decide) (by decide) (by decide) ?_
      exact lc_10 X hcs S a iM kD rR gg hh bB cC pP aM fF zZ i hi5 hK L Nn len sk att ts1 tk nb1 w1 v1 n1 k1 h1 d1 t1 s1 u1 p1 w v n k wh de t sv vt ps P q kn el fd m I kk ts bt sp qu bs tr tx to dr be s pa im ke no fa tr2 ty kn2 nd at2 so ss va R
    · refine V_tableInI (i := (11 : Int)) (off := 389) X 421 dL_law_32 11 (nI_toInt (by decide)) rfl (by decide) (by decide) (by decide) ?_
      exact lc_11 X hcs S a iM kD rR gg hh bB cC pP aM fF zZ i hi5 hK L Nn len sk att ts1 tk nb1 w1 v1 n1 k1 h1 d1 t1 s1 u1 p1 w v n k wh de t sv vt ps P q kn el fd m I kk ts bt sp qu bs tr tx to dr be s pa im ke no fa tr2 ty kn2 nd at2 so ss va R
    · refine V_tableInI (i := (12 : Int)) (off := 402) X 434 dL_law_32 12 (nI_toInt (by decide)) rfl (by decide) (by decide) (by decide) ?_
      exact lc_12 X hcs S a iM kD rR gg hh bB cC pP aM fF zZ i hi5 hK L Nn len sk att ts1 tk nb1 w1 v1 n1 k1 h1 d1 t1 s1 u1 p1 w v n k wh de t sv vt ps P q kn el fd m I kk ts bt sp qu bs tr tx to dr be s pa im ke no fa tr2 ty kn2 nd at2 so ss va R
    · refine V_tableInI (i := (13 : Int)) (off := 435) X 467 dL_law_32 13 (nI_toInt (by decide)) rfl (by decide) (by decide) (by decide) ?_
      exact lc_13 X hcs S a iM kD rR gg hh bB cC pP aM fF zZ i hi5 hK L Nn len sk att ts1 tk nb1 w1 v1 n1 k1 h1 d1 t1 s1 u1 p1 w v n k wh de t sv vt ps P q kn el fd m I kk ts bt sp qu bs tr tx to dr be s pa im ke no fa tr2 ty kn2 nd at2 so ss va R
    · refine V_tableInI (i := (14 : Int)) (off := 468) X 500 dL_law_32 14 (nI_toInt (by decide)) rfl (by decide) (by decide) (by decide) ?_
      exact lc_14 X hcs S a iM kD rR gg hh bB cC pP aM fF zZ i hi5 hK L Nn len sk att ts1 tk nb1 w1 v1 n1 k1 h1 d1 t1 s1 u1 p1 w v n k wh de t sv vt ps P q kn el fd m I kk ts bt sp qu bs tr tx to dr be s pa im ke no fa tr2 ty kn2 nd at2 so ss va R
    · refine V_tableInI (i := (15 : Int)) (off := 501) X 533 dL_law_32 15 (nI_toInt (by decide)) rfl (by decide) (by decide) (by decide) ?_
      exact lc_15 X hcs S a iM kD rR gg hh bB cC pP aM fF zZ i hi5 hK L Nn len sk att ts1 tk nb1 w1 v1 n1 k1 h1 d1 t1 s1 u1 p1 w v n k wh de t sv vt ps P q kn el fd m I kk ts bt sp qu bs tr tx to dr be s pa im ke no fa tr2 ty kn2 nd at2 so ss va R
    · refine V_tableInI (i := (16 : Int)) (off := 554) X 586 dL_law_32 16 (nI_toInt (by decide)) rfl (by decide) (by decide) (by decide) ?_
      exact lc_16 X hcs S a iM kD rR gg hh bB cC pP aM fF zZ i hi5 hK L Nn len sk att ts1 tk nb1 w1 v1 n1 k1 h1 d1 t1 s1 u1 p1 w v n k wh de t sv vt ps P q kn el fd m I kk ts bt sp qu bs tr tx to dr be s pa im ke no fa tr2 ty kn2 nd at2 so ss va R
    · refine V_tableInI (i := (17 : Int)) (off := 587) X 619 dL_law_32 17 (nI_toInt (by decide)) rfl (by decide) (by decide) (by decide) ?_
      exact lc_17 X hcs S a iM kD rR gg hh bB cC pP aM fF zZ i hi5 hK L Nn len sk att ts1 tk nb1 w1 v1 n1 k1 h1 d1 t1 s1 u1 p1 w v n k wh de t sv vt ps P q kn el fd m I kk ts bt sp qu bs tr tx to dr be s pa im ke no fa tr2 ty kn2 nd at2 so ss va R
    · refine V_tableInI (i := (18 : Int)) (off := 600) X 632 dL_law_32 18 (nI_toInt (by decide)) rfl (by decide) (by decide) (by decide) ?_
      exact lc_18 X hcs S a iM kD rR gg hh bB cC pP aM fF zZ i hi5 hK L Nn len sk att ts1 tk nb1 w1 v1 n1 k1 h1 d1 t1 s1 u1 p1 w v n k wh de t sv vt ps P q kn el fd m I kk ts bt sp qu bs tr tx to dr be s pa im ke no fa tr2 ty kn2 nd at2 so ss va R
    · refine V_tableInI (i := (19 : Int)) (off := 623) X 655 dL_law_32 19 (nI_toInt (by decide)) rfl (by decide) (by decide) (by decide) ?_
      exact lc_19 X hcs S a iM kD rR gg hh bB cC pP aM fF zZ i hi5 hK L Nn len sk att ts1 tk nb1 w1 v1 n1 k1 h1 d1 t1 s1 u1 p1 w v n k wh de t sv vt ps P q kn el fd m I kk ts bt sp qu bs tr tx to dr be s pa im ke no fa tr2 ty kn2 nd at2 so ss va R
    · refine V_tableInI (i := (20 : Int)) (off := 636) X 668 dL_law_32 20 (nI_toInt (by decide)) rfl (by decide) (by decide) (by decide) ?_
      exact lc_20 X hcs S a iM kD rR gg hh bB cC pP aM fF zZ i hi5 hK L Nn len sk att ts1 tk nb1 w1 v1 n1 k1 h1 d1 t1 s1 u1 p1 w v n k wh de t sv vt ps P q kn el fd m I kk ts bt sp qu bs tr tx to dr be s pa im ke no fa tr2 ty kn2 nd at2 so ss va R
    · refine V_tableInI (i := (21 : Int)) (off := 669) X 701 dL_law_32 21 (nI_toInt (by decide)) rfl (by decide) (by decide) (by decide) ?_
      exact lc_21 X hcs S a iM kD rR gg hh bB cC pP aM fF zZ i hi5 hK L Nn len sk att ts1 tk nb1 w1 v1 n1 k1 h1 d1 t1 s1 u1 p1 w v n k wh de t sv vt ps P q kn el fd m I kk ts bt sp qu bs tr tx to dr be s pa im ke no fa tr2 ty kn2 nd at2 so ss va R
    · refine V_tableInI (i := (22 : Int)) (off := 692) X 724 dL_law_32 22 (nI_toInt (by decide)) rfl (by decide) (by decide) (by decide) ?_
      exact lc_22 X hcs S a iM kD rR gg hh bB cC pP aM fF zZ i hi5 hK L Nn len sk att ts1 tk nb1 w1 v1 n1 k1 h1 d1 t1 s1 u1 p1 w v n k wh de t sv vt ps P q kn el fd m I kk ts bt sp qu bs tr tx to dr be s pa im ke no fa tr2 ty kn2 nd at2 so ss va R
    · refine V_tableInI (i := (23 : Int)) (off := 715) X 747 dL_law_32 23 (nI_toInt (by decide)) rfl (by decide) (by decide) (by decide) ?_
      exact lc_23 X hcs S a iM kD rR gg hh bB cC pP aM fF zZ i hi5 hK L Nn len sk att ts1 tk nb1 w1 v1 n1 k1 h1 d1 t1 s1 u1 p1 w v n k wh de t sv vt ps P q kn el fd m I kk ts bt sp qu bs tr tx to dr be s pa im ke no fa tr2 ty kn2 nd at2 so ss va R
    · refine V_tableInI (i := (24 : Int)) (off := 738) X 770 dL_law_32 24 (nI_toInt (by decide)) rfl (by decide) (by decide) (by decide) ?_
      exact lc_24 X hcs S a iM kD rR gg hh bB cC pP aM fF zZ i hi5 hK L Nn len sk att ts1 tk nb1 w1 v1 n1 k1 h1 d1 t1 s1 u1 p1 w v n k wh de t sv vt ps P q kn el fd m I kk ts bt sp qu bs tr tx to dr be s pa im ke no fa tr2 ty kn2 nd at2 so ss va R
    · refine V_tableOutI (i := (j : Int)) X 784 dL_law_32 (nI_toInt (by omega)) (by omega) (by decide) ?_
      exact hK L Nn len sk att ts1 tk nb1 w1 v1 n1 k1 h1 d1 t1 s1 u1 p1 w v n k wh de t sv vt ps P q kn el fd m I kk ts bt sp qu bs tr tx to dr be s pa im ke no fa tr2 ty kn2 nd at2 so ss va R
set_option maxHeartbeats 4000000 in
set_option maxRecDepth 100000 in
theorem law_body {C : Cx} {G : mvG} (X : OK C cL_law RL 4 room_1 G) (Z : mvAO (Cs C)) {sb Ls : Nat} {xs : Nat → Int32} (S : SC C sb Ls xs) (hLs : Ls ≤ 320) (hE : ∀ gs lv, V C 95 2262 gs 791 lv [.int (nI 1)]) : V C 0 0 [] 0 [some (.ref sb), none, none, none] [] := by
  refine V_new (ci := 11) (fs := [.null, .null, .null, .null, .null, .null, .null, .null, .null, .null, .int (nI 0), .null, .null, .long (lN 0)]) tyX11 X rfl inX11 tyX11_ok (fun j hj => by rcases (show j = 0 ∨ j = 1 ∨ j = 2 ∨ j = 3 ∨ j = 4 ∨ j = 5 ∨ j = 6 ∨ j = 7 ∨ j = 8 ∨ j = 9 ∨ j = 10 ∨ j = 11 ∨ j = 12 ∨ j = 13 by omega) with rfl | rfl | rfl | rfl | rfl | rfl | rfl | rfl | rfl | rfl | rfl | rfl | rfl | rfl <;> rfl) kw_1_17 kw_1_18 kw_1_1 dL_law_0 (Nat.le_of_ble_eq_true rfl) (Nat.le_of_ble_eq_true rfl) (fun q0 => ?_)
  show V C 1 14 [gOb q0 11 [.null, .null, .null, .null, .null, .null, .null, .null, .null, .null, .int (nI 0), .null, .null, .long (lN 0)]] 3 [some (.ref sb), none, none, none] [.ref q0]
  refine V_dup X dL_law_3 rfl ?_
  refine V_callI (i := 0) (rm := { frames := 4, cells := 83, slots := 1442, locals := 84 }) X Z (c_X11_init (Cl C) G q0) mi_X11_init (Or.inl kw_1_19) rfl kw_1_20 dL_law_4 rfl ⟨Nat.le_of_ble_eq_true rfl, Nat.le_of_ble_eq_true rfl⟩ ⟨Nat.le_of_ble_eq_true rfl, Nat.le_of_ble_eq_true rfl⟩ (Nat.le_of_ble_eq_true rfl) (fun u hu => ?_)
  obtain ⟨a, iM, kD, rR, gg, hh, bB, cC, pP, aM, fF⟩ := u
  have hu : a 0 = q0 := hu
  subst hu
  show V C 84 1456 [[], gMoot G a (fun j => iM j 0) kD (rR 0) (bB 0) (cC 0) (pP 0) (fF 0) (nF (fun _ => 0)) (nF (fun _ => 0)) (nF (fun _ => 0)) (nF (fun _ => 0)) (nF (fun _ => 0)) (nI 0) (lN 0), gRead G rR (gg 0) (hh 0) (nF (fun _ => 0)) (nF (fun _ => 0)) (nI 0) (nI 0) (nI 0) (nI 0) (nI 0) (nI 0), gRoll G gg (nF (fun _ => 0)) (nF (fun _ => 0)) (nI 0) (nI 1), gMoT G hh M00, gRoll G bB (nF (fun _ => 0)) (nF (fun _ => 0)) (nI 0) (nI 1), gMoT G cC M00, gPast G pP (fun j => aM j 0) (nI 0) (nI 0), gMoT G (aM 0) M00, gMoT G (aM 1) M00, gMoT G (aM 2) M00, gMoT G (aM 3) M00, gMoT G (aM 4) M00, gMoT G (aM 5) M00, gMoT G (aM 6) M00, gMoT G (aM 7) M00, gMoT G (aM 8) M00, gMoT G (aM 9) M00, gFind G fF (nF (fun _ => 0)) (nF (fun _ => 0)) (nI 0), gMoT G (iM 0) M00, gMoT G (iM 1) M00, gObj (kD 0) 4, gObj (kD 1) 0, gObj (kD 2) 2, gObj (kD 3) 8, gObj (kD 4) 10, gObj (kD 5) 9] 7 [some (.ref sb), none, none, none] [.ref (a 0)]
  refine V_astore_n X dL_law_7 (by decide) rfl ?_
  refine V_new (ci := 12) (fs := [.long (lN 0), .null, .int (nI 0), .null, .null, .null, .null, .null, .int (nI 0), .null, .null, .null, .int (nI 0), .int (nI 0), .int (nI 0), .int (nI 0), .int (nI 0), .null]) tyX12 X rfl inX12 tyX12_ok (fun j hj => by rcases (show j = 0 ∨ j = 1 ∨ j = 2 ∨ j = 3 ∨ j = 4 ∨ j = 5 ∨ j = 6 ∨ j = 7 ∨ j = 8 ∨ j = 9 ∨ j = 10 ∨ j = 11 ∨ j = 12 ∨ j = 13 ∨ j = 14 ∨ j = 15 ∨ j = 16 ∨ j = 17 by omega) with rfl | rfl | rfl | rfl | rfl | rfl | rfl | rfl | rfl | rfl | rfl | rfl | rfl | rfl | rfl | rfl | rfl | rfl <;> rfl) kw_3_211 kw_3_212 kw_1_14 dL_law_8 (Nat.le_of_ble_eq_true rfl) (Nat.le_of_ble_eq_true rfl) (fun q8 => ?_)
  show V C 85 1474 [[], gMoot G a (fun j => iM j 0) kD (rR 0) (bB 0) (cC 0) (pP 0) (fF 0) (nF (fun _ => 0)) (nF (fun _ => 0)) (nF (fun _ => 0)) (nF (fun _ => 0)) (nF (fun _ => 0)) (nI 0) (lN 0), gRead G rR (gg 0) (hh 0) (nF (fun _ => 0)) (nF (fun _ => 0)) (nI 0) (nI 0) (nI 0) (nI 0) (nI 0) (nI 0), gRoll G gg (nF (fun _ => 0)) (nF (fun _ => 0)) (nI 0) (nI 1), gMoT G hh M00, gRoll G bB (nF (fun _ => 0)) (nF (fun _ => 0)) (nI 0) (nI 1), gMoT G cC M00, gPast G pP (fun j => aM j 0) (nI 0) (nI 0), gMoT G (aM 0) M00, gMoT G (aM 1) M00, gMoT G (aM 2) M00, gMoT G (aM 3) M00, gMoT G (aM 4) M00, gMoT G (aM 5) M00, gMoT G (aM 6) M00, gMoT G (aM 7) M00, gMoT G (aM 8) M00, gMoT G (aM 9) M00, gFind G fF (nF (fun _ => 0)) (nF (fun _ => 0)) (nI 0), gMoT G (iM 0) M00, gMoT G (iM 1) M00, gObj (kD 0) 4, gObj (kD 1) 0, gObj (kD 2) 2, gObj (kD 3) 8, gObj (kD 4) 10, gObj (kD 5) 9, gOb q8 12 [.long (lN 0), .null, .int (nI 0), .null, .null, .null, .null, .null, .int (nI 0), .null, .null, .null, .int (nI 0), .int (nI 0), .int (nI 0), .int (nI 0), .int (nI 0), .null]] 11 [some (.ref sb), some (.ref (a 0)), none, none] [.ref q8]
  refine V_dup X dL_law_11 rfl ?_
  refine V_callI (i := 27) (rm := { frames := 6, cells := 10, slots := 788, locals := 129 }) X Z (c_X12_init (Cl C) G q8) mi_X12_init (Or.inl kw_3_213) rfl kw_3_214 dL_law_12 rfl ⟨Nat.le_of_ble_eq_true rfl, Nat.le_of_ble_eq_true rfl⟩ ⟨Nat.le_of_ble_eq_true rfl, Nat.le_of_ble_eq_true rfl⟩ (Nat.le_of_ble_eq_true rfl) (fun u hu => ?_)
  obtain ⟨zZ, D, B, p, q, o, y, K⟩ := u
  obtain ⟨hu, hp, hk0, hk1⟩ := hu
  have hu : zZ 0 = q8 := hu
  subst hu
  show V C 95 2262 [[], gMoot G a (fun j => iM j 0) kD (rR 0) (bB 0) (cC 0) (pP 0) (fF 0) (nF (fun _ => 0)) (nF (fun _ => 0)) (nF (fun _ => 0)) (nF (fun _ => 0)) (nF (fun _ => 0)) (nI 0) (lN 0), gRead G rR (gg 0) (hh 0) (nF (fun _ => 0)) (nF (fun _ => 0)) (nI 0) (nI 0) (nI 0) (nI 0) (nI 0) (nI 0), gRoll G gg (nF (fun _ => 0)) (nF (fun _ => 0)) (nI 0) (nI 1), gMoT G hh M00, gRoll G bB (nF (fun _ => 0)) (nF (fun _ => 0)) (nI 0) (nI 1), gMoT G cC M00, gPast G pP (fun j => aM j 0) (nI 0) (nI 0), gMoT G (aM 0) M00, gMoT G (aM 1) M00, gMoT G (aM 2) M00, gMoT G (aM 3) M00, gMoT G (aM 4) M00, gMoT G (aM 5) M00, gMoT G (aM 6) M00, gMoT G (aM 7) M00, gMoT G (aM 8) M00, gMoT G (aM 9) M00, gFind G fF (nF (fun _ => 0)) (nF (fun _ => 0)) (nI 0), gMoT G (iM 0) M00, gMoT G (iM 1) M00, gObj (kD 0) 4, gObj (kD 1) 0, gObj (kD 2) 2, gObj (kD 3) 8, gObj (kD 4) 10, gObj (kD 5) 9, [], gMod G zZ (nF (fun _ => 0)) (nF D) (nF D) (nF B) (nF B) (nF (fun _ => 0)) (nF (fun _ => 0)) (nF K) (nF (fun _ => 0)) (nF (fun _ => 0)) (lN 0) (nI 0) (nI 0) (nI 0) (nI p) (nI o) (nI q) (iI y)] 15 [some (.ref sb), some (.ref (a 0)), none, none] [.ref (zZ 0)]
  refine V_sel (gs' := [gMoot G a (fun j => iM j 0) kD (rR 0) (bB 0) (cC 0) (pP 0) (fF 0) (nF (fun _ => 0)) (nF (fun _ => 0)) (nF (fun _ => 0)) (nF (fun _ => 0)) (nF (fun _ => 0)) (nI 0) (lN 0), gRead G rR (gg 0) (hh 0) (nF (fun _ => 0)) (nF (fun _ => 0)) (nI 0) (nI 0) (nI 0) (nI 0) (nI 0) (nI 0), gRoll G gg (nF (fun _ => 0)) (nF (fun _ => 0)) (nI 0) (nI 1), gMoT G hh M00, gRoll G bB (nF (fun _ => 0)) (nF (fun _ => 0)) (nI 0) (nI 1), gMoT G cC M00, gPast G pP (fun j => aM j 0) (nI 0) (nI 0), gMoT G (aM 0) M00, gMoT G (aM 1) M00, gMoT G (aM 2) M00, gMoT G (aM 3) M00, gMoT G (aM 4) M00, gMoT G (aM 5) M00, gMoT G (aM 6) M00, gMoT G (aM 7) M00, gMoT G (aM 8) M00, gMoT G (aM 9) M00, gFind G fF (nF (fun _ => 0)) (nF (fun _ => 0)) (nI 0), gMoT G (iM 0) M00, gMoT G (iM 1) M00, gObj (kD 0) 4, gObj (kD 1) 0, gObj (kD 2) 2, gObj (kD 3) 8, gObj (kD 4) 10, gObj (kD 5) 9, gMod G zZ (nF (fun _ => 0)) (nF D) (nF D) (nF B) (nF B) (nF (fun _ => 0)) (nF (fun _ => 0)) (nF K) (nF (fun _ => 0)) (nF (fun _ => 0)) (lN 0) (nI 0) (nI 0) (nI 0) (nI p) (nI o) (nI q) (iI y)]) [1, 2, 3, 4, 5, 6, 7, 8, 9, 10, 11, 12, 13, 14, 15, 16, 17, 18, 19, 20, 21, 22, 23, 24, 25, 26, 28] rfl (by decide) ?_
  refine V_astore_n X dL_law_15 (by decide) rfl ?_
  refine V_iconst X (nI 0) dL_law_16 (by decide) ?_
  refine V_istore_n X dL_law_17 (by decide) rfl ?_
  have hb : PB (fun _ => 0, fun _ => 0, 0, 1, 0, fun _ => 0, fun _ => 0) := PB_0 (fun _ => by omega)
  exact law_head X ⟨Nat.le_of_ble_eq_true rfl, Nat.le_of_ble_eq_true rfl⟩ S a iM kD rR gg hh bB cC pP aM fF zZ hLs hE 331 0 (fun _ => 0) (fun _ => 0) 0 0 0 0 0 0 (fun _ => 0) (fun _ => 0) 0 1 (fun _ => 0) (fun _ => 0) (fun _ => -9) 0 0 0 (fun _ => 0) (fun _ => 0) 0 1 (fun _ => 0) (fun _ => 0) (fun _ => -9) 0 0 0 (fun _ => M00) 0 0 (fun _ => 0) (fun _ => 0) 0 (fun _ => M00) (fun _ => 0) (fun _ => 0) (fun _ => 0) (fun _ => 0) (fun _ => 0) 0 0 (fun _ => 0) D D B B (fun _ => 0) (fun _ => 0) K (fun _ => 0) (fun _ => 0) 0 0 0 0 p o q y ⟨⟨rfl, rfl, by omega, fun _ => (show 0 < 256 by decide), by omega, fun _ => ⟨Nat.zero_le _, Nat.zero_le _⟩⟩, RW_told hp hb, RM_told hp hb, ⟨rfl, by omega, by omega, fun i hi => absurd hi (Nat.not_lt_zero i)⟩, ⟨rfl, by omega, fun j hj => absurd hj (Nat.not_lt_zero j)⟩, ⟨fun _ => Nat.zero_le _, ⟨hk0.symm, hk1.symm⟩, fun x _ hx => absurd rfl hx⟩, rfl⟩ (by omega) (by omega)
