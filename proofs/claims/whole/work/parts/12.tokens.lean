def dgt (c : Nat) : Prop := 48 ≤ c ∧ c ≤ 57
def isL (c : Nat) : Prop := c = 112 ∨ c = 115 ∨ c = 102 ∨ c = 59
/-- behind blanks -/
def skp (T : Nat → Nat) (len : Nat) : Nat → Nat → Nat
  | 0, p => p
  | f + 1, p => if p < len ∧ T p = 32 then skp T len f (p + 1) else p
def skq (T : Nat → Nat) (len p : Nat) : Nat := skp T len (len - p) p
theorem skq_step {T : Nat → Nat} {len p : Nat} (h : p < len) (h2 : T p = 32) : skq T len p = skq T len (p + 1) := by
  unfold skq
  rw [show len - p = (len - (p + 1)) + 1 by omega]
  simp only [skp, if_pos (And.intro h h2)]
theorem skq_end {T : Nat → Nat} {len p : Nat} (h : len ≤ p ∨ ¬ T p = 32) : skq T len p = p := by
  unfold skq
  cases e : len - p with
  | zero => rfl
  | succ f => simp only [skp]; rw [if_neg (by omega)]
/-- behind digits -/
def dgp (T : Nat → Nat) (len : Nat) : Nat → Nat → Nat
  | 0, p => p
  | f + 1, p => if p < len ∧ 48 ≤ T p ∧ T p ≤ 57 then dgp T len f (p + 1) else p
def dgq (T : Nat → Nat) (len p : Nat) : Nat := dgp T len (len - p) p
theorem dgq_step {T : Nat → Nat} {len p : Nat} (h : p < len) (h2 : 48 ≤ T p ∧ T p ≤ 57) : dgq T len p = dgq T len (p + 1) := by
  unfold dgq
  rw [show len - p = (len - (p + 1)) + 1 by omega]
  simp only [dgp, if_pos (And.intro h h2)]
theorem dgq_end {T : Nat → Nat} {len p : Nat} (h : len ≤ p ∨ T p < 48 ∨ 57 < T p) : dgq T len p = p := by
  unfold dgq
  cases e : len - p with
  | zero => rfl
  | succ f => simp only [dgp]; rw [if_neg (by omega)]
/-- the token from a place on: where it begins, where it ends, its kind (0 the end; 1 a digit alone; 2 no token that may stand anywhere; the letter), its value -/
def tokf (T : Nat → Nat) (len p : Nat) : Nat × Nat × Nat × Nat :=
  if len ≤ skq T len p then (skq T len p, skq T len p, 0, 0)
  else if 48 ≤ T (skq T len p) ∧ T (skq T len p) ≤ 57 then
    (if dgq T len (skq T len p) = skq T len p + 1 then (skq T len p, skq T len p + 1, 1, T (skq T len p) - 48) else (skq T len p, dgq T len (skq T len p), 2, 0))
  else if T (skq T len p) = 112 ∨ T (skq T len p) = 115 ∨ T (skq T len p) = 102 ∨ T (skq T len p) = 59 then (skq T len p, skq T len p + 1, T (skq T len p), 0)
  else (skq T len p, skq T len p + 1, 2, 0)
def clsC (kd va tk nb : Nat) : Prop := (kd = 0 ∧ tk = 3) ∨ (kd = 1 ∧ tk = 1 ∧ nb = va ∧ va ≤ 9) ∨ (kd = 2 ∧ (tk = 2 ∨ (tk = 1 ∧ 10 ≤ nb))) ∨ ((kd = 112 ∨ kd = 115 ∨ kd = 102 ∨ kd = 59) ∧ tk = kd)
theorem tok_post {T : Nat → Nat} {len p q at' tk nb : Nat} (hs : skq T len p = q) (h : (len ≤ q ∧ at' = q ∧ tk = 3) ∨ (q < len ∧ (48 ≤ T q ∧ T q ≤ 57) ∧ at' = dgq T len q ∧ ((at' = q + 1 ∧ tk = 1 ∧ nb = T q - 48) ∨ (at' ≠ q + 1 ∧ (tk = 2 ∨ (tk = 1 ∧ 10 ≤ nb))))) ∨ (q < len ∧ ¬ (48 ≤ T q ∧ T q ≤ 57) ∧ at' = q + 1 ∧ (((T q = 112 ∨ T q = 115 ∨ T q = 102 ∨ T q = 59) ∧ tk = T q) ∨ (¬ (T q = 112 ∨ T q = 115 ∨ T q = 102 ∨ T q = 59) ∧ tk = 2)))) :
    tokf T len p = (q, at', (tokf T len p).2.2.1, (tokf T len p).2.2.2) ∧ clsC (tokf T len p).2.2.1 (tokf T len p).2.2.2 tk nb := by
  have e : tokf T len p = if len ≤ q then (q, q, 0, 0) else if 48 ≤ T q ∧ T q ≤ 57 then (if dgq T len q = q + 1 then (q, q + 1, 1, T q - 48) else (q, dgq T len q, 2, 0)) else if T q = 112 ∨ T q = 115 ∨ T q = 102 ∨ T q = 59 then (q, q + 1, T q, 0) else (q, q + 1, 2, 0) := by
    subst hs
    rfl
  rw [e]
  rcases h with ⟨h1, rfl, rfl⟩ | ⟨h1, h2, h3, h4⟩ | ⟨h1, h2, rfl, h4⟩
  · rw [if_pos h1]
    exact ⟨rfl, Or.inl ⟨rfl, rfl⟩⟩
  · rw [if_neg (by omega), if_pos h2]
    rcases h4 with ⟨h4, rfl, rfl⟩ | ⟨h4, h5⟩
    · rw [if_pos (by omega)]
      exact ⟨by rw [h4], Or.inr (Or.inl ⟨rfl, rfl, rfl, by show T q - 48 ≤ 9; omega⟩)⟩
    · rw [if_neg (by omega)]
      exact ⟨by rw [h3], Or.inr (Or.inr (Or.inl ⟨rfl, h5⟩))⟩
  · rw [if_neg (by omega), if_neg h2]
    rcases h4 with ⟨h4, rfl⟩ | ⟨h4, rfl⟩
    · rw [if_pos h4]
      exact ⟨rfl, Or.inr (Or.inr (Or.inr ⟨h4, rfl⟩))⟩
    · rw [if_neg h4]
      exact ⟨rfl, Or.inr (Or.inr (Or.inl ⟨rfl, Or.inl rfl⟩))⟩
set_option maxHeartbeats 4000000 in
set_option maxRecDepth 100000 in
theorem c_X6_letterAt (l : Launch) (G : mvG) (a : Nat → Nat) (ro : Nat) (fi : Nat) (L : Nat → Nat) (Nn : Nat → Nat) (len : Nat) (sk : Nat) (att : Nat) (ts : Nat) (tk : Nat) (nb : Nat) (i : Nat) (hlen : len ≤ 100) (hL : ∀ j, L j < 256) (hi : i < len) : KQ l yX6_letterAt cX6_letterAt 2 (some .char) (0, 0) G [.ref (a 0), .int (nI i)] [gRead G a ro fi (nF L) (nF Nn) (nI len) (nI sk) (nI att) (nI ts) (nI tk) (nI nb)] (fun (_ : Unit) => some (.int (nI (L i)))) (fun (_ : Unit) => True) (fun (_ : Unit) => [gRead G a ro fi (nF L) (nF Nn) (nI len) (nI sk) (nI att) (nI ts) (nI tk) (nI nb)]) := by
  refine KQ.mk (by decide +kernel) (fun _ _ => rfl) [some (.ref (a 0)), some (.int (nI i))] (Nat.le_of_ble_eq_true rfl) rfl (fun C X Y hC => ?_)
  subst hC
  refine V_iload_n X dX6_letterAt_0 rfl ?_
  refine V_if_ltN X dX6_letterAt_1 30 (by decide) (by omega) ?_
  refine V_iload_n X dX6_letterAt_4 rfl ?_
  refine V_aload_n X dX6_letterAt_5 rfl ?_
  refine V_get X fl_X6_33 0 0 rfl rfl rfl dX6_letterAt_6 ?_
  refine V_icmp_geN X 30 dX6_letterAt_9 (by decide) (by omega) (by omega) (fun c_2 => ?_) (fun c_2 => ?_)
  · exfalso; omega
  · refine V_iload_n X dX6_letterAt_12 rfl ?_
    refine V_aload_n X dX6_letterAt_13 rfl ?_
    refine V_get X fl_X6_9 0 0 rfl rfl rfl dX6_letterAt_14 ?_
    refine V_alen X (t0 := 2) 0 1 (nI 100) rfl rfl rfl rfl dX6_letterAt_17 ?_
    refine V_icmp_geN X 30 dX6_letterAt_18 (by decide) (by omega) (by decide) (fun c_3 => ?_) (fun c_3 => ?_)
    · exfalso; omega
    · refine V_aload_n X dX6_letterAt_21 rfl ?_
      refine V_get X fl_X6_9 0 0 rfl rfl rfl dX6_letterAt_22 ?_
      refine V_iload_n X dX6_letterAt_25 rfl ?_
      refine V_caldN X 0 1 rfl rfl (by omega) (by decide) dX6_letterAt_26 ?_
      have hli := hL i
      refine V_goto X 32 dX6_letterAt_27 (by decide) ?_
      exact V_iret X Y () trivial rfl (mv_nc (by omega)) rfl dX6_letterAt_32
set_option maxHeartbeats 4000000 in
set_option maxRecDepth 100000 in
theorem c_X6_isDigit (l : Launch) (G : mvG) (c : Nat) (hc : c < 65536) : KQ l yX6_isDigit cX6_isDigit 1 (some .boolean) (0, 0) G [.int (nI c)] [] (fun (zz : Nat) => some (.int (nI zz))) (fun (zz : Nat) => (zz = 1 ∧ 48 ≤ c ∧ c ≤ 57) ∨ (zz = 0 ∧ (c < 48 ∨ 57 < c))) (fun (zz : Nat) => []) := by
  refine KQ.mk (by decide +kernel) (fun _ _ => rfl) [some (.int (nI c))] (Nat.le_of_ble_eq_true rfl) rfl (fun C X Y hC => ?_)
  subst hC
  refine V_iload_n X dX6_isDigit_0 rfl ?_
  refine V_bipush X (nI 48) dX6_isDigit_1 (by decide) ?_
  refine V_icmp_ltN X 16 dX6_isDigit_3 (by decide) (by omega) (by decide) (fun c_1 => ?_) (fun c_1 => ?_)
  · refine V_iconst X (nI 0) dX6_isDigit_16 (by decide) ?_
    exact V_iret X Y 0 (by omega) rfl rfl rfl dX6_isDigit_17
  · refine V_iload_n X dX6_isDigit_6 rfl ?_
    refine V_bipush X (nI 57) dX6_isDigit_7 (by decide) ?_
    refine V_icmp_gtN X 16 dX6_isDigit_9 (by decide) (by omega) (by decide) (fun c_2 => ?_) (fun c_2 => ?_)
    · refine V_iconst X (nI 0) dX6_isDigit_16 (by decide) ?_
      exact V_iret X Y 0 (by omega) rfl rfl rfl dX6_isDigit_17
    · refine V_iconst X (nI 1) dX6_isDigit_12 (by decide) ?_
      refine V_goto X 17 dX6_isDigit_13 (by decide) ?_
      exact V_iret X Y 1 (by omega) rfl rfl rfl dX6_isDigit_17
set_option maxHeartbeats 4000000 in
set_option maxRecDepth 100000 in
theorem c_X6_nextNumber (l : Launch) (G : mvG) (a : Nat → Nat) (ro : Nat) (fi : Nat) (L : Nat → Nat) (Nn : Nat → Nat) (len : Nat) (sk : Nat) (att : Nat) (ts : Nat) (tk : Nat) (nb : Nat) (hlen : len ≤ 100) (hL : ∀ j, L j < 256) (hat : att = ts ∧ ts < len) (hd : 48 ≤ L ts ∧ L ts ≤ 57) : KQ l yX6_nextNumber cX6_nextNumber 2 none (1, 21) G [.ref (a 0)] [gRead G a ro fi (nF L) (nF Nn) (nI len) (nI sk) (nI att) (nI ts) (nI tk) (nI nb)] (fun (zz : Nat × Nat × Nat) => none) (fun (zz : Nat × Nat × Nat) => zz.1 = dgq L len ts ∧ ((zz.1 = ts + 1 ∧ zz.2.1 = 1 ∧ zz.2.2 = L ts - 48) ∨ (zz.1 ≠ ts + 1 ∧ (zz.2.1 = 2 ∨ (zz.2.1 = 1 ∧ 10 ≤ zz.2.2)))) ∧ zz.2.2 ≤ 100 ∧ zz.2.1 ≤ 2 ∧ zz.1 ≤ len ∧ ts < zz.1) (fun (zz : Nat × Nat × Nat) => [gRead G a ro fi (nF L) (nF Nn) (nI len) (nI sk) (nI zz.1) (nI ts) (nI zz.2.1) (nI zz.2.2)]) := by
  refine KQ.mk (by decide +kernel) (fun _ _ => rfl) [some (.ref (a 0)), none] (Nat.le_of_ble_eq_true rfl) rfl (fun C X Y hC => ?_)
  subst hC
  refine V_aload_n X dX6_nextNumber_0 rfl ?_
  refine V_iconst X (nI 0) dX6_nextNumber_1 (by decide) ?_
  refine V_put X fl_X6_95 0 0 rfl rfl rfl rfl (Nat.le_of_ble_eq_true rfl) dX6_nextNumber_2 ?_
  show V C 0 0 [gRead G a ro fi (nF L) (nF Nn) (nI len) (nI sk) (nI att) (nI ts) (nI tk) (nI 0)] 5 [some (.ref (a 0)), none] []
  have L_5 : ∀ (fz_5 : Nat) (p : Nat) (x : Nat) (hp : ts ≤ p ∧ p ≤ len) (hq : dgq L len ts = dgq L len p) (hx : x ≤ 100 ∧ ((p = ts ∧ x = 0) ∨ (p = ts + 1 ∧ x = L ts - 48) ∨ (ts + 2 ≤ p ∧ (L ts = 48 ∨ 10 ≤ x)))), (len - p) < fz_5 → V C 0 0 [gRead G a ro fi (nF L) (nF Nn) (nI len) (nI sk) (nI p) (nI ts) (nI tk) (nI x)] 5 [some (.ref (a 0)), none] [] := by
    intro fz_5
    induction fz_5 with
    | zero => intro p x hp hq hx hf_5; exact absurd hf_5 (Nat.not_lt_zero _)
    | succ fz_5 ih_5 =>
      intro p x hp hq hx hf_5
      refine V_aload_n X dX6_nextNumber_5 rfl ?_
      refine V_get X fl_X6_45 0 0 rfl rfl rfl dX6_nextNumber_6 ?_
      refine V_aload_n X dX6_nextNumber_9 rfl ?_
      refine V_get X fl_X6_33 0 0 rfl rfl rfl dX6_nextNumber_10 ?_
      refine V_icmp_geN X 71 dX6_nextNumber_13 (by decide) (by omega) (by omega) (fun c_1 => ?_) (fun c_1 => ?_)
      · have hpe : dgq L len p = p := dgq_end (by omega)
        have hpt : ts < p := by rcases Nat.lt_or_ge ts p with z | z; exact z; (have e : p = ts := by omega); subst e; omega
        have hlt := hL ts
        refine V_aload_n X dX6_nextNumber_71 rfl ?_
        refine V_aload_n X dX6_nextNumber_72 rfl ?_
        refine V_get X fl_X6_58 0 0 rfl rfl rfl dX6_nextNumber_73 ?_
        refine V_callV (rest := []) X (c_X6_letterAt (Cl C) G a ro fi L Nn len sk p ts tk x ts (by first | assumption | omega) (by first | assumption | omega) (by omega)) mi_X6_letterAt kw_2_53 kw_2_55 kw_s_1 dX6_nextNumber_76 [0] rfl (by decide) 0 0 rfl rfl rfl rfl rfl rfl (by decide) (Nat.le_of_ble_eq_true rfl) ⟨rfl, rfl⟩ (fun _ _ => ?_)
        show V C 0 0 [gRead G a ro fi (nF L) (nF Nn) (nI len) (nI sk) (nI p) (nI ts) (nI tk) (nI x)] 79 [some (.ref (a 0)), none] [.int (nI (L ts))]
        refine V_bipush X (nI 48) dX6_nextNumber_79 (by decide) ?_
        refine V_icmp_neN X 101 dX6_nextNumber_81 (by decide) (by omega) (by decide) (fun c_2 => ?_) (fun c_2 => ?_)
        · refine V_iconst X (nI 0) dX6_nextNumber_101 (by decide) ?_
          refine V_istore_n X dX6_nextNumber_102 (by decide) rfl ?_
          refine V_aload_n X dX6_nextNumber_103 rfl ?_
          refine V_iload_n X dX6_nextNumber_104 rfl ?_
          refine V_if_neN X 117 dX6_nextNumber_105 (by decide) (by omega) (fun c_3 => ?_) (fun c_3 => ?_)
          · exfalso; omega
          · refine V_aload_n X dX6_nextNumber_108 rfl ?_
            refine V_get X fl_X6_95 0 0 rfl rfl rfl dX6_nextNumber_109 ?_
            refine V_bipush X (nI 99) dX6_nextNumber_112 (by decide) ?_
            refine V_icmp_leN X 121 dX6_nextNumber_114 (by decide) (by omega) (by decide) (fun c_4 => ?_) (fun c_4 => ?_)
            · refine V_iconst X (nI 1) dX6_nextNumber_121 (by decide) ?_
              refine V_put X fl_X6_51 0 0 rfl rfl rfl rfl (Nat.le_of_ble_eq_true rfl) dX6_nextNumber_122 ?_
              show V C 0 0 [gRead G a ro fi (nF L) (nF Nn) (nI len) (nI sk) (nI p) (nI ts) (nI 1) (nI x)] 125 [some (.ref (a 0)), some (.int (nI 0))] []
              exact V_vret X Y ⟨p, 1, x⟩ (show p = dgq L len ts ∧ ((p = ts + 1 ∧ 1 = 1 ∧ x = L ts - 48) ∨ (p ≠ ts + 1 ∧ (1 = 2 ∨ (1 = 1 ∧ 10 ≤ x)))) ∧ x ≤ 100 ∧ 1 ≤ 2 ∧ p ≤ len ∧ ts < p from (by rw [hq, hpe]; omega)) rfl rfl dX6_nextNumber_125
            · refine V_iconst X (nI 2) dX6_nextNumber_117 (by decide) ?_
              refine V_goto X 122 dX6_nextNumber_118 (by decide) ?_
              refine V_put X fl_X6_51 0 0 rfl rfl rfl rfl (Nat.le_of_ble_eq_true rfl) dX6_nextNumber_122 ?_
              show V C 0 0 [gRead G a ro fi (nF L) (nF Nn) (nI len) (nI sk) (nI p) (nI ts) (nI 2) (nI x)] 125 [some (.ref (a 0)), some (.int (nI 0))] []
              exact V_vret X Y ⟨p, 2, x⟩ (show p = dgq L len ts ∧ ((p = ts + 1 ∧ 2 = 1 ∧ x = L ts - 48) ∨ (p ≠ ts + 1 ∧ (2 = 2 ∨ (2 = 1 ∧ 10 ≤ x)))) ∧ x ≤ 100 ∧ 2 ≤ 2 ∧ p ≤ len ∧ ts < p from (by rw [hq, hpe]; omega)) rfl rfl dX6_nextNumber_125
        · refine V_aload_n X dX6_nextNumber_84 rfl ?_
          refine V_get X fl_X6_45 0 0 rfl rfl rfl dX6_nextNumber_85 ?_
          refine V_aload_n X dX6_nextNumber_88 rfl ?_
          refine V_get X fl_X6_58 0 0 rfl rfl rfl dX6_nextNumber_89 ?_
          refine V_isubN X dX6_nextNumber_92 (by omega) ?_
          refine V_iconst X (nI 1) dX6_nextNumber_93 (by decide) ?_
          refine V_icmp_leN X 101 dX6_nextNumber_94 (by decide) (by omega) (by decide) (fun c_5 => ?_) (fun c_5 => ?_)
          · refine V_iconst X (nI 0) dX6_nextNumber_101 (by decide) ?_
            refine V_istore_n X dX6_nextNumber_102 (by decide) rfl ?_
            refine V_aload_n X dX6_nextNumber_103 rfl ?_
            refine V_iload_n X dX6_nextNumber_104 rfl ?_
            refine V_if_neN X 117 dX6_nextNumber_105 (by decide) (by omega) (fun c_6 => ?_) (fun c_6 => ?_)
            · exfalso; omega
            · refine V_aload_n X dX6_nextNumber_108 rfl ?_
              refine V_get X fl_X6_95 0 0 rfl rfl rfl dX6_nextNumber_109 ?_
              refine V_bipush X (nI 99) dX6_nextNumber_112 (by decide) ?_
              refine V_icmp_leN X 121 dX6_nextNumber_114 (by decide) (by omega) (by decide) (fun c_7 => ?_) (fun c_7 => ?_)
              · refine V_iconst X (nI 1) dX6_nextNumber_121 (by decide) ?_
                refine V_put X fl_X6_51 0 0 rfl rfl rfl rfl (Nat.le_of_ble_eq_true rfl) dX6_nextNumber_122 ?_
                show V C 0 0 [gRead G a ro fi (nF L) (nF Nn) (nI len) (nI sk) (nI p) (nI ts) (nI 1) (nI x)] 125 [some (.ref (a 0)), some (.int (nI 0))] []
                exact V_vret X Y ⟨p, 1, x⟩ (show p = dgq L len ts ∧ ((p = ts + 1 ∧ 1 = 1 ∧ x = L ts - 48) ∨ (p ≠ ts + 1 ∧ (1 = 2 ∨ (1 = 1 ∧ 10 ≤ x)))) ∧ x ≤ 100 ∧ 1 ≤ 2 ∧ p ≤ len ∧ ts < p from (by rw [hq, hpe]; omega)) rfl rfl dX6_nextNumber_125
              · refine V_iconst X (nI 2) dX6_nextNumber_117 (by decide) ?_
                refine V_goto X 122 dX6_nextNumber_118 (by decide) ?_
                refine V_put X fl_X6_51 0 0 rfl rfl rfl rfl (Nat.le_of_ble_eq_true rfl) dX6_nextNumber_122 ?_
                show V C 0 0 [gRead G a ro fi (nF L) (nF Nn) (nI len) (nI sk) (nI p) (nI ts) (nI 2) (nI x)] 125 [some (.ref (a 0)), some (.int (nI 0))] []
                exact V_vret X Y ⟨p, 2, x⟩ (show p = dgq L len ts ∧ ((p = ts + 1 ∧ 2 = 1 ∧ x = L ts - 48) ∨ (p ≠ ts + 1 ∧ (2 = 2 ∨ (2 = 1 ∧ 10 ≤ x)))) ∧ x ≤ 100 ∧ 2 ≤ 2 ∧ p ≤ len ∧ ts < p from (by rw [hq, hpe]; omega)) rfl rfl dX6_nextNumber_125
          · refine V_iconst X (nI 1) dX6_nextNumber_97 (by decide) ?_
            refine V_goto X 102 dX6_nextNumber_98 (by decide) ?_
            refine V_istore_n X dX6_nextNumber_102 (by decide) rfl ?_
            refine V_aload_n X dX6_nextNumber_103 rfl ?_
            refine V_iload_n X dX6_nextNumber_104 rfl ?_
            refine V_if_neN X 117 dX6_nextNumber_105 (by decide) (by omega) (fun c_8 => ?_) (fun c_8 => ?_)
            · refine V_iconst X (nI 2) dX6_nextNumber_117 (by decide) ?_
              refine V_goto X 122 dX6_nextNumber_118 (by decide) ?_
              refine V_put X fl_X6_51 0 0 rfl rfl rfl rfl (Nat.le_of_ble_eq_true rfl) dX6_nextNumber_122 ?_
              show V C 0 0 [gRead G a ro fi (nF L) (nF Nn) (nI len) (nI sk) (nI p) (nI ts) (nI 2) (nI x)] 125 [some (.ref (a 0)), some (.int (nI 1))] []
              exact V_vret X Y ⟨p, 2, x⟩ (show p = dgq L len ts ∧ ((p = ts + 1 ∧ 2 = 1 ∧ x = L ts - 48) ∨ (p ≠ ts + 1 ∧ (2 = 2 ∨ (2 = 1 ∧ 10 ≤ x)))) ∧ x ≤ 100 ∧ 2 ≤ 2 ∧ p ≤ len ∧ ts < p from (by rw [hq, hpe]; omega)) rfl rfl dX6_nextNumber_125
            · exfalso; omega
      · refine V_aload_n X dX6_nextNumber_16 rfl ?_
        refine V_aload_n X dX6_nextNumber_17 rfl ?_
        refine V_get X fl_X6_45 0 0 rfl rfl rfl dX6_nextNumber_18 ?_
        refine V_callV (rest := []) X (c_X6_letterAt (Cl C) G a ro fi L Nn len sk p ts tk x p (by first | assumption | omega) (by first | assumption | omega) (by omega)) mi_X6_letterAt kw_2_53 kw_2_55 kw_s_1 dX6_nextNumber_21 [0] rfl (by decide) 0 0 rfl rfl rfl rfl rfl rfl (by decide) (Nat.le_of_ble_eq_true rfl) ⟨rfl, rfl⟩ (fun _ _ => ?_)
        show V C 0 0 [gRead G a ro fi (nF L) (nF Nn) (nI len) (nI sk) (nI p) (nI ts) (nI tk) (nI x)] 24 [some (.ref (a 0)), none] [.int (nI (L p))]
        have hlp := hL p
        refine V_callS (rest := []) X (c_X6_isDigit (Cl C) G (L p) (by first | assumption | omega)) mi_X6_isDigit kw_2_57 kw_2_58 dX6_nextNumber_24 [] rfl (by decide) rfl rfl (by decide) (Nat.le_of_ble_eq_true rfl) ⟨rfl, rfl⟩ (fun u_ hu_10 => ?_)
        obtain ⟨b_9, rfl⟩ : ∃ z, z = u_ := ⟨_, rfl⟩
        have hu_10 : (b_9 = 1 ∧ 48 ≤ (L p) ∧ (L p) ≤ 57) ∨ (b_9 = 0 ∧ ((L p) < 48 ∨ 57 < (L p))) := hu_10
        show V C 0 0 [gRead G a ro fi (nF L) (nF Nn) (nI len) (nI sk) (nI p) (nI ts) (nI tk) (nI x)] 27 [some (.ref (a 0)), none] [.int (nI b_9)]
        refine V_if_eqN X 71 dX6_nextNumber_27 (by decide) (by omega) (fun c_11 => ?_) (fun c_11 => ?_)
        · have hpe : dgq L len p = p := dgq_end (by omega)
          have hpt : ts < p := by rcases Nat.lt_or_ge ts p with z | z; exact z; (have e : p = ts := by omega); subst e; omega
          have hlt := hL ts
          refine V_aload_n X dX6_nextNumber_71 rfl ?_
          refine V_aload_n X dX6_nextNumber_72 rfl ?_
          refine V_get X fl_X6_58 0 0 rfl rfl rfl dX6_nextNumber_73 ?_
          refine V_callV (rest := []) X (c_X6_letterAt (Cl C) G a ro fi L Nn len sk p ts tk x ts (by first | assumption | omega) (by first | assumption | omega) (by omega)) mi_X6_letterAt kw_2_53 kw_2_55 kw_s_1 dX6_nextNumber_76 [0] rfl (by decide) 0 0 rfl rfl rfl rfl rfl rfl (by decide) (Nat.le_of_ble_eq_true rfl) ⟨rfl, rfl⟩ (fun _ _ => ?_)
          show V C 0 0 [gRead G a ro fi (nF L) (nF Nn) (nI len) (nI sk) (nI p) (nI ts) (nI tk) (nI x)] 79 [some (.ref (a 0)), none] [.int (nI (L ts))]
          refine V_bipush X (nI 48) dX6_nextNumber_79 (by decide) ?_
          refine V_icmp_neN X 101 dX6_nextNumber_81 (by decide) (by omega) (by decide) (fun c_12 => ?_) (fun c_12 => ?_)
          · refine V_iconst X (nI 0) dX6_nextNumber_101 (by decide) ?_
            refine V_istore_n X dX6_nextNumber_102 (by decide) rfl ?_
            refine V_aload_n X dX6_nextNumber_103 rfl ?_
            refine V_iload_n X dX6_nextNumber_104 rfl ?_
            refine V_if_neN X 117 dX6_nextNumber_105 (by decide) (by omega) (fun c_13 => ?_) (fun c_13 => ?_)
            · exfalso; omega
            · refine V_aload_n X dX6_nextNumber_108 rfl ?_
              refine V_get X fl_X6_95 0 0 rfl rfl rfl dX6_nextNumber_109 ?_
              refine V_bipush X (nI 99) dX6_nextNumber_112 (by decide) ?_
              refine V_icmp_leN X 121 dX6_nextNumber_114 (by decide) (by omega) (by decide) (fun c_14 => ?_) (fun c_14 => ?_)
              · refine V_iconst X (nI 1) dX6_nextNumber_121 (by decide) ?_
                refine V_put X fl_X6_51 0 0 rfl rfl rfl rfl (Nat.le_of_ble_eq_true rfl) dX6_nextNumber_122 ?_
                show V C 0 0 [gRead G a ro fi (nF L) (nF Nn) (nI len) (nI sk) (nI p) (nI ts) (nI 1) (nI x)] 125 [some (.ref (a 0)), some (.int (nI 0))] []
                exact V_vret X Y ⟨p, 1, x⟩ (show p = dgq L len ts ∧ ((p = ts + 1 ∧ 1 = 1 ∧ x = L ts - 48) ∨ (p ≠ ts + 1 ∧ (1 = 2 ∨ (1 = 1 ∧ 10 ≤ x)))) ∧ x ≤ 100 ∧ 1 ≤ 2 ∧ p ≤ len ∧ ts < p from (by rw [hq, hpe]; omega)) rfl rfl dX6_nextNumber_125
              · refine V_iconst X (nI 2) dX6_nextNumber_117 (by decide) ?_
                refine V_goto X 122 dX6_nextNumber_118 (by decide) ?_
                refine V_put X fl_X6_51 0 0 rfl rfl rfl rfl (Nat.le_of_ble_eq_true rfl) dX6_nextNumber_122 ?_
                show V C 0 0 [gRead G a ro fi (nF L) (nF Nn) (nI len) (nI sk) (nI p) (nI ts) (nI 2) (nI x)] 125 [some (.ref (a 0)), some (.int (nI 0))] []
                exact V_vret X Y ⟨p, 2, x⟩ (show p = dgq L len ts ∧ ((p = ts + 1 ∧ 2 = 1 ∧ x = L ts - 48) ∨ (p ≠ ts + 1 ∧ (2 = 2 ∨ (2 = 1 ∧ 10 ≤ x)))) ∧ x ≤ 100 ∧ 2 ≤ 2 ∧ p ≤ len ∧ ts < p from (by rw [hq, hpe]; omega)) rfl rfl dX6_nextNumber_125
          · refine V_aload_n X dX6_nextNumber_84 rfl ?_
            refine V_get X fl_X6_45 0 0 rfl rfl rfl dX6_nextNumber_85 ?_
            refine V_aload_n X dX6_nextNumber_88 rfl ?_
            refine V_get X fl_X6_58 0 0 rfl rfl rfl dX6_nextNumber_89 ?_
            refine V_isubN X dX6_nextNumber_92 (by omega) ?_
            refine V_iconst X (nI 1) dX6_nextNumber_93 (by decide) ?_
            refine V_icmp_leN X 101 dX6_nextNumber_94 (by decide) (by omega) (by decide) (fun c_15 => ?_) (fun c_15 => ?_)
            · refine V_iconst X (nI 0) dX6_nextNumber_101 (by decide) ?_
              refine V_istore_n X dX6_nextNumber_102 (by decide) rfl ?_
              refine V_aload_n X dX6_nextNumber_103 rfl ?_
              refine V_iload_n X dX6_nextNumber_104 rfl ?_
              refine V_if_neN X 117 dX6_nextNumber_105 (by decide) (by omega) (fun c_16 => ?_) (fun c_16 => ?_)
              · exfalso; omega
              · refine V_aload_n X dX6_nextNumber_108 rfl ?_
                refine V_get X fl_X6_95 0 0 rfl rfl rfl dX6_nextNumber_109 ?_
                refine V_bipush X (nI 99) dX6_nextNumber_112 (by decide) ?_
                refine V_icmp_leN X 121 dX6_nextNumber_114 (by decide) (by omega) (by decide) (fun c_17 => ?_) (fun c_17 => ?_)
                · refine V_iconst X (nI 1) dX6_nextNumber_121 (by decide) ?_
                  refine V_put X fl_X6_51 0 0 rfl rfl rfl rfl (Nat.le_of_ble_eq_true rfl) dX6_nextNumber_122 ?_
                  show V C 0 0 [gRead G a ro fi (nF L) (nF Nn) (nI len) (nI sk) (nI p) (nI ts) (nI 1) (nI x)] 125 [some (.ref (a 0)), some (.int (nI 0))] []
                  exact V_vret X Y ⟨p, 1, x⟩ (show p = dgq L len ts ∧ ((p = ts + 1 ∧ 1 = 1 ∧ x = L ts - 48) ∨ (p ≠ ts + 1 ∧ (1 = 2 ∨ (1 = 1 ∧ 10 ≤ x)))) ∧ x ≤ 100 ∧ 1 ≤ 2 ∧ p ≤ len ∧ ts < p from (by rw [hq, hpe]; omega)) rfl rfl dX6_nextNumber_125
                · refine V_iconst X (nI 2) dX6_nextNumber_117 (by decide) ?_
                  refine V_goto X 122 dX6_nextNumber_118 (by decide) ?_
                  refine V_put X fl_X6_51 0 0 rfl rfl rfl rfl (Nat.le_of_ble_eq_true rfl) dX6_nextNumber_122 ?_
                  show V C 0 0 [gRead G a ro fi (nF L) (nF Nn) (nI len) (nI sk) (nI p) (nI ts) (nI 2) (nI x)] 125 [some (.ref (a 0)), some (.int (nI 0))] []
                  exact V_vret X Y ⟨p, 2, x⟩ (show p = dgq L len ts ∧ ((p = ts + 1 ∧ 2 = 1 ∧ x = L ts - 48) ∨ (p ≠ ts + 1 ∧ (2 = 2 ∨ (2 = 1 ∧ 10 ≤ x)))) ∧ x ≤ 100 ∧ 2 ≤ 2 ∧ p ≤ len ∧ ts < p from (by rw [hq, hpe]; omega)) rfl rfl dX6_nextNumber_125
            · refine V_iconst X (nI 1) dX6_nextNumber_97 (by decide) ?_
              refine V_goto X 102 dX6_nextNumber_98 (by decide) ?_
              refine V_istore_n X dX6_nextNumber_102 (by decide) rfl ?_
              refine V_aload_n X dX6_nextNumber_103 rfl ?_
              refine V_iload_n X dX6_nextNumber_104 rfl ?_
              refine V_if_neN X 117 dX6_nextNumber_105 (by decide) (by omega) (fun c_18 => ?_) (fun c_18 => ?_)
              · refine V_iconst X (nI 2) dX6_nextNumber_117 (by decide) ?_
                refine V_goto X 122 dX6_nextNumber_118 (by decide) ?_
                refine V_put X fl_X6_51 0 0 rfl rfl rfl rfl (Nat.le_of_ble_eq_true rfl) dX6_nextNumber_122 ?_
                show V C 0 0 [gRead G a ro fi (nF L) (nF Nn) (nI len) (nI sk) (nI p) (nI ts) (nI 2) (nI x)] 125 [some (.ref (a 0)), some (.int (nI 1))] []
                exact V_vret X Y ⟨p, 2, x⟩ (show p = dgq L len ts ∧ ((p = ts + 1 ∧ 2 = 1 ∧ x = L ts - 48) ∨ (p ≠ ts + 1 ∧ (2 = 2 ∨ (2 = 1 ∧ 10 ≤ x)))) ∧ x ≤ 100 ∧ 2 ≤ 2 ∧ p ≤ len ∧ ts < p from (by rw [hq, hpe]; omega)) rfl rfl dX6_nextNumber_125
              · exfalso; omega
        · refine V_aload_n X dX6_nextNumber_30 rfl ?_
          refine V_bipush X (nI 100) dX6_nextNumber_31 (by decide) ?_
          refine V_bipush X (nI 10) dX6_nextNumber_33 (by decide) ?_
          refine V_aload_n X dX6_nextNumber_35 rfl ?_
          refine V_get X fl_X6_95 0 0 rfl rfl rfl dX6_nextNumber_36 ?_
          refine V_imulN X dX6_nextNumber_39 ?_
          refine V_aload_n X dX6_nextNumber_40 rfl ?_
          refine V_aload_n X dX6_nextNumber_41 rfl ?_
          refine V_get X fl_X6_45 0 0 rfl rfl rfl dX6_nextNumber_42 ?_
          refine V_callV (rest := [.int (nI (10 * x)), .int (nI 100), .ref (a 0)]) X (c_X6_letterAt (Cl C) G a ro fi L Nn len sk p ts tk x p (by first | assumption | omega) (by first | assumption | omega) (by omega)) mi_X6_letterAt kw_2_53 kw_2_55 kw_s_1 dX6_nextNumber_45 [0] rfl (by decide) 0 0 rfl rfl rfl rfl rfl rfl (by decide) (Nat.le_of_ble_eq_true rfl) ⟨rfl, rfl⟩ (fun _ _ => ?_)
          show V C 0 0 [gRead G a ro fi (nF L) (nF Nn) (nI len) (nI sk) (nI p) (nI ts) (nI tk) (nI x)] 48 [some (.ref (a 0)), none] [.int (nI (L p)), .int (nI (10 * x)), .int (nI 100), .ref (a 0)]
          refine V_bipush X (nI 48) dX6_nextNumber_48 (by decide) ?_
          refine V_isubN X dX6_nextNumber_50 (by omega) ?_
          refine V_iaddN X dX6_nextNumber_51 ?_
          refine V_mminN X kw_2_64 dX6_nextNumber_52 (by decide) (Nat.le_of_ble_eq_true rfl) ⟨rfl, rfl⟩ (by omega) (by omega) ?_
          refine V_put X fl_X6_95 0 0 rfl rfl rfl rfl (Nat.le_of_ble_eq_true rfl) dX6_nextNumber_55 ?_
          show V C 0 0 [gRead G a ro fi (nF L) (nF Nn) (nI len) (nI sk) (nI p) (nI ts) (nI tk) (nI (min 100 ((10 * x) + ((L p) - 48))))] 58 [some (.ref (a 0)), none] []
          refine V_aload_n X dX6_nextNumber_58 rfl ?_
          refine V_dup X dX6_nextNumber_59 rfl ?_
          refine V_get X fl_X6_45 0 0 rfl rfl rfl dX6_nextNumber_60 ?_
          refine V_iconst X (nI 1) dX6_nextNumber_63 (by decide) ?_
          refine V_iaddN X dX6_nextNumber_64 ?_
          refine V_put X fl_X6_45 0 0 rfl rfl rfl rfl (Nat.le_of_ble_eq_true rfl) dX6_nextNumber_65 ?_
          show V C 0 0 [gRead G a ro fi (nF L) (nF Nn) (nI len) (nI sk) (nI (p + 1)) (nI ts) (nI tk) (nI (min 100 ((10 * x) + ((L p) - 48))))] 68 [some (.ref (a 0)), none] []
          refine V_goto X 5 dX6_nextNumber_68 (by decide) ?_
          refine V_weak (lv' := [some (.ref (a 0)), none]) (And.intro rfl trivial) ?_
          exact ih_5 (p + 1) (min 100 ((10 * x) + ((L p) - 48))) (by omega) (by rw [hq, dgq_step (by omega) (by omega)]) (by rcases Nat.lt_or_ge ts p with z | z; omega; (have e : p = ts := by omega); subst e; omega) (by omega)
  refine V_weak (lv' := [some (.ref (a 0)), none]) (And.intro rfl trivial) ?_
  exact L_5 _ att 0 (by omega) (by rw [hat.1]) (by omega) (Nat.lt_succ_self _)
set_option maxHeartbeats 4000000 in
set_option maxRecDepth 100000 in
theorem c_X6_nextToken (l : Launch) (G : mvG) (a : Nat → Nat) (ro : Nat) (fi : Nat) (L : Nat → Nat) (Nn : Nat → Nat) (len : Nat) (sk : Nat) (att : Nat) (ts : Nat) (tk : Nat) (nb : Nat) (hlen : len ≤ 100) (hL : ∀ j, L j < 256) (hat : att ≤ len) (hnb : nb ≤ 100) : KQ l yX6_nextToken cX6_nextToken 2 none (2, 42) G [.ref (a 0)] [gRead G a ro fi (nF L) (nF Nn) (nI len) (nI sk) (nI att) (nI ts) (nI tk) (nI nb)] (fun (zz : Nat × Nat × Nat × Nat × Nat × Nat) => none) (fun (zz : Nat × Nat × Nat × Nat × Nat × Nat) => (tokf L len att = (zz.2.1, zz.1, zz.2.2.2.2.1, zz.2.2.2.2.2) ∧ clsC zz.2.2.2.2.1 zz.2.2.2.2.2 zz.2.2.1 zz.2.2.2.1) ∧ zz.2.2.2.1 ≤ 100 ∧ zz.2.2.1 < 256 ∧ zz.1 ≤ len ∧ zz.2.1 ≤ len ∧ att ≤ zz.1 ∧ (zz.2.2.1 = 3 ∨ att < zz.1)) (fun (zz : Nat × Nat × Nat × Nat × Nat × Nat) => [gRead G a ro fi (nF L) (nF Nn) (nI len) (nI sk) (nI zz.1) (nI zz.2.1) (nI zz.2.2.1) (nI zz.2.2.2.1)]) := by
  refine KQ.mk (by decide +kernel) (fun _ _ => rfl) [some (.ref (a 0)), none] (Nat.le_of_ble_eq_true rfl) rfl (fun C X Y hC => ?_)
  subst hC
  have L_0 : ∀ (fz_0 : Nat) (p : Nat) (hp : p ≤ len ∧ att ≤ p) (hq : skq L len att = skq L len p), (len - p) < fz_0 → V C 0 0 [gRead G a ro fi (nF L) (nF Nn) (nI len) (nI sk) (nI p) (nI ts) (nI tk) (nI nb)] 0 [some (.ref (a 0)), none] [] := by
    intro fz_0
    induction fz_0 with
    | zero => intro p hp hq hf_0; exact absurd hf_0 (Nat.not_lt_zero _)
    | succ fz_0 ih_0 =>
      intro p hp hq hf_0
      refine V_aload_n X dX6_nextToken_0 rfl ?_
      refine V_get X fl_X6_45 0 0 rfl rfl rfl dX6_nextToken_1 ?_
      refine V_aload_n X dX6_nextToken_4 rfl ?_
      refine V_get X fl_X6_33 0 0 rfl rfl rfl dX6_nextToken_5 ?_
      refine V_icmp_geN X 37 dX6_nextToken_8 (by decide) (by omega) (by omega) (fun c_1 => ?_) (fun c_1 => ?_)
      · have hpe : skq L len p = p := skq_end (by omega)
        rw [hpe] at hq
        have hlp := hL p
        refine V_aload_n X dX6_nextToken_37 rfl ?_
        refine V_aload_n X dX6_nextToken_38 rfl ?_
        refine V_get X fl_X6_45 0 0 rfl rfl rfl dX6_nextToken_39 ?_
        refine V_put X fl_X6_58 0 0 rfl rfl rfl rfl (Nat.le_of_ble_eq_true rfl) dX6_nextToken_42 ?_
        show V C 0 0 [gRead G a ro fi (nF L) (nF Nn) (nI len) (nI sk) (nI p) (nI p) (nI tk) (nI nb)] 45 [some (.ref (a 0)), none] []
        refine V_aload_n X dX6_nextToken_45 rfl ?_
        refine V_get X fl_X6_45 0 0 rfl rfl rfl dX6_nextToken_46 ?_
        refine V_aload_n X dX6_nextToken_49 rfl ?_
        refine V_get X fl_X6_33 0 0 rfl rfl rfl dX6_nextToken_50 ?_
        refine V_icmp_ltN X 64 dX6_nextToken_53 (by decide) (by omega) (by omega) (fun c_2 => ?_) (fun c_2 => ?_)
        · refine V_aload_n X dX6_nextToken_64 rfl ?_
          refine V_aload_n X dX6_nextToken_65 rfl ?_
          refine V_get X fl_X6_45 0 0 rfl rfl rfl dX6_nextToken_66 ?_
          refine V_callV (rest := []) X (c_X6_letterAt (Cl C) G a ro fi L Nn len sk p p tk nb p (by first | assumption | omega) (by first | assumption | omega) (by omega)) mi_X6_letterAt kw_2_53 kw_2_55 kw_s_1 dX6_nextToken_69 [0] rfl (by decide) 0 0 rfl rfl rfl rfl rfl rfl (by decide) (Nat.le_of_ble_eq_true rfl) ⟨rfl, rfl⟩ (fun _ _ => ?_)
          show V C 0 0 [gRead G a ro fi (nF L) (nF Nn) (nI len) (nI sk) (nI p) (nI p) (nI tk) (nI nb)] 72 [some (.ref (a 0)), none] [.int (nI (L p))]
          refine V_callS (rest := []) X (c_X6_isDigit (Cl C) G (L p) (by first | assumption | omega)) mi_X6_isDigit kw_2_57 kw_2_58 dX6_nextToken_72 [] rfl (by decide) rfl rfl (by decide) (Nat.le_of_ble_eq_true rfl) ⟨rfl, rfl⟩ (fun u_ hu_4 => ?_)
          obtain ⟨b_3, rfl⟩ : ∃ z, z = u_ := ⟨_, rfl⟩
          have hu_4 : (b_3 = 1 ∧ 48 ≤ (L p) ∧ (L p) ≤ 57) ∨ (b_3 = 0 ∧ ((L p) < 48 ∨ 57 < (L p))) := hu_4
          show V C 0 0 [gRead G a ro fi (nF L) (nF Nn) (nI len) (nI sk) (nI p) (nI p) (nI tk) (nI nb)] 75 [some (.ref (a 0)), none] [.int (nI b_3)]
          refine V_if_eqN X 85 dX6_nextToken_75 (by decide) (by omega) (fun c_5 => ?_) (fun c_5 => ?_)
          · refine V_aload_n X dX6_nextToken_85 rfl ?_
            refine V_aload_n X dX6_nextToken_86 rfl ?_
            refine V_get X fl_X6_45 0 0 rfl rfl rfl dX6_nextToken_87 ?_
            refine V_callV (rest := []) X (c_X6_letterAt (Cl C) G a ro fi L Nn len sk p p tk nb p (by first | assumption | omega) (by first | assumption | omega) (by omega)) mi_X6_letterAt kw_2_53 kw_2_55 kw_s_1 dX6_nextToken_90 [0] rfl (by decide) 0 0 rfl rfl rfl rfl rfl rfl (by decide) (Nat.le_of_ble_eq_true rfl) ⟨rfl, rfl⟩ (fun _ _ => ?_)
            show V C 0 0 [gRead G a ro fi (nF L) (nF Nn) (nI len) (nI sk) (nI p) (nI p) (nI tk) (nI nb)] 93 [some (.ref (a 0)), none] [.int (nI (L p))]
            refine V_istore_n X dX6_nextToken_93 (by decide) rfl ?_
            refine V_aload_n X dX6_nextToken_94 rfl ?_
            refine V_dup X dX6_nextToken_95 rfl ?_
            refine V_get X fl_X6_45 0 0 rfl rfl rfl dX6_nextToken_96 ?_
            refine V_iconst X (nI 1) dX6_nextToken_99 (by decide) ?_
            refine V_iaddN X dX6_nextToken_100 ?_
            refine V_put X fl_X6_45 0 0 rfl rfl rfl rfl (Nat.le_of_ble_eq_true rfl) dX6_nextToken_101 ?_
            show V C 0 0 [gRead G a ro fi (nF L) (nF Nn) (nI len) (nI sk) (nI (p + 1)) (nI p) (nI tk) (nI nb)] 104 [some (.ref (a 0)), some (.int (nI (L p)))] []
            refine V_aload_n X dX6_nextToken_104 rfl ?_
            refine V_iload_n X dX6_nextToken_105 rfl ?_
            refine V_bipush X (nI 112) dX6_nextToken_106 (by decide) ?_
            refine V_icmp_eqN X 129 dX6_nextToken_108 (by decide) (by omega) (by decide) (fun c_6 => ?_) (fun c_6 => ?_)
            · refine V_iload_n X dX6_nextToken_129 rfl ?_
              refine V_goto X 134 dX6_nextToken_130 (by decide) ?_
              refine V_put X fl_X6_51 0 0 rfl rfl rfl rfl (Nat.le_of_ble_eq_true rfl) dX6_nextToken_134 ?_
              show V C 0 0 [gRead G a ro fi (nF L) (nF Nn) (nI len) (nI sk) (nI (p + 1)) (nI p) (nI (L p)) (nI nb)] 137 [some (.ref (a 0)), some (.int (nI (L p)))] []
              exact V_vret X Y ⟨p + 1, p, L p, nb, (tokf L len att).2.2.1, (tokf L len att).2.2.2⟩ (show (tokf L len att = (p, (p + 1), ((tokf L len att).2.2.1), ((tokf L len att).2.2.2)) ∧ clsC ((tokf L len att).2.2.1) ((tokf L len att).2.2.2) (L p) nb) ∧ nb ≤ 100 ∧ (L p) < 256 ∧ (p + 1) ≤ len ∧ p ≤ len ∧ att ≤ (p + 1) ∧ ((L p) = 3 ∨ att < (p + 1)) from ⟨tok_post hq (by omega), by omega⟩) rfl rfl dX6_nextToken_137
            · refine V_iload_n X dX6_nextToken_111 rfl ?_
              refine V_bipush X (nI 115) dX6_nextToken_112 (by decide) ?_
              refine V_icmp_eqN X 129 dX6_nextToken_114 (by decide) (by omega) (by decide) (fun c_7 => ?_) (fun c_7 => ?_)
              · refine V_iload_n X dX6_nextToken_129 rfl ?_
                refine V_goto X 134 dX6_nextToken_130 (by decide) ?_
                refine V_put X fl_X6_51 0 0 rfl rfl rfl rfl (Nat.le_of_ble_eq_true rfl) dX6_nextToken_134 ?_
                show V C 0 0 [gRead G a ro fi (nF L) (nF Nn) (nI len) (nI sk) (nI (p + 1)) (nI p) (nI (L p)) (nI nb)] 137 [some (.ref (a 0)), some (.int (nI (L p)))] []
                exact V_vret X Y ⟨p + 1, p, L p, nb, (tokf L len att).2.2.1, (tokf L len att).2.2.2⟩ (show (tokf L len att = (p, (p + 1), ((tokf L len att).2.2.1), ((tokf L len att).2.2.2)) ∧ clsC ((tokf L len att).2.2.1) ((tokf L len att).2.2.2) (L p) nb) ∧ nb ≤ 100 ∧ (L p) < 256 ∧ (p + 1) ≤ len ∧ p ≤ len ∧ att ≤ (p + 1) ∧ ((L p) = 3 ∨ att < (p + 1)) from ⟨tok_post hq (by omega), by omega⟩) rfl rfl dX6_nextToken_137
              · refine V_iload_n X dX6_nextToken_117 rfl ?_
                refine V_bipush X (nI 102) dX6_nextToken_118 (by decide) ?_
                refine V_icmp_eqN X 129 dX6_nextToken_120 (by decide) (by omega) (by decide) (fun c_8 => ?_) (fun c_8 => ?_)
                · refine V_iload_n X dX6_nextToken_129 rfl ?_
                  refine V_goto X 134 dX6_nextToken_130 (by decide) ?_
                  refine V_put X fl_X6_51 0 0 rfl rfl rfl rfl (Nat.le_of_ble_eq_true rfl) dX6_nextToken_134 ?_
                  show V C 0 0 [gRead G a ro fi (nF L) (nF Nn) (nI len) (nI sk) (nI (p + 1)) (nI p) (nI (L p)) (nI nb)] 137 [some (.ref (a 0)), some (.int (nI (L p)))] []
                  exact V_vret X Y ⟨p + 1, p, L p, nb, (tokf L len att).2.2.1, (tokf L len att).2.2.2⟩ (show (tokf L len att = (p, (p + 1), ((tokf L len att).2.2.1), ((tokf L len att).2.2.2)) ∧ clsC ((tokf L len att).2.2.1) ((tokf L len att).2.2.2) (L p) nb) ∧ nb ≤ 100 ∧ (L p) < 256 ∧ (p + 1) ≤ len ∧ p ≤ len ∧ att ≤ (p + 1) ∧ ((L p) = 3 ∨ att < (p + 1)) from ⟨tok_post hq (by omega), by omega⟩) rfl rfl dX6_nextToken_137
                · refine V_iload_n X dX6_nextToken_123 rfl ?_
                  refine V_bipush X (nI 59) dX6_nextToken_124 (by decide) ?_
                  refine V_icmp_neN X 133 dX6_nextToken_126 (by decide) (by omega) (by decide) (fun c_9 => ?_) (fun c_9 => ?_)
                  · refine V_iconst X (nI 2) dX6_nextToken_133 (by decide) ?_
                    refine V_put X fl_X6_51 0 0 rfl rfl rfl rfl (Nat.le_of_ble_eq_true rfl) dX6_nextToken_134 ?_
                    show V C 0 0 [gRead G a ro fi (nF L) (nF Nn) (nI len) (nI sk) (nI (p + 1)) (nI p) (nI 2) (nI nb)] 137 [some (.ref (a 0)), some (.int (nI (L p)))] []
                    exact V_vret X Y ⟨p + 1, p, 2, nb, (tokf L len att).2.2.1, (tokf L len att).2.2.2⟩ (show (tokf L len att = (p, (p + 1), ((tokf L len att).2.2.1), ((tokf L len att).2.2.2)) ∧ clsC ((tokf L len att).2.2.1) ((tokf L len att).2.2.2) 2 nb) ∧ nb ≤ 100 ∧ 2 < 256 ∧ (p + 1) ≤ len ∧ p ≤ len ∧ att ≤ (p + 1) ∧ (2 = 3 ∨ att < (p + 1)) from ⟨tok_post hq (by omega), by omega⟩) rfl rfl dX6_nextToken_137
                  · refine V_iload_n X dX6_nextToken_129 rfl ?_
                    refine V_goto X 134 dX6_nextToken_130 (by decide) ?_
                    refine V_put X fl_X6_51 0 0 rfl rfl rfl rfl (Nat.le_of_ble_eq_true rfl) dX6_nextToken_134 ?_
                    show V C 0 0 [gRead G a ro fi (nF L) (nF Nn) (nI len) (nI sk) (nI (p + 1)) (nI p) (nI (L p)) (nI nb)] 137 [some (.ref (a 0)), some (.int (nI (L p)))] []
                    exact V_vret X Y ⟨p + 1, p, L p, nb, (tokf L len att).2.2.1, (tokf L len att).2.2.2⟩ (show (tokf L len att = (p, (p + 1), ((tokf L len att).2.2.1), ((tokf L len att).2.2.2)) ∧ clsC ((tokf L len att).2.2.1) ((tokf L len att).2.2.2) (L p) nb) ∧ nb ≤ 100 ∧ (L p) < 256 ∧ (p + 1) ≤ len ∧ p ≤ len ∧ att ≤ (p + 1) ∧ ((L p) = 3 ∨ att < (p + 1)) from ⟨tok_post hq (by omega), by omega⟩) rfl rfl dX6_nextToken_137
          · refine V_aload_n X dX6_nextToken_78 rfl ?_
            refine V_callV (rest := []) X (c_X6_nextNumber (Cl C) G a ro fi L Nn len sk p p tk nb (by first | assumption | omega) (by first | assumption | omega) (by omega) (by omega)) mi_X6_nextNumber kw_2_60 kw_2_62 kw_s_2 dX6_nextToken_79 [0] rfl (by decide) 0 0 rfl rfl rfl rfl rfl rfl (by decide) (Nat.le_of_ble_eq_true rfl) ⟨rfl, rfl⟩ (fun u_ hu_13 => ?_)
            obtain ⟨p_10, t_11, x_12⟩ := u_
            have hu_13 : p_10 = dgq L len p ∧ ((p_10 = p + 1 ∧ t_11 = 1 ∧ x_12 = L p - 48) ∨ (p_10 ≠ p + 1 ∧ (t_11 = 2 ∨ (t_11 = 1 ∧ 10 ≤ x_12)))) ∧ x_12 ≤ 100 ∧ t_11 ≤ 2 ∧ p_10 ≤ len ∧ p < p_10 := hu_13
            show V C 0 0 [gRead G a ro fi (nF L) (nF Nn) (nI len) (nI sk) (nI p_10) (nI p) (nI t_11) (nI x_12)] 82 [some (.ref (a 0)), none] []
            refine V_goto X 137 dX6_nextToken_82 (by decide) ?_
            exact V_vret X Y ⟨p_10, p, t_11, x_12, (tokf L len att).2.2.1, (tokf L len att).2.2.2⟩ (show (tokf L len att = (p, p_10, ((tokf L len att).2.2.1), ((tokf L len att).2.2.2)) ∧ clsC ((tokf L len att).2.2.1) ((tokf L len att).2.2.2) t_11 x_12) ∧ x_12 ≤ 100 ∧ t_11 < 256 ∧ p_10 ≤ len ∧ p ≤ len ∧ att ≤ p_10 ∧ (t_11 = 3 ∨ att < p_10) from ⟨tok_post hq (by omega), by omega⟩) rfl rfl dX6_nextToken_137
        · refine V_aload_n X dX6_nextToken_56 rfl ?_
          refine V_iconst X (nI 3) dX6_nextToken_57 (by decide) ?_
          refine V_put X fl_X6_51 0 0 rfl rfl rfl rfl (Nat.le_of_ble_eq_true rfl) dX6_nextToken_58 ?_
          show V C 0 0 [gRead G a ro fi (nF L) (nF Nn) (nI len) (nI sk) (nI p) (nI p) (nI 3) (nI nb)] 61 [some (.ref (a 0)), none] []
          refine V_goto X 137 dX6_nextToken_61 (by decide) ?_
          exact V_vret X Y ⟨p, p, 3, nb, (tokf L len att).2.2.1, (tokf L len att).2.2.2⟩ (show (tokf L len att = (p, p, ((tokf L len att).2.2.1), ((tokf L len att).2.2.2)) ∧ clsC ((tokf L len att).2.2.1) ((tokf L len att).2.2.2) 3 nb) ∧ nb ≤ 100 ∧ 3 < 256 ∧ p ≤ len ∧ p ≤ len ∧ att ≤ p ∧ (3 = 3 ∨ att < p) from ⟨tok_post hq (by omega), by omega⟩) rfl rfl dX6_nextToken_137
      · refine V_aload_n X dX6_nextToken_11 rfl ?_
        refine V_aload_n X dX6_nextToken_12 rfl ?_
        refine V_get X fl_X6_45 0 0 rfl rfl rfl dX6_nextToken_13 ?_
        refine V_callV (rest := []) X (c_X6_letterAt (Cl C) G a ro fi L Nn len sk p ts tk nb p (by first | assumption | omega) (by first | assumption | omega) (by omega)) mi_X6_letterAt kw_2_53 kw_2_55 kw_s_1 dX6_nextToken_16 [0] rfl (by decide) 0 0 rfl rfl rfl rfl rfl rfl (by decide) (Nat.le_of_ble_eq_true rfl) ⟨rfl, rfl⟩ (fun _ _ => ?_)
        show V C 0 0 [gRead G a ro fi (nF L) (nF Nn) (nI len) (nI sk) (nI p) (nI ts) (nI tk) (nI nb)] 19 [some (.ref (a 0)), none] [.int (nI (L p))]
        have hlp := hL p
        refine V_bipush X (nI 32) dX6_nextToken_19 (by decide) ?_
        refine V_icmp_neN X 37 dX6_nextToken_21 (by decide) (by omega) (by decide) (fun c_14 => ?_) (fun c_14 => ?_)
        · have hpe : skq L len p = p := skq_end (by omega)
          rw [hpe] at hq
          have hlp := hL p
          refine V_aload_n X dX6_nextToken_37 rfl ?_
          refine V_aload_n X dX6_nextToken_38 rfl ?_
          refine V_get X fl_X6_45 0 0 rfl rfl rfl dX6_nextToken_39 ?_
          refine V_put X fl_X6_58 0 0 rfl rfl rfl rfl (Nat.le_of_ble_eq_true rfl) dX6_nextToken_42 ?_
          show V C 0 0 [gRead G a ro fi (nF L) (nF Nn) (nI len) (nI sk) (nI p) (nI p) (nI tk) (nI nb)] 45 [some (.ref (a 0)), none] []
          refine V_aload_n X dX6_nextToken_45 rfl ?_
          refine V_get X fl_X6_45 0 0 rfl rfl rfl dX6_nextToken_46 ?_
          refine V_aload_n X dX6_nextToken_49 rfl ?_
          refine V_get X fl_X6_33 0 0 rfl rfl rfl dX6_nextToken_50 ?_
          refine V_icmp_ltN X 64 dX6_nextToken_53 (by decide) (by omega) (by omega) (fun c_15 => ?_) (fun c_15 => ?_)
          · refine V_aload_n X dX6_nextToken_64 rfl ?_
            refine V_aload_n X dX6_nextToken_65 rfl ?_
            refine V_get X fl_X6_45 0 0 rfl rfl rfl dX6_nextToken_66 ?_
            refine V_callV (rest := []) X (c_X6_letterAt (Cl C) G a ro fi L Nn len sk p p tk nb p (by first | assumption | omega) (by first | assumption | omega) (by omega)) mi_X6_letterAt kw_2_53 kw_2_55 kw_s_1 dX6_nextToken_69 [0] rfl (by decide) 0 0 rfl rfl rfl rfl rfl rfl (by decide) (Nat.le_of_ble_eq_true rfl) ⟨rfl, rfl⟩ (fun _ _ => ?_)
            show V C 0 0 [gRead G a ro fi (nF L) (nF Nn) (nI len) (nI sk) (nI p) (nI p) (nI tk) (nI nb)] 72 [some (.ref (a 0)), none] [.int (nI (L p))]
            refine V_callS (rest := []) X (c_X6_isDigit (Cl C) G (L p) (by first | assumption | omega)) mi_X6_isDigit kw_2_57 kw_2_58 dX6_nextToken_72 [] rfl (by decide) rfl rfl (by decide) (Nat.le_of_ble_eq_true rfl) ⟨rfl, rfl⟩ (fun u_ hu_17 => ?_)
            obtain ⟨b_16, rfl⟩ : ∃ z, z = u_ := ⟨_, rfl⟩
            have hu_17 : (b_16 = 1 ∧ 48 ≤ (L p) ∧ (L p) ≤ 57) ∨ (b_16 = 0 ∧ ((L p) < 48 ∨ 57 < (L p))) := hu_17
            show V C 0 0 [gRead G a ro fi (nF L) (nF Nn) (nI len) (nI sk) (nI p) (nI p) (nI tk) (nI nb)] 75 [some (.ref (a 0)), none] [.int (nI b_16)]
            refine V_if_eqN X 85 dX6_nextToken_75 (by decide) (by omega) (fun c_18 => ?_) (fun c_18 => ?_)
            · refine V_aload_n X dX6_nextToken_85 rfl ?_
              refine V_aload_n X dX6_nextToken_86 rfl ?_
              refine V_get X fl_X6_45 0 0 rfl rfl rfl dX6_nextToken_87 ?_
              refine V_callV (rest := []) X (c_X6_letterAt (Cl C) G a ro fi L Nn len sk p p tk nb p (by first | assumption | omega) (by first | assumption | omega) (by omega)) mi_X6_letterAt kw_2_53 kw_2_55 kw_s_1 dX6_nextToken_90 [0] rfl (by decide) 0 0 rfl rfl rfl rfl rfl rfl (by decide) (Nat.le_of_ble_eq_true rfl) ⟨rfl, rfl⟩ (fun _ _ => ?_)
              show V C 0 0 [gRead G a ro fi (nF L) (nF Nn) (nI len) (nI sk) (nI p) (nI p) (nI tk) (nI nb)] 93 [some (.ref (a 0)), none] [.int (nI (L p))]
              refine V_istore_n X dX6_nextToken_93 (by decide) rfl ?_
              refine V_aload_n X dX6_nextToken_94 rfl ?_
              refine V_dup X dX6_nextToken_95 rfl ?_
              refine V_get X fl_X6_45 0 0 rfl rfl rfl dX6_nextToken_96 ?_
              refine V_iconst X (nI 1) dX6_nextToken_99 (by decide) ?_
              refine V_iaddN X dX6_nextToken_100 ?_
              refine V_put X fl_X6_45 0 0 rfl rfl rfl rfl (Nat.le_of_ble_eq_true rfl) dX6_nextToken_101 ?_
              show V C 0 0 [gRead G a ro fi (nF L) (nF Nn) (nI len) (nI sk) (nI (p + 1)) (nI p) (nI tk) (nI nb)] 104 [some (.ref (a 0)), some (.int (nI (L p)))] []
              refine V_aload_n X dX6_nextToken_104 rfl ?_
              refine V_iload_n X dX6_nextToken_105 rfl ?_
              refine V_bipush X (nI 112) dX6_nextToken_106 (by decide) ?_
              refine V_icmp_eqN X 129 dX6_nextToken_108 (by decide) (by omega) (by decide) (fun c_19 => ?_) (fun c_19 => ?_)
              · refine V_iload_n X dX6_nextToken_129 rfl ?_
                refine V_goto X 134 dX6_nextToken_130 (by decide) ?_
                refine V_put X fl_X6_51 0 0 rfl rfl rfl rfl (Nat.le_of_ble_eq_true rfl) dX6_nextToken_134 ?_
                show V C 0 0 [gRead G a ro fi (nF L) (nF Nn) (nI len) (nI sk) (nI (p + 1)) (nI p) (nI (L p)) (nI nb)] 137 [some (.ref (a 0)), some (.int (nI (L p)))] []
                exact V_vret X Y ⟨p + 1, p, L p, nb, (tokf L len att).2.2.1, (tokf L len att).2.2.2⟩ (show (tokf L len att = (p, (p + 1), ((tokf L len att).2.2.1), ((tokf L len att).2.2.2)) ∧ clsC ((tokf L len att).2.2.1) ((tokf L len att).2.2.2) (L p) nb) ∧ nb ≤ 100 ∧ (L p) < 256 ∧ (p + 1) ≤ len ∧ p ≤ len ∧ att ≤ (p + 1) ∧ ((L p) = 3 ∨ att < (p + 1)) from ⟨tok_post hq (by omega), by omega⟩) rfl rfl dX6_nextToken_137
              · refine V_iload_n X dX6_nextToken_111 rfl ?_
                refine V_bipush X (nI 115) dX6_nextToken_112 (by decide) ?_
                refine V_icmp_eqN X 129 dX6_nextToken_114 (by decide) (by omega) (by decide) (fun c_20 => ?_) (fun c_20 => ?_)
                · refine V_iload_n X dX6_nextToken_129 rfl ?_
                  refine V_goto X 134 dX6_nextToken_130 (by decide) ?_
                  refine V_put X fl_X6_51 0 0 rfl rfl rfl rfl (Nat.le_of_ble_eq_true rfl) dX6_nextToken_134 ?_
                  show V C 0 0 [gRead G a ro fi (nF L) (nF Nn) (nI len) (nI sk) (nI (p + 1)) (nI p) (nI (L p)) (nI nb)] 137 [some (.ref (a 0)), some (.int (nI (L p)))] []
                  exact V_vret X Y ⟨p + 1, p, L p, nb, (tokf L len att).2.2.1, (tokf L len att).2.2.2⟩ (show (tokf L len att = (p, (p + 1), ((tokf L len att).2.2.1), ((tokf L len att).2.2.2)) ∧ clsC ((tokf L len att).2.2.1) ((tokf L len att).2.2.2) (L p) nb) ∧ nb ≤ 100 ∧ (L p) < 256 ∧ (p + 1) ≤ len ∧ p ≤ len ∧ att ≤ (p + 1) ∧ ((L p) = 3 ∨ att < (p + 1)) from ⟨tok_post hq (by omega), by omega⟩) rfl rfl dX6_nextToken_137
                · refine V_iload_n X dX6_nextToken_117 rfl ?_
                  refine V_bipush X (nI 102) dX6_nextToken_118 (by decide) ?_
                  refine V_icmp_eqN X 129 dX6_nextToken_120 (by decide) (by omega) (by decide) (fun c_21 => ?_) (fun c_21 => ?_)
                  · refine V_iload_n X dX6_nextToken_129 rfl ?_
                    refine V_goto X 134 dX6_nextToken_130 (by decide) ?_
                    refine V_put X fl_X6_51 0 0 rfl rfl rfl rfl (Nat.le_of_ble_eq_true rfl) dX6_nextToken_134 ?_
                    show V C 0 0 [gRead G a ro fi (nF L) (nF Nn) (nI len) (nI sk) (nI (p + 1)) (nI p) (nI (L p)) (nI nb)] 137 [some (.ref (a 0)), some (.int (nI (L p)))] []
                    exact V_vret X Y ⟨p + 1, p, L p, nb, (tokf L len att).2.2.1, (tokf L len att).2.2.2⟩ (show (tokf L len att = (p, (p + 1), ((tokf L len att).2.2.1), ((tokf L len att).2.2.2)) ∧ clsC ((tokf L len att).2.2.1) ((tokf L len att).2.2.2) (L p) nb) ∧ nb ≤ 100 ∧ (L p) < 256 ∧ (p + 1) ≤ len ∧ p ≤ len ∧ att ≤ (p + 1) ∧ ((L p) = 3 ∨ att < (p + 1)) from ⟨tok_post hq (by omega), by omega⟩) rfl rfl dX6_nextToken_137
                  · refine V_iload_n X dX6_nextToken_123 rfl ?_
                    refine V_bipush X (nI 59) dX6_nextToken_124 (by decide) ?_
                    refine V_icmp_neN X 133 dX6_nextToken_126 (by decide) (by omega) (by decide) (fun c_22 => ?_) (fun c_22 => ?_)
                    · refine V_iconst X (nI 2) dX6_nextToken_133 (by decide) ?_
                      refine V_put X fl_X6_51 0 0 rfl rfl rfl rfl (Nat.le_of_ble_eq_true rfl) dX6_nextToken_134 ?_
                      show V C 0 0 [gRead G a ro fi (nF L) (nF Nn) (nI len) (nI sk) (nI (p + 1)) (nI p) (nI 2) (nI nb)] 137 [some (.ref (a 0)), some (.int (nI (L p)))] []
                      exact V_vret X Y ⟨p + 1, p, 2, nb, (tokf L len att).2.2.1, (tokf L len att).2.2.2⟩ (show (tokf L len att = (p, (p + 1), ((tokf L len att).2.2.1), ((tokf L len att).2.2.2)) ∧ clsC ((tokf L len att).2.2.1) ((tokf L len att).2.2.2) 2 nb) ∧ nb ≤ 100 ∧ 2 < 256 ∧ (p + 1) ≤ len ∧ p ≤ len ∧ att ≤ (p + 1) ∧ (2 = 3 ∨ att < (p + 1)) from ⟨tok_post hq (by omega), by omega⟩) rfl rfl dX6_nextToken_137
                    · refine V_iload_n X dX6_nextToken_129 rfl ?_
                      refine V_goto X 134 dX6_nextToken_130 (by decide) ?_
                      refine V_put X fl_X6_51 0 0 rfl rfl rfl rfl (Nat.le_of_ble_eq_true rfl) dX6_nextToken_134 ?_
                      show V C 0 0 [gRead G a ro fi (nF L) (nF Nn) (nI len) (nI sk) (nI (p + 1)) (nI p) (nI (L p)) (nI nb)] 137 [some (.ref (a 0)), some (.int (nI (L p)))] []
                      exact V_vret X Y ⟨p + 1, p, L p, nb, (tokf L len att).2.2.1, (tokf L len att).2.2.2⟩ (show (tokf L len att = (p, (p + 1), ((tokf L len att).2.2.1), ((tokf L len att).2.2.2)) ∧ clsC ((tokf L len att).2.2.1) ((tokf L len att).2.2.2) (L p) nb) ∧ nb ≤ 100 ∧ (L p) < 256 ∧ (p + 1) ≤ len ∧ p ≤ len ∧ att ≤ (p + 1) ∧ ((L p) = 3 ∨ att < (p + 1)) from ⟨tok_post hq (by omega), by omega⟩) rfl rfl dX6_nextToken_137
            · refine V_aload_n X dX6_nextToken_78 rfl ?_
              refine V_callV (rest := []) X (c_X6_nextNumber (Cl C) G a ro fi L Nn len sk p p tk nb (by first | assumption | omega) (by first | assumption | omega) (by omega) (by omega)) mi_X6_nextNumber kw_2_60 kw_2_62 kw_s_2 dX6_nextToken_79 [0] rfl (by decide) 0 0 rfl rfl rfl rfl rfl rfl (by decide) (Nat.le_of_ble_eq_true rfl) ⟨rfl, rfl⟩ (fun u_ hu_26 => ?_)
              obtain ⟨p_23, t_24, x_25⟩ := u_
              have hu_26 : p_23 = dgq L len p ∧ ((p_23 = p + 1 ∧ t_24 = 1 ∧ x_25 = L p - 48) ∨ (p_23 ≠ p + 1 ∧ (t_24 = 2 ∨ (t_24 = 1 ∧ 10 ≤ x_25)))) ∧ x_25 ≤ 100 ∧ t_24 ≤ 2 ∧ p_23 ≤ len ∧ p < p_23 := hu_26
              show V C 0 0 [gRead G a ro fi (nF L) (nF Nn) (nI len) (nI sk) (nI p_23) (nI p) (nI t_24) (nI x_25)] 82 [some (.ref (a 0)), none] []
              refine V_goto X 137 dX6_nextToken_82 (by decide) ?_
              exact V_vret X Y ⟨p_23, p, t_24, x_25, (tokf L len att).2.2.1, (tokf L len att).2.2.2⟩ (show (tokf L len att = (p, p_23, ((tokf L len att).2.2.1), ((tokf L len att).2.2.2)) ∧ clsC ((tokf L len att).2.2.1) ((tokf L len att).2.2.2) t_24 x_25) ∧ x_25 ≤ 100 ∧ t_24 < 256 ∧ p_23 ≤ len ∧ p ≤ len ∧ att ≤ p_23 ∧ (t_24 = 3 ∨ att < p_23) from ⟨tok_post hq (by omega), by omega⟩) rfl rfl dX6_nextToken_137
          · refine V_aload_n X dX6_nextToken_56 rfl ?_
            refine V_iconst X (nI 3) dX6_nextToken_57 (by decide) ?_
            refine V_put X fl_X6_51 0 0 rfl rfl rfl rfl (Nat.le_of_ble_eq_true rfl) dX6_nextToken_58 ?_
            show V C 0 0 [gRead G a ro fi (nF L) (nF Nn) (nI len) (nI sk) (nI p) (nI p) (nI 3) (nI nb)] 61 [some (.ref (a 0)), none] []
            refine V_goto X 137 dX6_nextToken_61 (by decide) ?_
            exact V_vret X Y ⟨p, p, 3, nb, (tokf L len att).2.2.1, (tokf L len att).2.2.2⟩ (show (tokf L len att = (p, p, ((tokf L len att).2.2.1), ((tokf L len att).2.2.2)) ∧ clsC ((tokf L len att).2.2.1) ((tokf L len att).2.2.2) 3 nb) ∧ nb ≤ 100 ∧ 3 < 256 ∧ p ≤ len ∧ p ≤ len ∧ att ≤ p ∧ (3 = 3 ∨ att < p) from ⟨tok_post hq (by omega), by omega⟩) rfl rfl dX6_nextToken_137
        · refine V_aload_n X dX6_nextToken_24 rfl ?_
          refine V_dup X dX6_nextToken_25 rfl ?_
          refine V_get X fl_X6_45 0 0 rfl rfl rfl dX6_nextToken_26 ?_
          refine V_iconst X (nI 1) dX6_nextToken_29 (by decide) ?_
          refine V_iaddN X dX6_nextToken_30 ?_
          refine V_put X fl_X6_45 0 0 rfl rfl rfl rfl (Nat.le_of_ble_eq_true rfl) dX6_nextToken_31 ?_
          show V C 0 0 [gRead G a ro fi (nF L) (nF Nn) (nI len) (nI sk) (nI (p + 1)) (nI ts) (nI tk) (nI nb)] 34 [some (.ref (a 0)), none] []
          refine V_goto X 0 dX6_nextToken_34 (by decide) ?_
          refine V_weak (lv' := [some (.ref (a 0)), none]) (And.intro rfl trivial) ?_
          exact ih_0 (p + 1) (by omega) (by rw [hq, skq_step (by omega) (by assumption)]) (by omega)
  refine V_weak (lv' := [some (.ref (a 0)), none]) (And.intro rfl trivial) ?_
  exact L_0 _ att (by omega) rfl (Nat.lt_succ_self _)
