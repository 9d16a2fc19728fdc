def PSM (dr be : Nat → Nat) (ps : PS) : Prop := dr 0 = ps.2.2.1 ∧ dr 1 = ps.2.2.2.1 ∧ dr 3 = ps.2.2.2.2.1 ∧ (∀ j, j < ps.2.2.1 → dr (4 + j) = ps.1 j ∧ dr (9 + j) = ps.2.1 j) ∧ (∀ j, j < 5 → be j = ps.2.2.2.2.2.1 j) ∧ (∀ c, c < 36 → be (5 + c) = ps.2.2.2.2.2.2 c) ∧ (∀ j, ps.2.2.1 ≤ j → j < 5 → ps.2.2.2.2.2.1 j = 0 ∧ dr (4 + j) = 0 ∧ dr (9 + j) = 0) ∧ (∀ j, 41 ≤ j → j < 44 → be j = 0)
theorem psm_P {dr be : Nat → Nat} {ps : PS} (h : PSM dr be ps) (hn : ps.2.2.1 < 5) (x y u z : Nat) (q : Nat → Nat) (hq : ∀ j, q j = va_up (va_up (va_up dr (4 + dr 0) u) (9 + dr 0) z) 0 (va_up (va_up dr (4 + dr 0) u) (9 + dr 0) z 0 + 1) j) : PSM q (va_up be (dr 0) (6 * x + y)) (upP ps x y u z) ∧ q 2 = dr 2 := by
  obtain ⟨w, v, n, k, s, wh, de⟩ := ps
  simp only [PSM, upP] at h ⊢
  obtain ⟨h0, h1, h3, hw, hb, hc, hz⟩ := h
  simp only at hn
  simp only [va_up] at hq ⊢
  refine ⟨⟨?_, ?_, ?_, ?_, ?_, ?_, ?_⟩, ?_⟩
  · rw [hq]; simp; rw [if_neg (by omega), if_neg (by omega)]; omega
  · rw [hq]; simp; rw [if_neg (by omega), if_neg (by omega)]; omega
  · rw [hq]; simp; rw [if_neg (by omega), if_neg (by omega)]; omega
  · intro j hj
    have e0 : ∀ i, ¬ i = 0 → ¬ i = 9 + dr 0 → ¬ i = 4 + dr 0 → q i = dr i := fun i a b c => by rw [hq, if_neg a, if_neg b, if_neg c]
    by_cases e : j = n
    · rw [if_pos e, if_pos e]
      refine ⟨?_, ?_⟩
      · rw [hq, if_neg (by omega), if_neg (by omega), if_pos (by omega)]
      · rw [hq, if_neg (by omega), if_pos (by omega)]
    · rw [if_neg e, if_neg e, e0 (4 + j) (by omega) (by omega) (by omega), e0 (9 + j) (by omega) (by omega) (by omega)]
      exact hw j (by omega)
  · intro j hj
    by_cases e : j = n
    · rw [if_pos (by omega), if_pos e]
    · rw [if_neg (by omega), if_neg e]
      exact hb j hj
  · intro c hc'
    rw [if_neg (by omega)]
    exact hc c hc'
  · refine ⟨fun j hj hj2 => ?_, fun j hj hj2 => ?_⟩
    · have e1 : ∀ i, ¬ i = 0 → ¬ i = 9 + dr 0 → ¬ i = 4 + dr 0 → q i = dr i := fun i a b c => by rw [hq, if_neg a, if_neg b, if_neg c]
      rw [if_neg (by omega), e1 (4 + j) (by omega) (by omega) (by omega), e1 (9 + j) (by omega) (by omega) (by omega)]
      exact hz.1 j (by omega) hj2
    · rw [if_neg (by omega)]
      exact hz.2 j hj hj2
  · rw [hq]; simp; rw [if_neg (by omega), if_neg (by omega)]
theorem psm_S {dr be : Nat → Nat} {ps : PS} (h : PSM dr be ps) (hn : ps.2.2.1 ≤ 5) (x : Nat) (q : Nat → Nat) (hq : ∀ j, q j = va_up (va_up dr 3 1) 1 x j) : PSM q be (upS ps x) ∧ q 2 = dr 2 := by
  obtain ⟨w, v, n, k, s, wh, de⟩ := ps
  simp only [PSM, upS] at h ⊢
  obtain ⟨h0, h1, h3, hw, hb, hc, hz⟩ := h
  simp only at hn
  simp only [va_up] at hq
  refine ⟨⟨?_, ?_, ?_, ?_, hb, hc, ?_⟩, ?_⟩
  · rw [hq]; exact h0
  · rw [hq]; rfl
  · rw [hq]; rfl
  · intro j hj
    rw [hq, hq, if_neg (by omega), if_neg (by omega), if_neg (by omega), if_neg (by omega)]
    exact hw j hj
  · refine ⟨fun j hj hj2 => ?_, hz.2⟩
    have hz1 := hz.1 j hj hj2
    rw [hq, hq, if_neg (by omega), if_neg (by omega), if_neg (by omega), if_neg (by omega)]
    exact hz1
  · rw [hq]; rfl
theorem psm_F {dr be : Nat → Nat} {ps : PS} (h : PSM dr be ps) (x y z : Nat) (hx : x ≤ 5) (hy : y ≤ 5) : PSM dr (va_up be (5 + 6 * x + y) z) (upF ps x y z) := by
  obtain ⟨w, v, n, k, s, wh, de⟩ := ps
  simp only [PSM, upF] at h ⊢
  obtain ⟨h0, h1, h3, hw, hb, hc, hz⟩ := h
  simp only [va_up]
  refine ⟨h0, h1, h3, hw, ?_, ?_, hz.1, fun j hj hj2 => ?_⟩
  · intro j hj
    rw [if_neg (by omega)]
    exact hb j hj
  · intro c hc'
    by_cases e : c = 6 * x + y
    · rw [if_pos (by omega), if_pos e]
    · rw [if_neg (by omega), if_neg e]
      exact hc c hc'
  · rw [if_neg (by omega)]
    exact hz.2 j hj hj2
/-- an item without its last token -/
def itemM (T : Nat → Nat) (len kd : Nat) (ps : PS) (p ts : Nat) (r : Nat ⊕ (PS × Nat)) : Prop := itemf T len kd ps p ts = (match r with
  | .inl q => .inl q
  | .inr z => (match rdN T len [] z.2 with
    | .inl q => .inl q
    | .inr y => .inr (z.1, y.2)))
theorem itemM_p {T : Nat → Nat} {len kd p ts q1 e1 v1 q2 e2 v2 q3 e3 v3 q4 e4 v4 : Nat} {ps : PS} (hk : kd = 112) (hn : ps.2.2.1 < 5) (t1 : tokf T len p = (q1, e1, 1, v1)) (t2 : tokf T len e1 = (q2, e2, 1, v2)) (t3 : tokf T len e2 = (q3, e3, 1, v3)) (t4 : tokf T len e3 = (q4, e4, 1, v4)) (h1 : v1 ≤ 5) (h2 : v2 ≤ 5) (h3 : 1 ≤ v3 ∧ v3 ≤ 4) (h4 : v4 ≤ 9) : itemM T len kd ps p ts (.inr (upP ps v1 v2 v3 v4, e4)) := by
  simp only [itemM, itemf]
  rw [if_pos hk, if_pos hn, rdN_ok t1 (by omega), rdN_ok t2 (by omega), rdN_ok t3 (by omega), rdN_ok t4 (by omega)]
  cases rdN T len [] e4 <;> rfl
theorem itemM_s {T : Nat → Nat} {len kd p ts q1 e1 v1 : Nat} {ps : PS} (hk : kd = 115) (hn : ps.2.2.2.2.1 = 0) (t1 : tokf T len p = (q1, e1, 1, v1)) (h1 : 1 ≤ v1 ∧ v1 ≤ 9) : itemM T len kd ps p ts (.inr (upS ps v1, e1)) := by
  simp only [itemM, itemf]
  rw [if_neg (by omega), if_pos hk, if_pos hn, rdN_ok t1 (by omega)]
  cases rdN T len [] e1 <;> rfl
theorem itemM_f {T : Nat → Nat} {len kd p ts q1 e1 v1 q2 e2 v2 q3 e3 v3 : Nat} {ps : PS} (hk : kd = 102) (t1 : tokf T len p = (q1, e1, 1, v1)) (t2 : tokf T len e1 = (q2, e2, 1, v2)) (t3 : tokf T len e2 = (q3, e3, 1, v3)) (h1 : v1 ≤ 5) (h2 : v2 ≤ 5) (h3 : v3 ≤ 9) : itemM T len kd ps p ts (.inr (upF ps v1 v2 v3, e3)) := by
  simp only [itemM, itemf]
  rw [if_neg (by omega), if_neg (by omega), if_pos hk, rdN_ok t1 (by omega), rdN_ok t2 (by omega), rdN_ok t3 (by omega)]
  cases rdN T len [] e3 <;> rfl
theorem itemM_px {T : Nat → Nat} {len kd p ts q : Nat} {ps : PS} (hk : kd = 112) (h : (¬ ps.2.2.1 < 5 ∧ q = ts) ∨ (ps.2.2.1 < 5 ∧ rdN T len rgP p = .inl q)) : itemM T len kd ps p ts (.inl q) := by
  simp only [itemM, itemf]
  rw [if_pos hk]
  rcases h with ⟨h, rfl⟩ | ⟨h, h2⟩
  · rw [if_neg h]
  · rw [if_pos h, h2]
theorem itemM_sx {T : Nat → Nat} {len kd p ts q : Nat} {ps : PS} (hk : kd = 115) (h : (¬ ps.2.2.2.2.1 = 0 ∧ q = ts) ∨ (ps.2.2.2.2.1 = 0 ∧ rdN T len rgS p = .inl q)) : itemM T len kd ps p ts (.inl q) := by
  simp only [itemM, itemf]
  rw [if_neg (by omega), if_pos hk]
  rcases h with ⟨h, rfl⟩ | ⟨h, h2⟩
  · rw [if_neg h]
  · rw [if_pos h, h2]
theorem itemM_fx {T : Nat → Nat} {len kd p ts q : Nat} {ps : PS} (hk : kd = 102) (h2 : rdN T len rgF p = .inl q) : itemM T len kd ps p ts (.inl q) := by
  simp only [itemM, itemf]
  rw [if_neg (by omega), if_neg (by omega), if_pos hk, h2]
theorem itemM_x {T : Nat → Nat} {len kd p ts : Nat} {ps : PS} (hk : ¬ (kd = 112 ∨ kd = 115 ∨ kd = 102)) : itemM T len kd ps p ts (.inl ts) := by
  simp only [itemM, itemf]
  rw [if_neg (by omega), if_neg (by omega), if_neg (by omega)]
theorem rd_1 {T : Nat → Nat} {len p q e va q1 : Nat} {rs : List (Nat × Nat)} {lo hi : Nat} (h : tokf T len p = (q, e, 1, va)) (h1 : lo ≤ va ∧ va ≤ hi) (h2 : rdN T len rs e = .inl q1) : rdN T len ((lo, hi) :: rs) p = .inl q1 := by
  rw [rdN_ok h ⟨rfl, h1⟩, h2]
theorem nm_post {T : Nat → Nat} {ty p q e kd va b lo hi : Nat} {x : Int} {B : Prop} (h : tokf T ty p = (q, e, kd, va)) (h2 : (b = 1 ∧ kd = 1 ∧ (lo ≤ va ∧ va ≤ hi) ∧ x = (va : Nat)) ∨ (b = 0 ∧ ¬ (kd = 1 ∧ lo ≤ va ∧ va ≤ hi))) (hB : B) : ((b = 1 ∧ tokf T ty p = (q, e, 1, (tokf T ty p).2.2.2) ∧ (lo ≤ (tokf T ty p).2.2.2 ∧ (tokf T ty p).2.2.2 ≤ hi) ∧ x = ((tokf T ty p).2.2.2 : Nat)) ∨ (b = 0 ∧ tokf T ty p = (q, e, (tokf T ty p).2.2.1, (tokf T ty p).2.2.2) ∧ ¬ ((tokf T ty p).2.2.1 = 1 ∧ lo ≤ (tokf T ty p).2.2.2 ∧ (tokf T ty p).2.2.2 ≤ hi))) ∧ B := by
  refine ⟨?_, hB⟩
  simp only [h]
  rcases h2 with ⟨h3, rfl, h4⟩ | ⟨h3, h4⟩
  · exact Or.inl ⟨h3, rfl, h4⟩
  · exact Or.inr ⟨h3, trivial, h4⟩
set_option maxHeartbeats 4000000 in
set_option maxRecDepth 100000 in
theorem c_X12_number (l : Launch) (G : mvG) (a : Nat → Nat) (tx : Nat → Nat) (to : Nat → Nat) (dr : Nat → Nat) (be : Nat → Nat) (s : Nat → Nat) (pa : Nat → Nat) (im : Nat → Nat) (ke : Nat → Nat) (no : Nat → Nat) (fa : Nat → Nat) (tr : Nat) (ty : Nat) (kn : Nat) (nd : Nat) (att : Nat) (so : Nat) (ss : Nat) (va : Int) (lo : Nat) (hi : Nat) (hty : ty ≤ 100) (htx : ∀ j, tx j < 256) (hat : att ≤ ty) (hl : lo ≤ 9 ∧ hi ≤ 9) : KQ l yX12_number cX12_number 3 (some .boolean) (3, 63) G [.ref (a 0), .int (nI lo), .int (nI hi)] [gMod G a (nF tx) (nF to) (nF dr) (nF be) (nF s) (nF pa) (nF im) (nF ke) (nF no) (nF fa) (lN tr) (nI ty) (nI kn) (nI nd) (nI att) (nI so) (nI ss) (iI va)] (fun (zz : Nat × Nat × Nat × Nat × Int × Nat × Nat) => some (.int (nI zz.1))) (fun (zz : Nat × Nat × Nat × Nat × Int × Nat × Nat) => ((zz.1 = 1 ∧ tokf tx ty att = (zz.2.1, zz.2.2.1, 1, zz.2.2.2.2.2.2) ∧ (lo ≤ zz.2.2.2.2.2.2 ∧ zz.2.2.2.2.2.2 ≤ hi) ∧ zz.2.2.2.2.1 = (zz.2.2.2.2.2.2 : Nat)) ∨ (zz.1 = 0 ∧ tokf tx ty att = (zz.2.1, zz.2.2.1, zz.2.2.2.2.2.1, zz.2.2.2.2.2.2) ∧ ¬ (zz.2.2.2.2.2.1 = 1 ∧ lo ≤ zz.2.2.2.2.2.2 ∧ zz.2.2.2.2.2.2 ≤ hi))) ∧ zz.2.2.2.2.1 ≤ 1000 ∧ -1 ≤ zz.2.2.2.2.1 ∧ zz.2.2.1 ≤ ty ∧ zz.2.1 ≤ ty ∧ att ≤ zz.2.2.1 ∧ zz.2.2.2.1 ≤ 4) (fun (zz : Nat × Nat × Nat × Nat × Int × Nat × Nat) => [gMod G a (nF tx) (nF to) (nF dr) (nF be) (nF s) (nF pa) (nF im) (nF ke) (nF no) (nF fa) (lN tr) (nI ty) (nI kn) (nI nd) (nI zz.2.2.1) (nI zz.2.2.2.1) (nI zz.2.1) (iI zz.2.2.2.2.1)]) := by
  refine KQ.mk (by decide +kernel) (fun _ _ => rfl) [some (.ref (a 0)), some (.int (nI lo)), some (.int (nI hi))] (Nat.le_of_ble_eq_true rfl) rfl (fun C X Y hC => ?_)
  subst hC
  refine V_aload_n X dX12_number_0 rfl ?_
  refine V_callV (rest := []) X (c_X12_token (Cl C) G a tx to dr be s pa im ke no fa tr ty kn nd att so ss va (by first | assumption | omega) (by first | assumption | omega) (by first | assumption | omega)) mi_X12_token kw_3_221 kw_3_223 kw_s_28 dX12_number_1 [0] rfl (by decide) 0 0 rfl rfl rfl rfl rfl rfl (by decide) (Nat.le_of_ble_eq_true rfl) ⟨rfl, rfl⟩ (fun u_ hu_7 => ?_)
  obtain ⟨p_1, q_2, o_3, x_4, kd_5, va_6⟩ := u_
  have hu_7 : (tokf tx ty att = (q_2, p_1, kd_5, va_6) ∧ clsM kd_5 va_6 o_3 x_4) ∧ x_4 ≤ 1000 ∧ p_1 ≤ ty ∧ q_2 ≤ ty ∧ att ≤ p_1 ∧ (o_3 = 0 ∨ att < p_1) ∧ o_3 ≤ 4 ∧ -1 ≤ x_4 := hu_7
  show V C 0 0 [gMod G a (nF tx) (nF to) (nF dr) (nF be) (nF s) (nF pa) (nF im) (nF ke) (nF no) (nF fa) (lN tr) (nI ty) (nI kn) (nI nd) (nI p_1) (nI o_3) (nI q_2) (iI x_4)] 4 [some (.ref (a 0)), some (.int (nI lo)), some (.int (nI hi))] []
  have ht := hu_7
  have hk : kd_5 = kd_5 := rfl
  have hc := ht.1.2
  simp only [clsM] at hc
  refine V_aload_n X dX12_number_4 rfl ?_
  refine V_get X fl_X12_73 0 0 rfl rfl rfl dX12_number_5 ?_
  refine V_iconst X (nI 2) dX12_number_8 (by decide) ?_
  refine V_icmp_neN X 28 dX12_number_9 (by decide) (by omega) (by decide) (fun c_8 => ?_) (fun c_8 => ?_)
  · refine V_iconst X (nI 0) dX12_number_28 (by decide) ?_
    exact V_iret X Y ⟨0, q_2, p_1, o_3, x_4, (tokf tx ty att).2.2.1, (tokf tx ty att).2.2.2⟩ (show ((0 = 1 ∧ tokf tx ty att = (q_2, p_1, 1, ((tokf tx ty att).2.2.2)) ∧ (lo ≤ ((tokf tx ty att).2.2.2) ∧ ((tokf tx ty att).2.2.2) ≤ hi) ∧ x_4 = (((tokf tx ty att).2.2.2) : Nat)) ∨ (0 = 0 ∧ tokf tx ty att = (q_2, p_1, ((tokf tx ty att).2.2.1), ((tokf tx ty att).2.2.2)) ∧ ¬ (((tokf tx ty att).2.2.1) = 1 ∧ lo ≤ ((tokf tx ty att).2.2.2) ∧ ((tokf tx ty att).2.2.2) ≤ hi))) ∧ x_4 ≤ 1000 ∧ -1 ≤ x_4 ∧ p_1 ≤ ty ∧ q_2 ≤ ty ∧ att ≤ p_1 ∧ o_3 ≤ 4 from nm_post ht.1.1 (by omega) (by omega)) rfl rfl rfl dX12_number_29
  · refine V_aload_n X dX12_number_12 rfl ?_
    refine V_get X fl_X12_76 0 0 rfl rfl rfl dX12_number_13 ?_
    refine V_iload_n X dX12_number_16 rfl ?_
    refine V_iload_n X dX12_number_17 rfl ?_
    refine V_callS (rest := []) X (c_X12_in (Cl C) G x_4 ((lo : Nat) : Int) ((hi : Nat) : Int) (by first | assumption | omega) (by first | assumption | omega) (by first | assumption | omega)) mi_X12_in kw_3_235 kw_3_236 dX12_number_18 [] rfl (by decide) rfl rfl (by decide) (Nat.le_of_ble_eq_true rfl) ⟨rfl, rfl⟩ (fun u_ hu_10 => ?_)
    obtain ⟨b_9, rfl⟩ : ∃ z, z = u_ := ⟨_, rfl⟩
    have hu_10 : (b_9 = 1 ∧ ((lo : Nat) : Int) ≤ x_4 ∧ x_4 ≤ ((hi : Nat) : Int)) ∨ (b_9 = 0 ∧ (x_4 < ((lo : Nat) : Int) ∨ ((hi : Nat) : Int) < x_4)) := hu_10
    show V C 0 0 [gMod G a (nF tx) (nF to) (nF dr) (nF be) (nF s) (nF pa) (nF im) (nF ke) (nF no) (nF fa) (lN tr) (nI ty) (nI kn) (nI nd) (nI p_1) (nI o_3) (nI q_2) (iI x_4)] 21 [some (.ref (a 0)), some (.int (nI lo)), some (.int (nI hi))] [.int (nI b_9)]
    refine V_if_eqN X 28 dX12_number_21 (by decide) (by omega) (fun c_11 => ?_) (fun c_11 => ?_)
    · refine V_iconst X (nI 0) dX12_number_28 (by decide) ?_
      exact V_iret X Y ⟨0, q_2, p_1, o_3, x_4, (tokf tx ty att).2.2.1, (tokf tx ty att).2.2.2⟩ (show ((0 = 1 ∧ tokf tx ty att = (q_2, p_1, 1, ((tokf tx ty att).2.2.2)) ∧ (lo ≤ ((tokf tx ty att).2.2.2) ∧ ((tokf tx ty att).2.2.2) ≤ hi) ∧ x_4 = (((tokf tx ty att).2.2.2) : Nat)) ∨ (0 = 0 ∧ tokf tx ty att = (q_2, p_1, ((tokf tx ty att).2.2.1), ((tokf tx ty att).2.2.2)) ∧ ¬ (((tokf tx ty att).2.2.1) = 1 ∧ lo ≤ ((tokf tx ty att).2.2.2) ∧ ((tokf tx ty att).2.2.2) ≤ hi))) ∧ x_4 ≤ 1000 ∧ -1 ≤ x_4 ∧ p_1 ≤ ty ∧ q_2 ≤ ty ∧ att ≤ p_1 ∧ o_3 ≤ 4 from nm_post ht.1.1 (by omega) (by omega)) rfl rfl rfl dX12_number_29
    · refine V_iconst X (nI 1) dX12_number_24 (by decide) ?_
      refine V_goto X 29 dX12_number_25 (by decide) ?_
      exact V_iret X Y ⟨1, q_2, p_1, o_3, x_4, (tokf tx ty att).2.2.1, (tokf tx ty att).2.2.2⟩ (show ((1 = 1 ∧ tokf tx ty att = (q_2, p_1, 1, ((tokf tx ty att).2.2.2)) ∧ (lo ≤ ((tokf tx ty att).2.2.2) ∧ ((tokf tx ty att).2.2.2) ≤ hi) ∧ x_4 = (((tokf tx ty att).2.2.2) : Nat)) ∨ (1 = 0 ∧ tokf tx ty att = (q_2, p_1, ((tokf tx ty att).2.2.1), ((tokf tx ty att).2.2.2)) ∧ ¬ (((tokf tx ty att).2.2.1) = 1 ∧ lo ≤ ((tokf tx ty att).2.2.2) ∧ ((tokf tx ty att).2.2.2) ≤ hi))) ∧ x_4 ≤ 1000 ∧ -1 ≤ x_4 ∧ p_1 ≤ ty ∧ q_2 ≤ ty ∧ att ≤ p_1 ∧ o_3 ≤ 4 from nm_post ht.1.1 (by omega) (by omega)) rfl rfl rfl dX12_number_29
set_option maxHeartbeats 4000000 in
set_option maxRecDepth 100000 in
theorem c_X12_readsItem (l : Launch) (G : mvG) (a : Nat → Nat) (tx : Nat → Nat) (to : Nat → Nat) (dr : Nat → Nat) (be : Nat → Nat) (s : Nat → Nat) (pa : Nat → Nat) (im : Nat → Nat) (ke : Nat → Nat) (no : Nat → Nat) (fa : Nat → Nat) (tr : Nat) (ty : Nat) (kn : Nat) (nd : Nat) (att : Nat) (so : Nat) (ss : Nat) (va : Int) (ps : PS) (kd : Nat) (vv : Nat) (hty : ty ≤ 100) (htx : ∀ j, tx j < 256) (hat : att ≤ ty ∧ ss ≤ ty ∧ so ≤ 4 ∧ -1 ≤ va ∧ va ≤ 1000) (hcl : clsM kd vv so va) (hps : PSM dr be ps) (hpb : ps.2.2.1 ≤ 5 ∧ ps.2.2.2.2.1 ≤ 1) : KQ l yX12_readsItem cX12_readsItem 4 (some .boolean) (4, 85) G [.ref (a 0)] [gMod G a (nF tx) (nF to) (nF dr) (nF be) (nF s) (nF pa) (nF im) (nF ke) (nF no) (nF fa) (lN tr) (nI ty) (nI kn) (nI nd) (nI att) (nI so) (nI ss) (iI va)] (fun (zz : Nat × (Nat → Nat) × (Nat → Nat) × Nat × Nat × Nat × Int × PS) => some (.int (nI zz.1))) (fun (zz : Nat × (Nat → Nat) × (Nat → Nat) × Nat × Nat × Nat × Int × PS) => ((zz.1 = 1 ∧ itemM tx ty kd ps att ss (.inr (zz.2.2.2.2.2.2.2, zz.2.2.2.1)) ∧ PSM zz.2.1 zz.2.2.1 zz.2.2.2.2.2.2.2 ∧ zz.2.1 2 = dr 2 ∧ zz.2.2.2.2.2.2.2.2.2.1 ≤ 5 ∧ zz.2.2.2.2.2.2.2.2.2.2.2.1 ≤ 1) ∨ (zz.1 = 0 ∧ itemM tx ty kd ps att ss (.inl zz.2.2.2.2.1))) ∧ zz.2.2.2.2.2.2.1 ≤ 1000 ∧ -1 ≤ zz.2.2.2.2.2.2.1 ∧ zz.2.2.2.1 ≤ ty ∧ zz.2.2.2.2.1 ≤ ty ∧ att ≤ zz.2.2.2.1 ∧ zz.2.2.2.2.2.1 ≤ 4) (fun (zz : Nat × (Nat → Nat) × (Nat → Nat) × Nat × Nat × Nat × Int × PS) => [gMod G a (nF tx) (nF to) (nF zz.2.1) (nF zz.2.2.1) (nF s) (nF pa) (nF im) (nF ke) (nF no) (nF fa) (lN tr) (nI ty) (nI kn) (nI nd) (nI zz.2.2.2.1) (nI zz.2.2.2.2.2.1) (nI zz.2.2.2.2.1) (iI zz.2.2.2.2.2.2.1)]) := by
  refine KQ.mk (by decide +kernel) (fun _ _ => rfl) [some (.ref (a 0)), none, none, none] (Nat.le_of_ble_eq_true rfl) rfl (fun C X Y hC => ?_)
  subst hC
  have hp0 := hps.1
  have hp1 := hps.2.1
  have hp3 := hps.2.2.1
  simp only [clsM] at hcl
  refine V_aload_n X dX12_readsItem_0 rfl ?_
  refine V_get X fl_X12_73 0 0 rfl rfl rfl dX12_readsItem_1 ?_
  refine V_iconst X (nI 1) dX12_readsItem_4 (by decide) ?_
  have J_16_1 : ∀ (v : Int) (hv : (so = 1 ∧ v = va) ∨ (¬ so = 1 ∧ v = 0)), V C 0 0 [gMod G a (nF tx) (nF to) (nF dr) (nF be) (nF s) (nF pa) (nF im) (nF ke) (nF no) (nF fa) (lN tr) (nI ty) (nI kn) (nI nd) (nI att) (nI so) (nI ss) (iI va)] 16 [some (.ref (a 0)), none, none, none] [.int (iI v)] := by
    intro v hv
    refine V_istore_n X dX12_readsItem_16 (by decide) rfl ?_
    refine V_aload_n X dX12_readsItem_17 rfl ?_
    refine V_get X fl_X12_16 0 0 rfl rfl rfl dX12_readsItem_18 ?_
    refine V_iconst X (nI 0) dX12_readsItem_21 (by decide) ?_
    refine V_ialdN X 0 3 rfl rfl (by decide) (by decide) dX12_readsItem_22 ?_
    refine V_istore_n X dX12_readsItem_23 (by decide) rfl ?_
    refine V_iload_n X dX12_readsItem_24 rfl ?_
    by_cases c_2 : v = 102
    · refine V_lookup (off := 183) X 208 dX12_readsItem_25 (by decide) (by rw [show (iI v).toInt = v from (iI_toInt (by omega) (by omega)), c_2] <;> decide) (by decide) ?_
      refine V_aload_n X dX12_readsItem_208 rfl ?_
      refine V_iconst X (nI 0) dX12_readsItem_209 (by decide) ?_
      refine V_iconst X (nI 5) dX12_readsItem_210 (by decide) ?_
      refine V_callV (rest := []) X (c_X12_number (Cl C) G a tx to dr be s pa im ke no fa tr ty kn nd att so ss va 0 5 (by first | assumption | omega) (by first | assumption | omega) (by first | assumption | omega) (by first | assumption | omega)) mi_X12_number kw_4_2 kw_4_4 kw_s_31 dX12_readsItem_211 [0] rfl (by decide) 0 0 rfl rfl rfl rfl rfl rfl (by decide) (Nat.le_of_ble_eq_true rfl) ⟨rfl, rfl⟩ (fun u_ hu_12 => ?_)
      obtain ⟨b_5, q_6, p_7, o_8, x_9, kd_10, va_11⟩ := u_
      have hu_12 : ((b_5 = 1 ∧ tokf tx ty att = (q_6, p_7, 1, va_11) ∧ (0 ≤ va_11 ∧ va_11 ≤ 5) ∧ x_9 = (va_11 : Nat)) ∨ (b_5 = 0 ∧ tokf tx ty att = (q_6, p_7, kd_10, va_11) ∧ ¬ (kd_10 = 1 ∧ 0 ≤ va_11 ∧ va_11 ≤ 5))) ∧ x_9 ≤ 1000 ∧ -1 ≤ x_9 ∧ p_7 ≤ ty ∧ q_6 ≤ ty ∧ att ≤ p_7 ∧ o_8 ≤ 4 := hu_12
      show V C 0 0 [gMod G a (nF tx) (nF to) (nF dr) (nF be) (nF s) (nF pa) (nF im) (nF ke) (nF no) (nF fa) (lN tr) (nI ty) (nI kn) (nI nd) (nI p_7) (nI o_8) (nI q_6) (iI x_9)] 214 [some (.ref (a 0)), some (.int (iI v)), some (.int (nI (dr 0))), none] [.int (nI b_5)]
      have t211 := hu_12
      refine V_if_neN X 219 dX12_readsItem_214 (by decide) (by omega) (fun c_13 => ?_) (fun c_13 => ?_)
      · refine V_aload_n X dX12_readsItem_219 rfl ?_
        refine V_get X fl_X12_76 0 0 rfl rfl rfl dX12_readsItem_220 ?_
        refine V_topi (show (iI x_9) = (nI va_11) from (mv_zn (by omega))) ?_
        refine V_istore_n X dX12_readsItem_223 (by decide) rfl ?_
        refine V_aload_n X dX12_readsItem_224 rfl ?_
        refine V_iconst X (nI 0) dX12_readsItem_225 (by decide) ?_
        refine V_iconst X (nI 5) dX12_readsItem_226 (by decide) ?_
        refine V_callV (rest := []) X (c_X12_number (Cl C) G a tx to dr be s pa im ke no fa tr ty kn nd p_7 o_8 q_6 x_9 0 5 (by first | assumption | omega) (by first | assumption | omega) (by first | assumption | omega) (by first | assumption | omega)) mi_X12_number kw_4_2 kw_4_4 kw_s_31 dX12_readsItem_227 [0] rfl (by decide) 0 0 rfl rfl rfl rfl rfl rfl (by decide) (Nat.le_of_ble_eq_true rfl) ⟨rfl, rfl⟩ (fun u_ hu_21 => ?_)
        obtain ⟨b_14, q_15, p_16, o_17, x_18, kd_19, va_20⟩ := u_
        have hu_21 : ((b_14 = 1 ∧ tokf tx ty p_7 = (q_15, p_16, 1, va_20) ∧ (0 ≤ va_20 ∧ va_20 ≤ 5) ∧ x_18 = (va_20 : Nat)) ∨ (b_14 = 0 ∧ tokf tx ty p_7 = (q_15, p_16, kd_19, va_20) ∧ ¬ (kd_19 = 1 ∧ 0 ≤ va_20 ∧ va_20 ≤ 5))) ∧ x_18 ≤ 1000 ∧ -1 ≤ x_18 ∧ p_16 ≤ ty ∧ q_15 ≤ ty ∧ p_7 ≤ p_16 ∧ o_17 ≤ 4 := hu_21
        show V C 0 0 [gMod G a (nF tx) (nF to) (nF dr) (nF be) (nF s) (nF pa) (nF im) (nF ke) (nF no) (nF fa) (lN tr) (nI ty) (nI kn) (nI nd) (nI p_16) (nI o_17) (nI q_15) (iI x_18)] 230 [some (.ref (a 0)), some (.int (iI v)), some (.int (nI (dr 0))), some (.int (nI va_11))] [.int (nI b_14)]
        have t227 := hu_21
        refine V_if_neN X 235 dX12_readsItem_230 (by decide) (by omega) (fun c_22 => ?_) (fun c_22 => ?_)
        · refine V_iconst X (nI 5) dX12_readsItem_235 (by decide) ?_
          refine V_bipush X (nI 6) dX12_readsItem_236 (by decide) ?_
          refine V_iload_n X dX12_readsItem_238 rfl ?_
          refine V_imulN X dX12_readsItem_239 ?_
          refine V_iaddN X dX12_readsItem_240 ?_
          refine V_aload_n X dX12_readsItem_241 rfl ?_
          refine V_get X fl_X12_76 0 0 rfl rfl rfl dX12_readsItem_242 ?_
          refine V_two (show (nI (5 + (6 * va_11))) = iI ((5 + (6 * va_11) : Nat) : Int) from rfl) (show (iI x_18) = iI (x_18 : Int) from rfl) ?_
          refine V_iaddS X dX12_readsItem_245 ?_
          refine V_topi (show (iI (((5 + (6 * va_11) : Nat) : Int) + (x_18 : Int))) = (nI (5 + 6 * va_11 + va_20)) from (mv_zn (by omega))) ?_
          refine V_istore_n X dX12_readsItem_246 (by decide) rfl ?_
          refine V_aload_n X dX12_readsItem_247 rfl ?_
          refine V_iconst X (nI 0) dX12_readsItem_248 (by decide) ?_
          refine V_bipush X (nI 9) dX12_readsItem_249 (by decide) ?_
          refine V_callV (rest := []) X (c_X12_number (Cl C) G a tx to dr be s pa im ke no fa tr ty kn nd p_16 o_17 q_15 x_18 0 9 (by first | assumption | omega) (by first | assumption | omega) (by first | assumption | omega) (by first | assumption | omega)) mi_X12_number kw_4_2 kw_4_4 kw_s_31 dX12_readsItem_251 [0] rfl (by decide) 0 0 rfl rfl rfl rfl rfl rfl (by decide) (Nat.le_of_ble_eq_true rfl) ⟨rfl, rfl⟩ (fun u_ hu_30 => ?_)
          obtain ⟨b_23, q_24, p_25, o_26, x_27, kd_28, va_29⟩ := u_
          have hu_30 : ((b_23 = 1 ∧ tokf tx ty p_16 = (q_24, p_25, 1, va_29) ∧ (0 ≤ va_29 ∧ va_29 ≤ 9) ∧ x_27 = (va_29 : Nat)) ∨ (b_23 = 0 ∧ tokf tx ty p_16 = (q_24, p_25, kd_28, va_29) ∧ ¬ (kd_28 = 1 ∧ 0 ≤ va_29 ∧ va_29 ≤ 9))) ∧ x_27 ≤ 1000 ∧ -1 ≤ x_27 ∧ p_25 ≤ ty ∧ q_24 ≤ ty ∧ p_16 ≤ p_25 ∧ o_26 ≤ 4 := hu_30
          show V C 0 0 [gMod G a (nF tx) (nF to) (nF dr) (nF be) (nF s) (nF pa) (nF im) (nF ke) (nF no) (nF fa) (lN tr) (nI ty) (nI kn) (nI nd) (nI p_25) (nI o_26) (nI q_24) (iI x_27)] 254 [some (.ref (a 0)), some (.int (iI v)), some (.int (nI (dr 0))), some (.int (nI (5 + 6 * va_11 + va_20)))] [.int (nI b_23)]
          have t251 := hu_30
          refine V_if_neN X 259 dX12_readsItem_254 (by decide) (by omega) (fun c_31 => ?_) (fun c_31 => ?_)
          · refine V_aload_n X dX12_readsItem_259 rfl ?_
            refine V_get X fl_X12_19 0 0 rfl rfl rfl dX12_readsItem_260 ?_
            refine V_iload_n X dX12_readsItem_263 rfl ?_
            refine V_aload_n X dX12_readsItem_264 rfl ?_
            refine V_get X fl_X12_76 0 0 rfl rfl rfl dX12_readsItem_265 ?_
            refine V_topi (show (iI x_27) = (nI va_29) from (mv_zn (by omega))) ?_
            refine V_iastN X 0 4 rfl rfl (by omega) (by decide) dX12_readsItem_268 ?_
            show V C 0 0 [gMod G a (nF tx) (nF to) (nF dr) (nF (va_up be (5 + 6 * va_11 + va_20) va_29)) (nF s) (nF pa) (nF im) (nF ke) (nF no) (nF fa) (lN tr) (nI ty) (nI kn) (nI nd) (nI p_25) (nI o_26) (nI q_24) (iI x_27)] 269 [some (.ref (a 0)), some (.int (iI v)), some (.int (nI (dr 0))), some (.int (nI (5 + 6 * va_11 + va_20)))] []
            refine V_iconst X (nI 1) dX12_readsItem_269 (by decide) ?_
            exact V_iret X Y ⟨1, dr, va_up be (5 + 6 * va_11 + va_20) va_29, p_25, q_24, o_26, x_27, (upF ps va_11 va_20 va_29)⟩ (show ((1 = 1 ∧ itemM tx ty kd ps att ss (.inr ((upF ps va_11 va_20 va_29), p_25)) ∧ PSM dr (va_up be (5 + 6 * va_11 + va_20) va_29) (upF ps va_11 va_20 va_29) ∧ dr 2 = dr 2 ∧ (upF ps va_11 va_20 va_29).2.2.1 ≤ 5 ∧ (upF ps va_11 va_20 va_29).2.2.2.2.1 ≤ 1) ∨ (1 = 0 ∧ itemM tx ty kd ps att ss (.inl q_24))) ∧ x_27 ≤ 1000 ∧ -1 ≤ x_27 ∧ p_25 ≤ ty ∧ q_24 ≤ ty ∧ att ≤ p_25 ∧ o_26 ≤ 4 from ⟨Or.inl ⟨rfl, itemM_f (show kd = 102 by omega) (t211.1.resolve_right (by omega)).2.1 (t227.1.resolve_right (by omega)).2.1 (t251.1.resolve_right (by omega)).2.1 (by omega) (by omega) (by omega), psm_F hps va_11 va_20 va_29 (by omega) (by omega), rfl, by simp only [upF]; omega⟩, by omega⟩) rfl rfl rfl dX12_readsItem_270
          · refine V_iconst X (nI 0) dX12_readsItem_257 (by decide) ?_
            exact V_iret X Y ⟨0, dr, be, p_25, q_24, o_26, x_27, ps⟩ (show ((0 = 1 ∧ itemM tx ty kd ps att ss (.inr (ps, p_25)) ∧ PSM dr be ps ∧ dr 2 = dr 2 ∧ ps.2.2.1 ≤ 5 ∧ ps.2.2.2.2.1 ≤ 1) ∨ (0 = 0 ∧ itemM tx ty kd ps att ss (.inl q_24))) ∧ x_27 ≤ 1000 ∧ -1 ≤ x_27 ∧ p_25 ≤ ty ∧ q_24 ≤ ty ∧ att ≤ p_25 ∧ o_26 ≤ 4 from ⟨Or.inr ⟨rfl, itemM_fx (show kd = 102 by omega) (rd_1 (t211.1.resolve_right (by omega)).2.1 (t211.1.resolve_right (by omega)).2.2.1 (rd_1 (t227.1.resolve_right (by omega)).2.1 (t227.1.resolve_right (by omega)).2.2.1 (rdN_bad (t251.1.resolve_left (by omega)).2.1 (t251.1.resolve_left (by omega)).2.2)))⟩, by omega⟩) rfl rfl rfl dX12_readsItem_258
        · refine V_iconst X (nI 0) dX12_readsItem_233 (by decide) ?_
          exact V_iret X Y ⟨0, dr, be, p_16, q_15, o_17, x_18, ps⟩ (show ((0 = 1 ∧ itemM tx ty kd ps att ss (.inr (ps, p_16)) ∧ PSM dr be ps ∧ dr 2 = dr 2 ∧ ps.2.2.1 ≤ 5 ∧ ps.2.2.2.2.1 ≤ 1) ∨ (0 = 0 ∧ itemM tx ty kd ps att ss (.inl q_15))) ∧ x_18 ≤ 1000 ∧ -1 ≤ x_18 ∧ p_16 ≤ ty ∧ q_15 ≤ ty ∧ att ≤ p_16 ∧ o_17 ≤ 4 from ⟨Or.inr ⟨rfl, itemM_fx (show kd = 102 by omega) (rd_1 (t211.1.resolve_right (by omega)).2.1 (t211.1.resolve_right (by omega)).2.2.1 (rdN_bad (t227.1.resolve_left (by omega)).2.1 (t227.1.resolve_left (by omega)).2.2))⟩, by omega⟩) rfl rfl rfl dX12_readsItem_234
      · refine V_iconst X (nI 0) dX12_readsItem_217 (by decide) ?_
        exact V_iret X Y ⟨0, dr, be, p_7, q_6, o_8, x_9, ps⟩ (show ((0 = 1 ∧ itemM tx ty kd ps att ss (.inr (ps, p_7)) ∧ PSM dr be ps ∧ dr 2 = dr 2 ∧ ps.2.2.1 ≤ 5 ∧ ps.2.2.2.2.1 ≤ 1) ∨ (0 = 0 ∧ itemM tx ty kd ps att ss (.inl q_6))) ∧ x_9 ≤ 1000 ∧ -1 ≤ x_9 ∧ p_7 ≤ ty ∧ q_6 ≤ ty ∧ att ≤ p_7 ∧ o_8 ≤ 4 from ⟨Or.inr ⟨rfl, itemM_fx (show kd = 102 by omega) (rdN_bad (t211.1.resolve_left (by omega)).2.1 (t211.1.resolve_left (by omega)).2.2)⟩, by omega⟩) rfl rfl rfl dX12_readsItem_218
    · by_cases c_3 : v = 112
      · refine V_lookup (off := 35) X 60 dX12_readsItem_25 (by decide) (by rw [show (iI v).toInt = v from (iI_toInt (by omega) (by omega)), c_3] <;> decide) (by decide) ?_
        refine V_iload_n X dX12_readsItem_60 rfl ?_
        refine V_iconst X (nI 5) dX12_readsItem_61 (by decide) ?_
        refine V_icmp_eqN X 74 dX12_readsItem_62 (by decide) (by omega) (by decide) (fun c_32 => ?_) (fun c_32 => ?_)
        · refine V_iconst X (nI 0) dX12_readsItem_74 (by decide) ?_
          exact V_iret X Y ⟨0, dr, be, att, ss, so, va, ps⟩ (show ((0 = 1 ∧ itemM tx ty kd ps att ss (.inr (ps, att)) ∧ PSM dr be ps ∧ dr 2 = dr 2 ∧ ps.2.2.1 ≤ 5 ∧ ps.2.2.2.2.1 ≤ 1) ∨ (0 = 0 ∧ itemM tx ty kd ps att ss (.inl ss))) ∧ va ≤ 1000 ∧ -1 ≤ va ∧ att ≤ ty ∧ ss ≤ ty ∧ att ≤ att ∧ so ≤ 4 from ⟨Or.inr ⟨rfl, by first | exact itemM_px (show kd = 112 by omega) (Or.inr ⟨by omega, rdN_bad (t68.1.resolve_left (by omega)).2.1 (t68.1.resolve_left (by omega)).2.2⟩) | exact itemM_px (show kd = 112 by omega) (Or.inl ⟨by omega, rfl⟩)⟩, by omega⟩) rfl rfl rfl dX12_readsItem_75
        · refine V_aload_n X dX12_readsItem_65 rfl ?_
          refine V_iconst X (nI 0) dX12_readsItem_66 (by decide) ?_
          refine V_iconst X (nI 5) dX12_readsItem_67 (by decide) ?_
          refine V_callV (rest := []) X (c_X12_number (Cl C) G a tx to dr be s pa im ke no fa tr ty kn nd att so ss va 0 5 (by first | assumption | omega) (by first | assumption | omega) (by first | assumption | omega) (by first | assumption | omega)) mi_X12_number kw_4_2 kw_4_4 kw_s_31 dX12_readsItem_68 [0] rfl (by decide) 0 0 rfl rfl rfl rfl rfl rfl (by decide) (Nat.le_of_ble_eq_true rfl) ⟨rfl, rfl⟩ (fun u_ hu_40 => ?_)
          obtain ⟨b_33, q_34, p_35, o_36, x_37, kd_38, va_39⟩ := u_
          have hu_40 : ((b_33 = 1 ∧ tokf tx ty att = (q_34, p_35, 1, va_39) ∧ (0 ≤ va_39 ∧ va_39 ≤ 5) ∧ x_37 = (va_39 : Nat)) ∨ (b_33 = 0 ∧ tokf tx ty att = (q_34, p_35, kd_38, va_39) ∧ ¬ (kd_38 = 1 ∧ 0 ≤ va_39 ∧ va_39 ≤ 5))) ∧ x_37 ≤ 1000 ∧ -1 ≤ x_37 ∧ p_35 ≤ ty ∧ q_34 ≤ ty ∧ att ≤ p_35 ∧ o_36 ≤ 4 := hu_40
          show V C 0 0 [gMod G a (nF tx) (nF to) (nF dr) (nF be) (nF s) (nF pa) (nF im) (nF ke) (nF no) (nF fa) (lN tr) (nI ty) (nI kn) (nI nd) (nI p_35) (nI o_36) (nI q_34) (iI x_37)] 71 [some (.ref (a 0)), some (.int (iI v)), some (.int (nI (dr 0))), none] [.int (nI b_33)]
          have t68 := hu_40
          refine V_if_neN X 76 dX12_readsItem_71 (by decide) (by omega) (fun c_41 => ?_) (fun c_41 => ?_)
          · refine V_aload_n X dX12_readsItem_76 rfl ?_
            refine V_get X fl_X12_76 0 0 rfl rfl rfl dX12_readsItem_77 ?_
            refine V_topi (show (iI x_37) = (nI va_39) from (mv_zn (by omega))) ?_
            refine V_istore_n X dX12_readsItem_80 (by decide) rfl ?_
            refine V_aload_n X dX12_readsItem_81 rfl ?_
            refine V_iconst X (nI 0) dX12_readsItem_82 (by decide) ?_
            refine V_iconst X (nI 5) dX12_readsItem_83 (by decide) ?_
            refine V_callV (rest := []) X (c_X12_number (Cl C) G a tx to dr be s pa im ke no fa tr ty kn nd p_35 o_36 q_34 x_37 0 5 (by first | assumption | omega) (by first | assumption | omega) (by first | assumption | omega) (by first | assumption | omega)) mi_X12_number kw_4_2 kw_4_4 kw_s_31 dX12_readsItem_84 [0] rfl (by decide) 0 0 rfl rfl rfl rfl rfl rfl (by decide) (Nat.le_of_ble_eq_true rfl) ⟨rfl, rfl⟩ (fun u_ hu_49 => ?_)
            obtain ⟨b_42, q_43, p_44, o_45, x_46, kd_47, va_48⟩ := u_
            have hu_49 : ((b_42 = 1 ∧ tokf tx ty p_35 = (q_43, p_44, 1, va_48) ∧ (0 ≤ va_48 ∧ va_48 ≤ 5) ∧ x_46 = (va_48 : Nat)) ∨ (b_42 = 0 ∧ tokf tx ty p_35 = (q_43, p_44, kd_47, va_48) ∧ ¬ (kd_47 = 1 ∧ 0 ≤ va_48 ∧ va_48 ≤ 5))) ∧ x_46 ≤ 1000 ∧ -1 ≤ x_46 ∧ p_44 ≤ ty ∧ q_43 ≤ ty ∧ p_35 ≤ p_44 ∧ o_45 ≤ 4 := hu_49
            show V C 0 0 [gMod G a (nF tx) (nF to) (nF dr) (nF be) (nF s) (nF pa) (nF im) (nF ke) (nF no) (nF fa) (lN tr) (nI ty) (nI kn) (nI nd) (nI p_44) (nI o_45) (nI q_43) (iI x_46)] 87 [some (.ref (a 0)), some (.int (iI v)), some (.int (nI (dr 0))), some (.int (nI va_39))] [.int (nI b_42)]
            have t84 := hu_49
            refine V_if_neN X 92 dX12_readsItem_87 (by decide) (by omega) (fun c_50 => ?_) (fun c_50 => ?_)
            · refine V_aload_n X dX12_readsItem_92 rfl ?_
              refine V_get X fl_X12_19 0 0 rfl rfl rfl dX12_readsItem_93 ?_
              refine V_iload_n X dX12_readsItem_96 rfl ?_
              refine V_bipush X (nI 6) dX12_readsItem_97 (by decide) ?_
              refine V_iload_n X dX12_readsItem_99 rfl ?_
              refine V_imulN X dX12_readsItem_100 ?_
              refine V_aload_n X dX12_readsItem_101 rfl ?_
              refine V_get X fl_X12_76 0 0 rfl rfl rfl dX12_readsItem_102 ?_
              refine V_two (show (nI (6 * va_39)) = iI ((6 * va_39 : Nat) : Int) from rfl) (show (iI x_46) = iI (x_46 : Int) from rfl) ?_
              refine V_iaddS X dX12_readsItem_105 ?_
              refine V_topi (show (iI (((6 * va_39 : Nat) : Int) + (x_46 : Int))) = (nI (6 * va_39 + va_48)) from (mv_zn (by omega))) ?_
              refine V_iastN X 0 4 rfl rfl (by omega) (by decide) dX12_readsItem_106 ?_
              show V C 0 0 [gMod G a (nF tx) (nF to) (nF dr) (nF (va_up be (dr 0) (6 * va_39 + va_48))) (nF s) (nF pa) (nF im) (nF ke) (nF no) (nF fa) (lN tr) (nI ty) (nI kn) (nI nd) (nI p_44) (nI o_45) (nI q_43) (iI x_46)] 107 [some (.ref (a 0)), some (.int (iI v)), some (.int (nI (dr 0))), some (.int (nI va_39))] []
              refine V_aload_n X dX12_readsItem_107 rfl ?_
              refine V_iconst X (nI 1) dX12_readsItem_108 (by decide) ?_
              refine V_iconst X (nI 4) dX12_readsItem_109 (by decide) ?_
              refine V_callV (rest := []) X (c_X12_number (Cl C) G a tx to dr (va_up be (dr 0) (6 * va_39 + va_48)) s pa im ke no fa tr ty kn nd p_44 o_45 q_43 x_46 1 4 (by first | assumption | omega) (by first | assumption | omega) (by first | assumption | omega) (by first | assumption | omega)) mi_X12_number kw_4_2 kw_4_4 kw_s_31 dX12_readsItem_110 [0] rfl (by decide) 0 0 rfl rfl rfl rfl rfl rfl (by decide) (Nat.le_of_ble_eq_true rfl) ⟨rfl, rfl⟩ (fun u_ hu_58 => ?_)
              obtain ⟨b_51, q_52, p_53, o_54, x_55, kd_56, va_57⟩ := u_
              have hu_58 : ((b_51 = 1 ∧ tokf tx ty p_44 = (q_52, p_53, 1, va_57) ∧ (1 ≤ va_57 ∧ va_57 ≤ 4) ∧ x_55 = (va_57 : Nat)) ∨ (b_51 = 0 ∧ tokf tx ty p_44 = (q_52, p_53, kd_56, va_57) ∧ ¬ (kd_56 = 1 ∧ 1 ≤ va_57 ∧ va_57 ≤ 4))) ∧ x_55 ≤ 1000 ∧ -1 ≤ x_55 ∧ p_53 ≤ ty ∧ q_52 ≤ ty ∧ p_44 ≤ p_53 ∧ o_54 ≤ 4 := hu_58
              show V C 0 0 [gMod G a (nF tx) (nF to) (nF dr) (nF (va_up be (dr 0) (6 * va_39 + va_48))) (nF s) (nF pa) (nF im) (nF ke) (nF no) (nF fa) (lN tr) (nI ty) (nI kn) (nI nd) (nI p_53) (nI o_54) (nI q_52) (iI x_55)] 113 [some (.ref (a 0)), some (.int (iI v)), some (.int (nI (dr 0))), some (.int (nI va_39))] [.int (nI b_51)]
              have t110 := hu_58
              refine V_if_neN X 118 dX12_readsItem_113 (by decide) (by omega) (fun c_59 => ?_) (fun c_59 => ?_)
              · refine V_aload_n X dX12_readsItem_118 rfl ?_
                refine V_get X fl_X12_16 0 0 rfl rfl rfl dX12_readsItem_119 ?_
                refine V_iconst X (nI 4) dX12_readsItem_122 (by decide) ?_
                refine V_iload_n X dX12_readsItem_123 rfl ?_
                refine V_iaddN X dX12_readsItem_124 ?_
                refine V_aload_n X dX12_readsItem_125 rfl ?_
                refine V_get X fl_X12_76 0 0 rfl rfl rfl dX12_readsItem_126 ?_
                refine V_topi (show (iI x_55) = (nI va_57) from (mv_zn (by omega))) ?_
                refine V_iastN X 0 3 rfl rfl (by omega) (by decide) dX12_readsItem_129 ?_
                show V C 0 0 [gMod G a (nF tx) (nF to) (nF (va_up dr (4 + (dr 0)) va_57)) (nF (va_up be (dr 0) (6 * va_39 + va_48))) (nF s) (nF pa) (nF im) (nF ke) (nF no) (nF fa) (lN tr) (nI ty) (nI kn) (nI nd) (nI p_53) (nI o_54) (nI q_52) (iI x_55)] 130 [some (.ref (a 0)), some (.int (iI v)), some (.int (nI (dr 0))), some (.int (nI va_39))] []
                refine V_aload_n X dX12_readsItem_130 rfl ?_
                refine V_iconst X (nI 0) dX12_readsItem_131 (by decide) ?_
                refine V_bipush X (nI 9) dX12_readsItem_132 (by decide) ?_
                refine V_callV (rest := []) X (c_X12_number (Cl C) G a tx to (va_up dr (4 + (dr 0)) va_57) (va_up be (dr 0) (6 * va_39 + va_48)) s pa im ke no fa tr ty kn nd p_53 o_54 q_52 x_55 0 9 (by first | assumption | omega) (by first | assumption | omega) (by first | assumption | omega) (by first | assumption | omega)) mi_X12_number kw_4_2 kw_4_4 kw_s_31 dX12_readsItem_134 [0] rfl (by decide) 0 0 rfl rfl rfl rfl rfl rfl (by decide) (Nat.le_of_ble_eq_true rfl) ⟨rfl, rfl⟩ (fun u_ hu_67 => ?_)
                obtain ⟨b_60, q_61, p_62, o_63, x_64, kd_65, va_66⟩ := u_
                have hu_67 : ((b_60 = 1 ∧ tokf tx ty p_53 = (q_61, p_62, 1, va_66) ∧ (0 ≤ va_66 ∧ va_66 ≤ 9) ∧ x_64 = (va_66 : Nat)) ∨ (b_60 = 0 ∧ tokf tx ty p_53 = (q_61, p_62, kd_65, va_66) ∧ ¬ (kd_65 = 1 ∧ 0 ≤ va_66 ∧ va_66 ≤ 9))) ∧ x_64 ≤ 1000 ∧ -1 ≤ x_64 ∧ p_62 ≤ ty ∧ q_61 ≤ ty ∧ p_53 ≤ p_62 ∧ o_63 ≤ 4 := hu_67
                show V C 0 0 [gMod G a (nF tx) (nF to) (nF (va_up dr (4 + (dr 0)) va_57)) (nF (va_up be (dr 0) (6 * va_39 + va_48))) (nF s) (nF pa) (nF im) (nF ke) (nF no) (nF fa) (lN tr) (nI ty) (nI kn) (nI nd) (nI p_62) (nI o_63) (nI q_61) (iI x_64)] 137 [some (.ref (a 0)), some (.int (iI v)), some (.int (nI (dr 0))), some (.int (nI va_39))] [.int (nI b_60)]
                have t134 := hu_67
                refine V_if_neN X 142 dX12_readsItem_137 (by decide) (by omega) (fun c_68 => ?_) (fun c_68 => ?_)
                · refine V_aload_n X dX12_readsItem_142 rfl ?_
                  refine V_get X fl_X12_16 0 0 rfl rfl rfl dX12_readsItem_143 ?_
                  refine V_bipush X (nI 9) dX12_readsItem_146 (by decide) ?_
                  refine V_iload_n X dX12_readsItem_148 rfl ?_
                  refine V_iaddN X dX12_readsItem_149 ?_
                  refine V_aload_n X dX12_readsItem_150 rfl ?_
                  refine V_get X fl_X12_76 0 0 rfl rfl rfl dX12_readsItem_151 ?_
                  refine V_topi (show (iI x_64) = (nI va_66) from (mv_zn (by omega))) ?_
                  refine V_iastN X 0 3 rfl rfl (by omega) (by decide) dX12_readsItem_154 ?_
                  show V C 0 0 [gMod G a (nF tx) (nF to) (nF (va_up (va_up dr (4 + (dr 0)) va_57) (9 + (dr 0)) va_66)) (nF (va_up be (dr 0) (6 * va_39 + va_48))) (nF s) (nF pa) (nF im) (nF ke) (nF no) (nF fa) (lN tr) (nI ty) (nI kn) (nI nd) (nI p_62) (nI o_63) (nI q_61) (iI x_64)] 155 [some (.ref (a 0)), some (.int (iI v)), some (.int (nI (dr 0))), some (.int (nI va_39))] []
                  refine V_aload_n X dX12_readsItem_155 rfl ?_
                  refine V_get X fl_X12_16 0 0 rfl rfl rfl dX12_readsItem_156 ?_
                  refine V_iconst X (nI 0) dX12_readsItem_159 (by decide) ?_
                  refine V_dup2 X dX12_readsItem_160 rfl rfl ?_
                  refine V_ialdN X 0 3 rfl rfl (by decide) (by decide) dX12_readsItem_161 ?_
                  refine V_iconst X (nI 1) dX12_readsItem_162 (by decide) ?_
                  refine V_iaddN X dX12_readsItem_163 ?_
                  refine V_iastN X 0 3 rfl rfl (by decide) (by decide) dX12_readsItem_164 ?_
                  show V C 0 0 [gMod G a (nF tx) (nF to) (nF (va_up (va_up (va_up dr (4 + (dr 0)) va_57) (9 + (dr 0)) va_66) 0 (((va_up (va_up dr (4 + (dr 0)) va_57) (9 + (dr 0)) va_66) 0) + 1))) (nF (va_up be (dr 0) (6 * va_39 + va_48))) (nF s) (nF pa) (nF im) (nF ke) (nF no) (nF fa) (lN tr) (nI ty) (nI kn) (nI nd) (nI p_62) (nI o_63) (nI q_61) (iI x_64)] 165 [some (.ref (a 0)), some (.int (iI v)), some (.int (nI (dr 0))), some (.int (nI va_39))] []
                  refine V_iconst X (nI 1) dX12_readsItem_165 (by decide) ?_
                  exact V_iret X Y ⟨1, va_up (va_up (va_up dr (4 + (dr 0)) va_57) (9 + (dr 0)) va_66) 0 (((va_up (va_up dr (4 + (dr 0)) va_57) (9 + (dr 0)) va_66) 0) + 1), (va_up be (dr 0) (6 * va_39 + va_48)), p_62, q_61, o_63, x_64, (upP ps va_39 va_48 va_57 va_66)⟩ (show ((1 = 1 ∧ itemM tx ty kd ps att ss (.inr ((upP ps va_39 va_48 va_57 va_66), p_62)) ∧ PSM (va_up (va_up (va_up dr (4 + (dr 0)) va_57) (9 + (dr 0)) va_66) 0 (((va_up (va_up dr (4 + (dr 0)) va_57) (9 + (dr 0)) va_66) 0) + 1)) (va_up be (dr 0) (6 * va_39 + va_48)) (upP ps va_39 va_48 va_57 va_66) ∧ (va_up (va_up (va_up dr (4 + (dr 0)) va_57) (9 + (dr 0)) va_66) 0 (((va_up (va_up dr (4 + (dr 0)) va_57) (9 + (dr 0)) va_66) 0) + 1)) 2 = dr 2 ∧ (upP ps va_39 va_48 va_57 va_66).2.2.1 ≤ 5 ∧ (upP ps va_39 va_48 va_57 va_66).2.2.2.2.1 ≤ 1) ∨ (1 = 0 ∧ itemM tx ty kd ps att ss (.inl q_61))) ∧ x_64 ≤ 1000 ∧ -1 ≤ x_64 ∧ p_62 ≤ ty ∧ q_61 ≤ ty ∧ att ≤ p_62 ∧ o_63 ≤ 4 from ⟨Or.inl ⟨rfl, itemM_p (show kd = 112 by omega) (by omega) (t68.1.resolve_right (by omega)).2.1 (t84.1.resolve_right (by omega)).2.1 (t110.1.resolve_right (by omega)).2.1 (t134.1.resolve_right (by omega)).2.1 (by omega) (by omega) (by omega) (by omega), (psm_P hps (by omega) va_39 va_48 va_57 va_66 _ (fun _ => rfl)).1, (psm_P hps (by omega) va_39 va_48 va_57 va_66 _ (fun _ => rfl)).2, by simp only [upP]; omega⟩, by omega⟩) rfl rfl rfl dX12_readsItem_166
                · refine V_iconst X (nI 0) dX12_readsItem_140 (by decide) ?_
                  exact V_iret X Y ⟨0, (va_up dr (4 + (dr 0)) va_57), (va_up be (dr 0) (6 * va_39 + va_48)), p_62, q_61, o_63, x_64, ps⟩ (show ((0 = 1 ∧ itemM tx ty kd ps att ss (.inr (ps, p_62)) ∧ PSM (va_up dr (4 + (dr 0)) va_57) (va_up be (dr 0) (6 * va_39 + va_48)) ps ∧ (va_up dr (4 + (dr 0)) va_57) 2 = dr 2 ∧ ps.2.2.1 ≤ 5 ∧ ps.2.2.2.2.1 ≤ 1) ∨ (0 = 0 ∧ itemM tx ty kd ps att ss (.inl q_61))) ∧ x_64 ≤ 1000 ∧ -1 ≤ x_64 ∧ p_62 ≤ ty ∧ q_61 ≤ ty ∧ att ≤ p_62 ∧ o_63 ≤ 4 from ⟨Or.inr ⟨rfl, itemM_px (show kd = 112 by omega) (Or.inr ⟨by omega, rd_1 (t68.1.resolve_right (by omega)).2.1 (t68.1.resolve_right (by omega)).2.2.1 (rd_1 (t84.1.resolve_right (by omega)).2.1 (t84.1.resolve_right (by omega)).2.2.1 (rd_1 (t110.1.resolve_right (by omega)).2.1 (t110.1.resolve_right (by omega)).2.2.1 (rdN_bad (t134.1.resolve_left (by omega)).2.1 (t134.1.resolve_left (by omega)).2.2)))⟩)⟩, by omega⟩) rfl rfl rfl dX12_readsItem_141
              · refine V_iconst X (nI 0) dX12_readsItem_116 (by decide) ?_
                exact V_iret X Y ⟨0, dr, (va_up be (dr 0) (6 * va_39 + va_48)), p_53, q_52, o_54, x_55, ps⟩ (show ((0 = 1 ∧ itemM tx ty kd ps att ss (.inr (ps, p_53)) ∧ PSM dr (va_up be (dr 0) (6 * va_39 + va_48)) ps ∧ dr 2 = dr 2 ∧ ps.2.2.1 ≤ 5 ∧ ps.2.2.2.2.1 ≤ 1) ∨ (0 = 0 ∧ itemM tx ty kd ps att ss (.inl q_52))) ∧ x_55 ≤ 1000 ∧ -1 ≤ x_55 ∧ p_53 ≤ ty ∧ q_52 ≤ ty ∧ att ≤ p_53 ∧ o_54 ≤ 4 from ⟨Or.inr ⟨rfl, itemM_px (show kd = 112 by omega) (Or.inr ⟨by omega, rd_1 (t68.1.resolve_right (by omega)).2.1 (t68.1.resolve_right (by omega)).2.2.1 (rd_1 (t84.1.resolve_right (by omega)).2.1 (t84.1.resolve_right (by omega)).2.2.1 (rdN_bad (t110.1.resolve_left (by omega)).2.1 (t110.1.resolve_left (by omega)).2.2))⟩)⟩, by omega⟩) rfl rfl rfl dX12_readsItem_117
            · refine V_iconst X (nI 0) dX12_readsItem_90 (by decide) ?_
              exact V_iret X Y ⟨0, dr, be, p_44, q_43, o_45, x_46, ps⟩ (show ((0 = 1 ∧ itemM tx ty kd ps att ss (.inr (ps, p_44)) ∧ PSM dr be ps ∧ dr 2 = dr 2 ∧ ps.2.2.1 ≤ 5 ∧ ps.2.2.2.2.1 ≤ 1) ∨ (0 = 0 ∧ itemM tx ty kd ps att ss (.inl q_43))) ∧ x_46 ≤ 1000 ∧ -1 ≤ x_46 ∧ p_44 ≤ ty ∧ q_43 ≤ ty ∧ att ≤ p_44 ∧ o_45 ≤ 4 from ⟨Or.inr ⟨rfl, itemM_px (show kd = 112 by omega) (Or.inr ⟨by omega, rd_1 (t68.1.resolve_right (by omega)).2.1 (t68.1.resolve_right (by omega)).2.2.1 (rdN_bad (t84.1.resolve_left (by omega)).2.1 (t84.1.resolve_left (by omega)).2.2)⟩)⟩, by omega⟩) rfl rfl rfl dX12_readsItem_91
          · refine V_iconst X (nI 0) dX12_readsItem_74 (by decide) ?_
            exact V_iret X Y ⟨0, dr, be, p_35, q_34, o_36, x_37, ps⟩ (show ((0 = 1 ∧ itemM tx ty kd ps att ss (.inr (ps, p_35)) ∧ PSM dr be ps ∧ dr 2 = dr 2 ∧ ps.2.2.1 ≤ 5 ∧ ps.2.2.2.2.1 ≤ 1) ∨ (0 = 0 ∧ itemM tx ty kd ps att ss (.inl q_34))) ∧ x_37 ≤ 1000 ∧ -1 ≤ x_37 ∧ p_35 ≤ ty ∧ q_34 ≤ ty ∧ att ≤ p_35 ∧ o_36 ≤ 4 from ⟨Or.inr ⟨rfl, by first | exact itemM_px (show kd = 112 by omega) (Or.inr ⟨by omega, rdN_bad (t68.1.resolve_left (by omega)).2.1 (t68.1.resolve_left (by omega)).2.2⟩) | exact itemM_px (show kd = 112 by omega) (Or.inl ⟨by omega, rfl⟩)⟩, by omega⟩) rfl rfl rfl dX12_readsItem_75
      · by_cases c_4 : v = 115
        · refine V_lookup (off := 142) X 167 dX12_readsItem_25 (by decide) (by rw [show (iI v).toInt = v from (iI_toInt (by omega) (by omega)), c_4] <;> decide) (by decide) ?_
          refine V_aload_n X dX12_readsItem_167 rfl ?_
          refine V_get X fl_X12_16 0 0 rfl rfl rfl dX12_readsItem_168 ?_
          refine V_iconst X (nI 3) dX12_readsItem_171 (by decide) ?_
          refine V_ialdN X 0 3 rfl rfl (by decide) (by decide) dX12_readsItem_172 ?_
          refine V_iconst X (nI 1) dX12_readsItem_173 (by decide) ?_
          refine V_icmp_eqN X 187 dX12_readsItem_174 (by decide) (by omega) (by decide) (fun c_69 => ?_) (fun c_69 => ?_)
          · refine V_iconst X (nI 0) dX12_readsItem_187 (by decide) ?_
            exact V_iret X Y ⟨0, dr, be, att, ss, so, va, ps⟩ (show ((0 = 1 ∧ itemM tx ty kd ps att ss (.inr (ps, att)) ∧ PSM dr be ps ∧ dr 2 = dr 2 ∧ ps.2.2.1 ≤ 5 ∧ ps.2.2.2.2.1 ≤ 1) ∨ (0 = 0 ∧ itemM tx ty kd ps att ss (.inl ss))) ∧ va ≤ 1000 ∧ -1 ≤ va ∧ att ≤ ty ∧ ss ≤ ty ∧ att ≤ att ∧ so ≤ 4 from ⟨Or.inr ⟨rfl, by first | exact itemM_sx (show kd = 115 by omega) (Or.inr ⟨by omega, rdN_bad (t181.1.resolve_left (by omega)).2.1 (t181.1.resolve_left (by omega)).2.2⟩) | exact itemM_sx (show kd = 115 by omega) (Or.inl ⟨by omega, rfl⟩)⟩, by omega⟩) rfl rfl rfl dX12_readsItem_188
          · refine V_aload_n X dX12_readsItem_177 rfl ?_
            refine V_iconst X (nI 1) dX12_readsItem_178 (by decide) ?_
            refine V_bipush X (nI 9) dX12_readsItem_179 (by decide) ?_
            refine V_callV (rest := []) X (c_X12_number (Cl C) G a tx to dr be s pa im ke no fa tr ty kn nd att so ss va 1 9 (by first | assumption | omega) (by first | assumption | omega) (by first | assumption | omega) (by first | assumption | omega)) mi_X12_number kw_4_2 kw_4_4 kw_s_31 dX12_readsItem_181 [0] rfl (by decide) 0 0 rfl rfl rfl rfl rfl rfl (by decide) (Nat.le_of_ble_eq_true rfl) ⟨rfl, rfl⟩ (fun u_ hu_77 => ?_)
            obtain ⟨b_70, q_71, p_72, o_73, x_74, kd_75, va_76⟩ := u_
            have hu_77 : ((b_70 = 1 ∧ tokf tx ty att = (q_71, p_72, 1, va_76) ∧ (1 ≤ va_76 ∧ va_76 ≤ 9) ∧ x_74 = (va_76 : Nat)) ∨ (b_70 = 0 ∧ tokf tx ty att = (q_71, p_72, kd_75, va_76) ∧ ¬ (kd_75 = 1 ∧ 1 ≤ va_76 ∧ va_76 ≤ 9))) ∧ x_74 ≤ 1000 ∧ -1 ≤ x_74 ∧ p_72 ≤ ty ∧ q_71 ≤ ty ∧ att ≤ p_72 ∧ o_73 ≤ 4 := hu_77
            show V C 0 0 [gMod G a (nF tx) (nF to) (nF dr) (nF be) (nF s) (nF pa) (nF im) (nF ke) (nF no) (nF fa) (lN tr) (nI ty) (nI kn) (nI nd) (nI p_72) (nI o_73) (nI q_71) (iI x_74)] 184 [some (.ref (a 0)), some (.int (iI v)), some (.int (nI (dr 0))), none] [.int (nI b_70)]
            have t181 := hu_77
            refine V_if_neN X 189 dX12_readsItem_184 (by decide) (by omega) (fun c_78 => ?_) (fun c_78 => ?_)
            · refine V_aload_n X dX12_readsItem_189 rfl ?_
              refine V_get X fl_X12_16 0 0 rfl rfl rfl dX12_readsItem_190 ?_
              refine V_iconst X (nI 3) dX12_readsItem_193 (by decide) ?_
              refine V_iconst X (nI 1) dX12_readsItem_194 (by decide) ?_
              refine V_iastN X 0 3 rfl rfl (by decide) (by decide) dX12_readsItem_195 ?_
              show V C 0 0 [gMod G a (nF tx) (nF to) (nF (va_up dr 3 1)) (nF be) (nF s) (nF pa) (nF im) (nF ke) (nF no) (nF fa) (lN tr) (nI ty) (nI kn) (nI nd) (nI p_72) (nI o_73) (nI q_71) (iI x_74)] 196 [some (.ref (a 0)), some (.int (iI v)), some (.int (nI (dr 0))), none] []
              refine V_aload_n X dX12_readsItem_196 rfl ?_
              refine V_get X fl_X12_16 0 0 rfl rfl rfl dX12_readsItem_197 ?_
              refine V_iconst X (nI 1) dX12_readsItem_200 (by decide) ?_
              refine V_aload_n X dX12_readsItem_201 rfl ?_
              refine V_get X fl_X12_76 0 0 rfl rfl rfl dX12_readsItem_202 ?_
              refine V_topi (show (iI x_74) = (nI va_76) from (mv_zn (by omega))) ?_
              refine V_iastN X 0 3 rfl rfl (by decide) (by decide) dX12_readsItem_205 ?_
              show V C 0 0 [gMod G a (nF tx) (nF to) (nF (va_up (va_up dr 3 1) 1 va_76)) (nF be) (nF s) (nF pa) (nF im) (nF ke) (nF no) (nF fa) (lN tr) (nI ty) (nI kn) (nI nd) (nI p_72) (nI o_73) (nI q_71) (iI x_74)] 206 [some (.ref (a 0)), some (.int (iI v)), some (.int (nI (dr 0))), none] []
              refine V_iconst X (nI 1) dX12_readsItem_206 (by decide) ?_
              exact V_iret X Y ⟨1, va_up (va_up dr 3 1) 1 va_76, be, p_72, q_71, o_73, x_74, (upS ps va_76)⟩ (show ((1 = 1 ∧ itemM tx ty kd ps att ss (.inr ((upS ps va_76), p_72)) ∧ PSM (va_up (va_up dr 3 1) 1 va_76) be (upS ps va_76) ∧ (va_up (va_up dr 3 1) 1 va_76) 2 = dr 2 ∧ (upS ps va_76).2.2.1 ≤ 5 ∧ (upS ps va_76).2.2.2.2.1 ≤ 1) ∨ (1 = 0 ∧ itemM tx ty kd ps att ss (.inl q_71))) ∧ x_74 ≤ 1000 ∧ -1 ≤ x_74 ∧ p_72 ≤ ty ∧ q_71 ≤ ty ∧ att ≤ p_72 ∧ o_73 ≤ 4 from ⟨Or.inl ⟨rfl, itemM_s (show kd = 115 by omega) (by omega) (t181.1.resolve_right (by omega)).2.1 (by omega), (psm_S hps (by omega) va_76 _ (fun _ => rfl)).1, (psm_S hps (by omega) va_76 _ (fun _ => rfl)).2, by simp only [upS]; omega⟩, by omega⟩) rfl rfl rfl dX12_readsItem_207
            · refine V_iconst X (nI 0) dX12_readsItem_187 (by decide) ?_
              exact V_iret X Y ⟨0, dr, be, p_72, q_71, o_73, x_74, ps⟩ (show ((0 = 1 ∧ itemM tx ty kd ps att ss (.inr (ps, p_72)) ∧ PSM dr be ps ∧ dr 2 = dr 2 ∧ ps.2.2.1 ≤ 5 ∧ ps.2.2.2.2.1 ≤ 1) ∨ (0 = 0 ∧ itemM tx ty kd ps att ss (.inl q_71))) ∧ x_74 ≤ 1000 ∧ -1 ≤ x_74 ∧ p_72 ≤ ty ∧ q_71 ≤ ty ∧ att ≤ p_72 ∧ o_73 ≤ 4 from ⟨Or.inr ⟨rfl, by first | exact itemM_sx (show kd = 115 by omega) (Or.inr ⟨by omega, rdN_bad (t181.1.resolve_left (by omega)).2.1 (t181.1.resolve_left (by omega)).2.2⟩) | exact itemM_sx (show kd = 115 by omega) (Or.inl ⟨by omega, rfl⟩)⟩, by omega⟩) rfl rfl rfl dX12_readsItem_188
        · refine V_lookup (off := 246) X 271 dX12_readsItem_25 (by decide) (by rw [show (iI v).toInt = v from (iI_toInt (by omega) (by omega))]; exact mv_look3 (by omega) (by omega) (by omega)) (by decide) ?_
          refine V_iconst X (nI 0) dX12_readsItem_271 (by decide) ?_
          exact V_iret X Y ⟨0, dr, be, att, ss, so, va, ps⟩ (show ((0 = 1 ∧ itemM tx ty kd ps att ss (.inr (ps, att)) ∧ PSM dr be ps ∧ dr 2 = dr 2 ∧ ps.2.2.1 ≤ 5 ∧ ps.2.2.2.2.1 ≤ 1) ∨ (0 = 0 ∧ itemM tx ty kd ps att ss (.inl ss))) ∧ va ≤ 1000 ∧ -1 ≤ va ∧ att ≤ ty ∧ ss ≤ ty ∧ att ≤ att ∧ so ≤ 4 from ⟨Or.inr ⟨rfl, itemM_x (by omega)⟩, by omega⟩) rfl rfl rfl dX12_readsItem_272
  refine V_icmp_neN X 15 dX12_readsItem_5 (by decide) (by omega) (by decide) (fun c_1 => ?_) (fun c_1 => ?_)
  · refine V_iconst X (nI 0) dX12_readsItem_15 (by decide) ?_
    refine V_weak (lv' := [some (.ref (a 0)), none, none, none]) (And.intro rfl trivial) ?_
    exact J_16_1 0 (by omega)
  · refine V_aload_n X dX12_readsItem_8 rfl ?_
    refine V_get X fl_X12_76 0 0 rfl rfl rfl dX12_readsItem_9 ?_
    refine V_goto X 16 dX12_readsItem_12 (by decide) ?_
    refine V_weak (lv' := [some (.ref (a 0)), none, none, none]) (And.intro rfl trivial) ?_
    exact J_16_1 va (by omega)
