/-- the state is kept: the oldest of ten goes -/
def KP (s pa : Nat → Nat) (kn : Nat) (P : Nat → Nat) (k : Nat) : Prop := k = min 10 (kn + 1) ∧ (∀ j, j < 44 → P (44 * (k - 1) + j) = s j) ∧ (∀ i j, i + 1 < k → j < 44 → P (44 * i + j) = pa (44 * (i + (if kn = 10 then 1 else 0)) + j))
theorem KP_mk {s pa Q1 P : Nat → Nat} {kn m : Nat} (hj : (kn = 10 ∧ m = 9 ∧ ∀ j, j < 396 → Q1 j = pa (j + 44)) ∨ (kn < 10 ∧ m = kn ∧ Q1 = pa)) (h1 : ∀ j, j < 44 → P (44 * m + j) = s j) (h2 : ∀ i, i < 44 * m → P i = Q1 i) : KP s pa kn P (m + 1) := by
  refine ⟨by omega, fun j h => ?_, fun i j hi h => ?_⟩
  · exact h1 j h
  · rw [h2 (44 * i + j) (by omega)]
    rcases hj with ⟨h3, h4, h5⟩ | ⟨h3, h4, h5⟩
    · rw [h5 _ (by omega), if_pos h3, show 44 * i + j + 44 = 44 * (i + 1) + j by omega]
    · rw [h5, if_neg (by omega)]
      rfl
theorem KP_le {s pa P : Nat → Nat} {kn k : Nat} (h : KP s pa kn P k) : 1 ≤ k ∧ k ≤ 10 := by
  have := h.1
  omega
def prR (to s : Nat → Nat) (p : Nat) : Nat := min 9 (s (5 + s p) % 16 + to (4 + p))
def prS (to s : Nat → Nat) (p d : Nat) : Nat → Nat := va_up s (5 + s p) (prR to s p + 16 * (d + 1))
theorem prS_d {to s : Nat → Nat} {p d : Nat} (hp : p < 5) (h : s p < 36) (hdd : d < 4) : prS to s p d p = s p ∧ prS to s p d (5 + s p) % 16 = prR to s p := by
  simp only [prS, va_up, if_true, eq_self]
  rw [if_neg (by omega)]
  have : prR to s p ≤ 9 := Nat.min_le_left _ _
  refine ⟨rfl, by omega⟩
theorem hd_up {s : Nat → Nat} {i v : Nat} (h : ∀ c, c < 36 → s (5 + c) < 80 ∧ s (5 + c) % 16 ≤ 9) (hv : (v < 80 ∧ v % 16 ≤ 9) ∨ i < 5 ∨ 41 ≤ i) : ∀ c, c < 36 → va_up s i v (5 + c) < 80 ∧ va_up s i v (5 + c) % 16 ≤ 9 := by
  intro c hc
  have := h c hc
  simp only [va_up]
  by_cases e : 5 + c = i
  · rw [if_pos e]; omega
  · rw [if_neg e]; exact this
theorem hs_up {s : Nat → Nat} {i v : Nat} (h : ∀ j, j < 5 → s j < 36) (hv : v < 36 ∨ 5 ≤ i) : ∀ j, j < 5 → va_up s i v j < 36 := by
  intro j hj
  have := h j hj
  simp only [va_up]
  by_cases e : j = i
  · rw [if_pos e]; omega
  · rw [if_neg e]; exact this
theorem nb_9 {c d : Nat} (hc : c < 36) : nb c d = -9 ∨ (0 ≤ nb c d ∧ nb c d < 36) := by
  simp only [nb]
  (repeat' split) <;> omega
set_option maxHeartbeats 4000000 in
set_option maxRecDepth 100000 in
theorem c_X12_keeps (l : Launch) (G : mvG) (a : Nat → Nat) (tx : Nat → Nat) (to : Nat → Nat) (dr : Nat → Nat) (be : Nat → Nat) (s : Nat → Nat) (pa : Nat → Nat) (im : Nat → Nat) (ke : Nat → Nat) (no : Nat → Nat) (fa : Nat → Nat) (tr : Nat) (ty : Nat) (kn : Nat) (nd : Nat) (att : Nat) (so : Nat) (ss : Nat) (va : Int) (hkn : kn ≤ 10) : KQ l yX12_keeps cX12_keeps 2 none (0, 0) G [.ref (a 0)] [gMod G a (nF tx) (nF to) (nF dr) (nF be) (nF s) (nF pa) (nF im) (nF ke) (nF no) (nF fa) (lN tr) (nI ty) (nI kn) (nI nd) (nI att) (nI so) (nI ss) (iI va)] (fun (zz : (Nat → Nat) × Nat) => none) (fun (zz : (Nat → Nat) × Nat) => KP s pa kn zz.1 zz.2) (fun (zz : (Nat → Nat) × Nat) => [gMod G a (nF tx) (nF to) (nF dr) (nF be) (nF s) (nF zz.1) (nF im) (nF ke) (nF no) (nF fa) (lN tr) (nI ty) (nI zz.2) (nI nd) (nI att) (nI so) (nI ss) (iI va)]) := by
  refine KQ.mk (by decide +kernel) (fun _ _ => rfl) [some (.ref (a 0)), none] (Nat.le_of_ble_eq_true rfl) rfl (fun C X Y hC => ?_)
  subst hC
  refine V_aload_n X dX12_keeps_0 rfl ?_
  refine V_get X fl_X12_89 0 0 rfl rfl rfl dX12_keeps_1 ?_
  refine V_bipush X (nI 10) dX12_keeps_4 (by decide) ?_
  have J_49_1 : ∀ (Q1 : Nat → Nat) (m : Nat) (hj : (kn = 10 ∧ m = 9 ∧ ∀ j, j < 396 → Q1 j = pa (j + 44)) ∨ (kn < 10 ∧ m = kn ∧ Q1 = pa)), V C 0 0 [gMod G a (nF tx) (nF to) (nF dr) (nF be) (nF s) (nF Q1) (nF im) (nF ke) (nF no) (nF fa) (lN tr) (nI ty) (nI m) (nI nd) (nI att) (nI so) (nI ss) (iI va)] 49 [some (.ref (a 0)), none] [] := by
    intro Q1 m hj
    refine V_iconst X (nI 0) dX12_keeps_49 (by decide) ?_
    refine V_istore_n X dX12_keeps_50 (by decide) rfl ?_
    have L_51 : ∀ (fz_51 : Nat) (k : Nat) (Q2 : Nat → Nat) (hk : k ≤ 44) (hR : (∀ j, j < k → Q2 (44 * m + j) = s j) ∧ ∀ i, i < 44 * m → Q2 i = Q1 i), (44 - k) < fz_51 → V C 0 0 [gMod G a (nF tx) (nF to) (nF dr) (nF be) (nF s) (nF Q2) (nF im) (nF ke) (nF no) (nF fa) (lN tr) (nI ty) (nI m) (nI nd) (nI att) (nI so) (nI ss) (iI va)] 51 [some (.ref (a 0)), some (.int (nI k))] [] := by
      intro fz_51
      induction fz_51 with
      | zero => intro k Q2 hk hR hf_51; exact absurd hf_51 (Nat.not_lt_zero _)
      | succ fz_51 ih_51 =>
        intro k Q2 hk hR hf_51
        refine V_iload_n X dX12_keeps_51 rfl ?_
        refine V_bipush X (nI 44) dX12_keeps_52 (by decide) ?_
        refine V_icmp_geN X 83 dX12_keeps_54 (by decide) (by omega) (by decide) (fun c_2 => ?_) (fun c_2 => ?_)
        · refine V_aload_n X dX12_keeps_83 rfl ?_
          refine V_dup X dX12_keeps_84 rfl ?_
          refine V_get X fl_X12_89 0 0 rfl rfl rfl dX12_keeps_85 ?_
          refine V_iconst X (nI 1) dX12_keeps_88 (by decide) ?_
          refine V_iaddN X dX12_keeps_89 ?_
          refine V_put X fl_X12_89 0 0 rfl rfl rfl rfl (Nat.le_of_ble_eq_true rfl) dX12_keeps_90 ?_
          show V C 0 0 [gMod G a (nF tx) (nF to) (nF dr) (nF be) (nF s) (nF Q2) (nF im) (nF ke) (nF no) (nF fa) (lN tr) (nI ty) (nI (m + 1)) (nI nd) (nI att) (nI so) (nI ss) (iI va)] 93 [some (.ref (a 0)), some (.int (nI k))] []
          exact V_vret X Y ⟨Q2, m + 1⟩ (show KP s pa kn Q2 (m + 1) from (KP_mk hj (fun j h => hR.1 j (by omega)) hR.2)) rfl rfl dX12_keeps_93
        · refine V_aload_n X dX12_keeps_57 rfl ?_
          refine V_get X fl_X12_25 0 0 rfl rfl rfl dX12_keeps_58 ?_
          refine V_bipush X (nI 44) dX12_keeps_61 (by decide) ?_
          refine V_aload_n X dX12_keeps_63 rfl ?_
          refine V_get X fl_X12_89 0 0 rfl rfl rfl dX12_keeps_64 ?_
          refine V_imulN X dX12_keeps_67 ?_
          refine V_iload_n X dX12_keeps_68 rfl ?_
          refine V_iaddN X dX12_keeps_69 ?_
          refine V_aload_n X dX12_keeps_70 rfl ?_
          refine V_get X fl_X12_22 0 0 rfl rfl rfl dX12_keeps_71 ?_
          refine V_iload_n X dX12_keeps_74 rfl ?_
          refine V_ialdN X 0 5 rfl rfl (by omega) (by decide) dX12_keeps_75 ?_
          refine V_iastN X 0 6 rfl rfl (by omega) (by decide) dX12_keeps_76 ?_
          show V C 0 0 [gMod G a (nF tx) (nF to) (nF dr) (nF be) (nF s) (nF (va_up Q2 ((44 * m) + k) (s k))) (nF im) (nF ke) (nF no) (nF fa) (lN tr) (nI ty) (nI m) (nI nd) (nI att) (nI so) (nI ss) (iI va)] 77 [some (.ref (a 0)), some (.int (nI k))] []
          refine V_iincN X (c := 1) dX12_keeps_77 rfl (by decide) rfl ?_
          refine V_goto X 51 dX12_keeps_80 (by decide) ?_
          refine V_weak (lv' := [some (.ref (a 0)), some (.int (nI (k + 1)))]) (And.intro rfl (And.intro rfl trivial)) ?_
          exact ih_51 (k + 1) (va_up Q2 ((44 * m) + k) (s k)) (by omega) ⟨fun j h => (by simp only [va_up]; by_cases e : j = k; rw [if_pos (by omega), e]; rw [if_neg (by omega)]; exact hR.1 j (by omega)), fun i h => (by simp only [va_up]; rw [if_neg (by omega)]; exact hR.2 i h)⟩ (by omega)
    refine V_weak (lv' := [some (.ref (a 0)), some (.int (nI 0))]) (And.intro rfl (And.intro rfl trivial)) ?_
    exact L_51 _ 0 Q1 (by omega) ⟨fun j h => absurd h (Nat.not_lt_zero j), fun _ _ => rfl⟩ (Nat.lt_succ_self _)
  refine V_icmp_neN X 49 dX12_keeps_6 (by decide) (by omega) (by decide) (fun c_1 => ?_) (fun c_1 => ?_)
  · refine V_weak (lv' := [some (.ref (a 0)), none]) (And.intro rfl trivial) ?_
    exact J_49_1 pa kn (by first | exact Or.inr ⟨by omega, rfl, rfl⟩ | exact Or.inl ⟨by omega, by omega, fun j hj => hQ.1 j (by omega)⟩)
  · refine V_iconst X (nI 0) dX12_keeps_9 (by decide) ?_
    refine V_istore_n X dX12_keeps_10 (by decide) rfl ?_
    have L_11 : ∀ (fz_11 : Nat) (k : Nat) (Q : Nat → Nat) (hk : k ≤ 396) (hQ : (∀ j, j < k → Q j = pa (j + 44)) ∧ ∀ j, k ≤ j → Q j = pa j), (396 - k) < fz_11 → V C 0 0 [gMod G a (nF tx) (nF to) (nF dr) (nF be) (nF s) (nF Q) (nF im) (nF ke) (nF no) (nF fa) (lN tr) (nI ty) (nI kn) (nI nd) (nI att) (nI so) (nI ss) (iI va)] 11 [some (.ref (a 0)), some (.int (nI k))] [] := by
      intro fz_11
      induction fz_11 with
      | zero => intro k Q hk hQ hf_11; exact absurd hf_11 (Nat.not_lt_zero _)
      | succ fz_11 ih_11 =>
        intro k Q hk hQ hf_11
        refine V_iload_n X dX12_keeps_11 rfl ?_
        refine V_sipush X (nI 396) dX12_keeps_12 (by decide) ?_
        refine V_icmp_geN X 39 dX12_keeps_15 (by decide) (by omega) (by decide) (fun c_3 => ?_) (fun c_3 => ?_)
        · refine V_aload_n X dX12_keeps_39 rfl ?_
          refine V_dup X dX12_keeps_40 rfl ?_
          refine V_get X fl_X12_89 0 0 rfl rfl rfl dX12_keeps_41 ?_
          refine V_iconst X (nI 1) dX12_keeps_44 (by decide) ?_
          refine V_isubN X dX12_keeps_45 (by omega) ?_
          refine V_put X fl_X12_89 0 0 rfl rfl rfl rfl (Nat.le_of_ble_eq_true rfl) dX12_keeps_46 ?_
          show V C 0 0 [gMod G a (nF tx) (nF to) (nF dr) (nF be) (nF s) (nF Q) (nF im) (nF ke) (nF no) (nF fa) (lN tr) (nI ty) (nI (kn - 1)) (nI nd) (nI att) (nI so) (nI ss) (iI va)] 49 [some (.ref (a 0)), some (.int (nI k))] []
          refine V_weak (lv' := [some (.ref (a 0)), none]) (And.intro rfl trivial) ?_
          exact J_49_1 Q (kn - 1) (by first | exact Or.inr ⟨by omega, rfl, rfl⟩ | exact Or.inl ⟨by omega, by omega, fun j hj => hQ.1 j (by omega)⟩)
        · refine V_aload_n X dX12_keeps_18 rfl ?_
          refine V_get X fl_X12_25 0 0 rfl rfl rfl dX12_keeps_19 ?_
          refine V_iload_n X dX12_keeps_22 rfl ?_
          refine V_aload_n X dX12_keeps_23 rfl ?_
          refine V_get X fl_X12_25 0 0 rfl rfl rfl dX12_keeps_24 ?_
          refine V_iload_n X dX12_keeps_27 rfl ?_
          refine V_bipush X (nI 44) dX12_keeps_28 (by decide) ?_
          refine V_iaddN X dX12_keeps_30 ?_
          refine V_ialdN X 0 6 rfl rfl (by omega) (by decide) dX12_keeps_31 ?_
          refine V_iastN X 0 6 rfl rfl (by omega) (by decide) dX12_keeps_32 ?_
          show V C 0 0 [gMod G a (nF tx) (nF to) (nF dr) (nF be) (nF s) (nF (va_up Q k (Q (k + 44)))) (nF im) (nF ke) (nF no) (nF fa) (lN tr) (nI ty) (nI kn) (nI nd) (nI att) (nI so) (nI ss) (iI va)] 33 [some (.ref (a 0)), some (.int (nI k))] []
          refine V_iincN X (c := 1) dX12_keeps_33 rfl (by decide) rfl ?_
          refine V_goto X 11 dX12_keeps_36 (by decide) ?_
          refine V_weak (lv' := [some (.ref (a 0)), some (.int (nI (k + 1)))]) (And.intro rfl (And.intro rfl trivial)) ?_
          exact ih_11 (k + 1) (va_up Q k (Q (k + 44))) (by omega) ⟨fun j h => (by simp only [va_up]; by_cases e : j = k; rw [if_pos e, hQ.2 _ (by omega), e]; rw [if_neg e]; exact hQ.1 j (by omega)), fun j h => (by simp only [va_up]; rw [if_neg (by omega)]; exact hQ.2 j (by omega))⟩ (by omega)
    refine V_weak (lv' := [some (.ref (a 0)), some (.int (nI 0))]) (And.intro rfl (And.intro rfl trivial)) ?_
    exact L_11 _ 0 pa (by omega) ⟨fun j h => absurd h (Nat.not_lt_zero j), fun _ _ => rfl⟩ (Nat.lt_succ_self _)
set_option maxHeartbeats 4000000 in
set_option maxRecDepth 100000 in
theorem c_X12_prints (l : Launch) (G : mvG) (a : Nat → Nat) (tx : Nat → Nat) (to : Nat → Nat) (dr : Nat → Nat) (be : Nat → Nat) (s : Nat → Nat) (pa : Nat → Nat) (im : Nat → Nat) (ke : Nat → Nat) (no : Nat → Nat) (fa : Nat → Nat) (tr : Nat) (ty : Nat) (kn : Nat) (nd : Nat) (att : Nat) (so : Nat) (ss : Nat) (va : Int) (p : Nat) (d : Nat) (hde : ∀ c, c < 36 → s (5 + c) < 80 ∧ s (5 + c) % 16 ≤ 9) (hs : ∀ j, j < 5 → s j < 36) (hwt : ∀ j, j < 5 → to (4 + j) ≤ 4) (hp : p < 5) (hdd : d < 4) : KQ l yX12_prints cX12_prints 4 (some .int) (1, 21) G [.ref (a 0), .int (nI p), .int (nI d)] [gMod G a (nF tx) (nF to) (nF dr) (nF be) (nF s) (nF pa) (nF im) (nF ke) (nF no) (nF fa) (lN tr) (nI ty) (nI kn) (nI nd) (nI att) (nI so) (nI ss) (iI va)] (fun (zz : Nat × (Nat → Nat)) => some (.int (nI zz.1))) (fun (zz : Nat × (Nat → Nat)) => zz.1 = prR to s p ∧ zz.2 = prS to s p d) (fun (zz : Nat × (Nat → Nat)) => [gMod G a (nF tx) (nF to) (nF dr) (nF be) (nF zz.2) (nF pa) (nF im) (nF ke) (nF no) (nF fa) (lN tr) (nI ty) (nI kn) (nI nd) (nI att) (nI so) (nI ss) (iI va)]) := by
  refine KQ.mk (by decide +kernel) (fun _ _ => rfl) [some (.ref (a 0)), some (.int (nI p)), some (.int (nI d)), none] (Nat.le_of_ble_eq_true rfl) rfl (fun C X Y hC => ?_)
  subst hC
  have hsp := hs p hp
  have hwp := hwt p hp
  have hdp := hde (s p) hsp
  refine V_aload_n X dX12_prints_0 rfl ?_
  refine V_aload_n X dX12_prints_1 rfl ?_
  refine V_get X fl_X12_22 0 0 rfl rfl rfl dX12_prints_2 ?_
  refine V_iload_n X dX12_prints_5 rfl ?_
  refine V_ialdN X 0 5 rfl rfl (by omega) (by decide) dX12_prints_6 ?_
  refine V_callV (rest := []) X (c_X12_deep (Cl C) G a tx to dr be s pa im ke no fa tr ty kn nd att so ss va (s p) (by first | assumption | omega) (by first | assumption | omega)) mi_X12_deep kw_4_84 kw_4_86 kw_s_33 dX12_prints_7 [0] rfl (by decide) 0 0 rfl rfl rfl rfl rfl rfl (by decide) (Nat.le_of_ble_eq_true rfl) ⟨rfl, rfl⟩ (fun _ _ => ?_)
  show V C 0 0 [gMod G a (nF tx) (nF to) (nF dr) (nF be) (nF s) (nF pa) (nF im) (nF ke) (nF no) (nF fa) (lN tr) (nI ty) (nI kn) (nI nd) (nI att) (nI so) (nI ss) (iI va)] 10 [some (.ref (a 0)), some (.int (nI p)), some (.int (nI d)), none] [.int (nI (s (5 + (s p)) % 16))]
  refine V_aload_n X dX12_prints_10 rfl ?_
  refine V_get X fl_X12_13 0 0 rfl rfl rfl dX12_prints_11 ?_
  refine V_iconst X (nI 4) dX12_prints_14 (by decide) ?_
  refine V_iload_n X dX12_prints_15 rfl ?_
  refine V_iaddN X dX12_prints_16 ?_
  refine V_ialdN X 0 2 rfl rfl (by omega) (by decide) dX12_prints_17 ?_
  refine V_iaddN X dX12_prints_18 ?_
  refine V_istore_n X dX12_prints_19 (by decide) rfl ?_
  refine V_aload_n X dX12_prints_20 rfl ?_
  refine V_get X fl_X12_22 0 0 rfl rfl rfl dX12_prints_21 ?_
  refine V_iconst X (nI 5) dX12_prints_24 (by decide) ?_
  refine V_aload_n X dX12_prints_25 rfl ?_
  refine V_get X fl_X12_22 0 0 rfl rfl rfl dX12_prints_26 ?_
  refine V_iload_n X dX12_prints_29 rfl ?_
  refine V_ialdN X 0 5 rfl rfl (by omega) (by decide) dX12_prints_30 ?_
  refine V_iaddN X dX12_prints_31 ?_
  refine V_iload_n X dX12_prints_32 rfl ?_
  refine V_bipush X (nI 9) dX12_prints_33 (by decide) ?_
  have J_44_1 : ∀ (e : Nat) (he : e = prR to s p) (he9 : e ≤ 9), V C 0 0 [gMod G a (nF tx) (nF to) (nF dr) (nF be) (nF s) (nF pa) (nF im) (nF ke) (nF no) (nF fa) (lN tr) (nI ty) (nI kn) (nI nd) (nI att) (nI so) (nI ss) (iI va)] 44 [some (.ref (a 0)), some (.int (nI p)), some (.int (nI d)), some (.int (nI ((s (5 + (s p)) % 16) + (to (4 + p)))))] [.int (nI e), .int (nI (5 + (s p))), .ref (a 5)] := by
    intro e he he9
    refine V_bipush X (nI 16) dX12_prints_44 (by decide) ?_
    refine V_iload_n X dX12_prints_46 rfl ?_
    refine V_iconst X (nI 1) dX12_prints_47 (by decide) ?_
    refine V_iaddN X dX12_prints_48 ?_
    refine V_imulN X dX12_prints_49 ?_
    refine V_iaddN X dX12_prints_50 ?_
    refine V_iastN X 0 5 rfl rfl (by omega) (by decide) dX12_prints_51 ?_
    show V C 0 0 [gMod G a (nF tx) (nF to) (nF dr) (nF be) (nF (va_up s (5 + (s p)) (e + (16 * (d + 1))))) (nF pa) (nF im) (nF ke) (nF no) (nF fa) (lN tr) (nI ty) (nI kn) (nI nd) (nI att) (nI so) (nI ss) (iI va)] 52 [some (.ref (a 0)), some (.int (nI p)), some (.int (nI d)), some (.int (nI ((s (5 + (s p)) % 16) + (to (4 + p)))))] []
    refine V_aload_n X dX12_prints_52 rfl ?_
    refine V_aload_n X dX12_prints_53 rfl ?_
    refine V_get X fl_X12_22 0 0 rfl rfl rfl dX12_prints_54 ?_
    refine V_iload_n X dX12_prints_57 rfl ?_
    refine V_ialdN X 0 5 rfl rfl (by omega) (by decide) dX12_prints_58 ?_
    refine V_callV (rest := []) X (c_X12_deep (Cl C) G a tx to dr be (va_up s (5 + (s p)) (e + (16 * (d + 1)))) pa im ke no fa tr ty kn nd att so ss va ((va_up s (5 + (s p)) (e + (16 * (d + 1)))) p) (hs_up hs (by omega) p hp) (hd_up hde (by omega))) mi_X12_deep kw_4_84 kw_4_86 kw_s_33 dX12_prints_59 [0] rfl (by decide) 0 0 rfl rfl rfl rfl rfl rfl (by decide) (Nat.le_of_ble_eq_true rfl) ⟨rfl, rfl⟩ (fun _ _ => ?_)
    show V C 0 0 [gMod G a (nF tx) (nF to) (nF dr) (nF be) (nF (va_up s (5 + (s p)) (e + (16 * (d + 1))))) (nF pa) (nF im) (nF ke) (nF no) (nF fa) (lN tr) (nI ty) (nI kn) (nI nd) (nI att) (nI so) (nI ss) (iI va)] 62 [some (.ref (a 0)), some (.int (nI p)), some (.int (nI d)), some (.int (nI ((s (5 + (s p)) % 16) + (to (4 + p)))))] [.int (nI ((va_up s (5 + (s p)) (e + (16 * (d + 1)))) (5 + ((va_up s (5 + (s p)) (e + (16 * (d + 1)))) p)) % 16))]
    exact V_iret X Y ⟨(va_up s (5 + (s p)) (e + (16 * (d + 1)))) (5 + ((va_up s (5 + (s p)) (e + (16 * (d + 1)))) p)) % 16, (va_up s (5 + (s p)) (e + (16 * (d + 1))))⟩ (show ((va_up s (5 + (s p)) (e + (16 * (d + 1)))) (5 + ((va_up s (5 + (s p)) (e + (16 * (d + 1)))) p)) % 16) = prR to s p ∧ (va_up s (5 + (s p)) (e + (16 * (d + 1)))) = prS to s p d from (by subst he; exact ⟨by have h := prS_d (to := to) (d := d) hp hsp hdd; simp only [prS] at h; rw [h.1]; exact h.2, rfl⟩)) (mv_rn (by rfl)) rfl rfl dX12_prints_62
  refine V_icmp_leN X 43 dX12_prints_35 (by decide) (by omega) (by decide) (fun c_1 => ?_) (fun c_1 => ?_)
  · refine V_iload_n X dX12_prints_43 rfl ?_
    refine V_weak (lv' := [some (.ref (a 0)), some (.int (nI p)), some (.int (nI d)), some (.int (nI ((s (5 + (s p)) % 16) + (to (4 + p)))))]) (And.intro rfl (And.intro rfl (And.intro rfl (And.intro rfl trivial)))) ?_
    exact J_44_1 ((s (5 + (s p)) % 16) + (to (4 + p))) (by simp only [prR]; omega) (by omega)
  · refine V_bipush X (nI 9) dX12_prints_38 (by decide) ?_
    refine V_goto X 44 dX12_prints_40 (by decide) ?_
    refine V_weak (lv' := [some (.ref (a 0)), some (.int (nI p)), some (.int (nI d)), some (.int (nI ((s (5 + (s p)) % 16) + (to (4 + p)))))]) (And.intro rfl (And.intro rfl (And.intro rfl (And.intro rfl trivial)))) ?_
    exact J_44_1 9 (by simp only [prR]; omega) (by omega)
set_option maxHeartbeats 4000000 in
set_option maxRecDepth 100000 in
theorem c_X12_beside (l : Launch) (G : mvG) (c : Nat) (d : Nat) (hc : c < 36) (hdd : d < 4) : KQ l yX12_beside cX12_beside 4 (some .int) (1, 22) G [.int (nI c), .int (nI d)] [] (fun (_ : Unit) => some (.int (iI (nb c d)))) (fun (_ : Unit) => True) (fun (_ : Unit) => []) := by
  refine KQ.mk (by decide +kernel) (fun _ _ => rfl) [some (.int (nI c)), some (.int (nI d)), none, none] (Nat.le_of_ble_eq_true rfl) rfl (fun C X Y hC => ?_)
  subst hC
  refine V_iload_n X dX12_beside_0 rfl ?_
  refine V_bipush X (nI 6) dX12_beside_1 (by decide) ?_
  refine V_idivN X dX12_beside_3 (by omega) (by omega) (by omega) ?_
  refine V_iload_n X dX12_beside_4 rfl ?_
  have J_22_1 : ∀ (x : Int) (hx : (d = 0 ∧ x = -1) ∨ (d = 1 ∧ x = 1) ∨ (2 ≤ d ∧ x = 0)), V C 0 0 [] 22 [some (.int (nI c)), some (.int (nI d)), none, none] [.int (iI x), .int (nI (c / 6))] := by
    intro x hx
    have hq1 := Nat.div_add_mod c 6
    have hq2 : c / 6 < 6 := by omega
    refine V_two (show (nI (c / 6)) = iI ((c / 6 : Nat) : Int) from rfl) (show (iI x) = iI (x : Int) from rfl) ?_
    refine V_iaddS X dX12_beside_22 ?_
    refine V_istore_n X dX12_beside_23 (by decide) rfl ?_
    refine V_iload_n X dX12_beside_24 rfl ?_
    refine V_bipush X (nI 6) dX12_beside_25 (by decide) ?_
    refine V_iremN X dX12_beside_27 (by omega) (by omega) (by omega) ?_
    refine V_iload_n X dX12_beside_28 rfl ?_
    refine V_iconst X (nI 2) dX12_beside_29 (by decide) ?_
    have J_47_2 : ∀ (y : Int) (hy : (d = 2 ∧ y = -1) ∨ (d = 3 ∧ y = 1) ∨ (d < 2 ∧ y = 0)), V C 0 0 [] 47 [some (.int (nI c)), some (.int (nI d)), some (.int (iI (((c / 6 : Nat) : Int) + (x : Int)))), none] [.int (iI y), .int (nI (c % 6))] := by
      intro y hy
      refine V_two (show (nI (c % 6)) = iI ((c % 6 : Nat) : Int) from rfl) (show (iI y) = iI (y : Int) from rfl) ?_
      refine V_iaddS X dX12_beside_47 ?_
      refine V_istore_n X dX12_beside_48 (by decide) rfl ?_
      refine V_iload_n X dX12_beside_49 rfl ?_
      refine V_iconst X (nI 0) dX12_beside_50 (by decide) ?_
      refine V_iconst X (nI 5) dX12_beside_51 (by decide) ?_
      refine V_callS (rest := []) X (c_X12_in (Cl C) G (((c / 6 : Nat) : Int) + (x : Int)) ((0 : Nat) : Int) ((5 : Nat) : Int) (by first | assumption | omega) (by first | assumption | omega) (by first | assumption | omega)) mi_X12_in kw_3_235 kw_3_236 dX12_beside_52 [] rfl (by decide) rfl rfl (by decide) (Nat.le_of_ble_eq_true rfl) ⟨rfl, rfl⟩ (fun u_ hu_4 => ?_)
      obtain ⟨b_3, rfl⟩ : ∃ z, z = u_ := ⟨_, rfl⟩
      have hu_4 : (b_3 = 1 ∧ ((0 : Nat) : Int) ≤ (((c / 6 : Nat) : Int) + (x : Int)) ∧ (((c / 6 : Nat) : Int) + (x : Int)) ≤ ((5 : Nat) : Int)) ∨ (b_3 = 0 ∧ ((((c / 6 : Nat) : Int) + (x : Int)) < ((0 : Nat) : Int) ∨ ((5 : Nat) : Int) < (((c / 6 : Nat) : Int) + (x : Int)))) := hu_4
      show V C 0 0 [] 55 [some (.int (nI c)), some (.int (nI d)), some (.int (iI (((c / 6 : Nat) : Int) + (x : Int)))), some (.int (iI (((c % 6 : Nat) : Int) + (y : Int))))] [.int (nI b_3)]
      have J_78_5 : ∀ (z : Int) (hz : z = nb c d), V C 0 0 [] 78 [some (.int (nI c)), some (.int (nI d)), some (.int (iI (((c / 6 : Nat) : Int) + (x : Int)))), some (.int (iI (((c % 6 : Nat) : Int) + (y : Int))))] [.int (iI z)] := by
        intro z hz
        exact V_iret X Y () trivial (mv_si (hz.symm)) rfl rfl dX12_beside_78
      refine V_if_eqN X 76 dX12_beside_55 (by decide) (by omega) (fun c_5 => ?_) (fun c_5 => ?_)
      · refine V_bipush X (-9) dX12_beside_76 (by decide) ?_
        refine V_weak (lv' := [some (.int (nI c)), some (.int (nI d)), some (.int (iI (((c / 6 : Nat) : Int) + (x : Int)))), some (.int (iI (((c % 6 : Nat) : Int) + (y : Int))))]) (And.intro rfl (And.intro rfl (And.intro rfl (And.intro rfl trivial)))) ?_
        exact J_78_5 (-9) (by simp only [nb]; (repeat' split) <;> omega)
      · refine V_iload_n X dX12_beside_58 rfl ?_
        refine V_iconst X (nI 0) dX12_beside_59 (by decide) ?_
        refine V_iconst X (nI 5) dX12_beside_60 (by decide) ?_
        refine V_callS (rest := []) X (c_X12_in (Cl C) G (((c % 6 : Nat) : Int) + (y : Int)) ((0 : Nat) : Int) ((5 : Nat) : Int) (by first | assumption | omega) (by first | assumption | omega) (by first | assumption | omega)) mi_X12_in kw_3_235 kw_3_236 dX12_beside_61 [] rfl (by decide) rfl rfl (by decide) (Nat.le_of_ble_eq_true rfl) ⟨rfl, rfl⟩ (fun u_ hu_7 => ?_)
        obtain ⟨b_6, rfl⟩ : ∃ z, z = u_ := ⟨_, rfl⟩
        have hu_7 : (b_6 = 1 ∧ ((0 : Nat) : Int) ≤ (((c % 6 : Nat) : Int) + (y : Int)) ∧ (((c % 6 : Nat) : Int) + (y : Int)) ≤ ((5 : Nat) : Int)) ∨ (b_6 = 0 ∧ ((((c % 6 : Nat) : Int) + (y : Int)) < ((0 : Nat) : Int) ∨ ((5 : Nat) : Int) < (((c % 6 : Nat) : Int) + (y : Int)))) := hu_7
        show V C 0 0 [] 64 [some (.int (nI c)), some (.int (nI d)), some (.int (iI (((c / 6 : Nat) : Int) + (x : Int)))), some (.int (iI (((c % 6 : Nat) : Int) + (y : Int))))] [.int (nI b_6)]
        refine V_if_eqN X 76 dX12_beside_64 (by decide) (by omega) (fun c_8 => ?_) (fun c_8 => ?_)
        · refine V_bipush X (-9) dX12_beside_76 (by decide) ?_
          refine V_weak (lv' := [some (.int (nI c)), some (.int (nI d)), some (.int (iI (((c / 6 : Nat) : Int) + (x : Int)))), some (.int (iI (((c % 6 : Nat) : Int) + (y : Int))))]) (And.intro rfl (And.intro rfl (And.intro rfl (And.intro rfl trivial)))) ?_
          exact J_78_5 (-9) (by simp only [nb]; (repeat' split) <;> omega)
        · refine V_bipush X (nI 6) dX12_beside_67 (by decide) ?_
          refine V_iload_n X dX12_beside_69 rfl ?_
          refine V_two (show (nI 6) = iI (6 : Int) from rfl) (show (iI (((c / 6 : Nat) : Int) + (x : Int))) = iI (((c / 6 : Nat) : Int) + (x : Int) : Int) from rfl) ?_
          refine V_imulS X dX12_beside_70 ?_
          refine V_iload_n X dX12_beside_71 rfl ?_
          refine V_two (show (iI ((6 : Int) * (((c / 6 : Nat) : Int) + (x : Int) : Int))) = iI ((6 : Int) * (((c / 6 : Nat) : Int) + (x : Int) : Int) : Int) from rfl) (show (iI (((c % 6 : Nat) : Int) + (y : Int))) = iI (((c % 6 : Nat) : Int) + (y : Int) : Int) from rfl) ?_
          refine V_iaddS X dX12_beside_72 ?_
          refine V_goto X 78 dX12_beside_73 (by decide) ?_
          refine V_weak (lv' := [some (.int (nI c)), some (.int (nI d)), some (.int (iI (((c / 6 : Nat) : Int) + (x : Int)))), some (.int (iI (((c % 6 : Nat) : Int) + (y : Int))))]) (And.intro rfl (And.intro rfl (And.intro rfl (And.intro rfl trivial)))) ?_
          exact J_78_5 (((6 : Int) * (((c / 6 : Nat) : Int) + (x : Int) : Int) : Int) + (((c % 6 : Nat) : Int) + (y : Int) : Int)) (by simp only [nb]; (repeat' split) <;> omega)
    refine V_icmp_neN X 37 dX12_beside_30 (by decide) (by omega) (by decide) (fun c_2 => ?_) (fun c_2 => ?_)
    · refine V_iload_n X dX12_beside_37 rfl ?_
      refine V_iconst X (nI 3) dX12_beside_38 (by decide) ?_
      refine V_icmp_neN X 46 dX12_beside_39 (by decide) (by omega) (by decide) (fun c_9 => ?_) (fun c_9 => ?_)
      · refine V_iconst X (nI 0) dX12_beside_46 (by decide) ?_
        refine V_weak (lv' := [some (.int (nI c)), some (.int (nI d)), some (.int (iI (((c / 6 : Nat) : Int) + (x : Int)))), none]) (And.intro rfl (And.intro rfl (And.intro rfl trivial))) ?_
        exact J_47_2 0 (by omega)
      · refine V_iconst X (nI 1) dX12_beside_42 (by decide) ?_
        refine V_goto X 47 dX12_beside_43 (by decide) ?_
        refine V_weak (lv' := [some (.int (nI c)), some (.int (nI d)), some (.int (iI (((c / 6 : Nat) : Int) + (x : Int)))), none]) (And.intro rfl (And.intro rfl (And.intro rfl trivial))) ?_
        exact J_47_2 1 (by omega)
    · refine V_iconst X (-1) dX12_beside_33 (by decide) ?_
      refine V_goto X 47 dX12_beside_34 (by decide) ?_
      refine V_weak (lv' := [some (.int (nI c)), some (.int (nI d)), some (.int (iI (((c / 6 : Nat) : Int) + (x : Int)))), none]) (And.intro rfl (And.intro rfl (And.intro rfl trivial))) ?_
      exact J_47_2 (-1) (by omega)
  refine V_if_neN X 12 dX12_beside_5 (by decide) (by omega) (fun c_1 => ?_) (fun c_1 => ?_)
  · refine V_iload_n X dX12_beside_12 rfl ?_
    refine V_iconst X (nI 1) dX12_beside_13 (by decide) ?_
    refine V_icmp_neN X 21 dX12_beside_14 (by decide) (by omega) (by decide) (fun c_10 => ?_) (fun c_10 => ?_)
    · refine V_iconst X (nI 0) dX12_beside_21 (by decide) ?_
      refine V_weak (lv' := [some (.int (nI c)), some (.int (nI d)), none, none]) (And.intro rfl (And.intro rfl trivial)) ?_
      exact J_22_1 0 (by omega)
    · refine V_iconst X (nI 1) dX12_beside_17 (by decide) ?_
      refine V_goto X 22 dX12_beside_18 (by decide) ?_
      refine V_weak (lv' := [some (.int (nI c)), some (.int (nI d)), none, none]) (And.intro rfl (And.intro rfl trivial)) ?_
      exact J_22_1 1 (by omega)
  · refine V_iconst X (-1) dX12_beside_8 (by decide) ?_
    refine V_goto X 22 dX12_beside_9 (by decide) ?_
    refine V_weak (lv' := [some (.int (nI c)), some (.int (nI d)), none, none]) (And.intro rfl (And.intro rfl trivial)) ?_
    exact J_22_1 (-1) (by omega)
set_option maxHeartbeats 4000000 in
set_option maxRecDepth 100000 in
theorem c_X12_walks (l : Launch) (G : mvG) (a : Nat → Nat) (tx : Nat → Nat) (to : Nat → Nat) (dr : Nat → Nat) (be : Nat → Nat) (s : Nat → Nat) (pa : Nat → Nat) (im : Nat → Nat) (ke : Nat → Nat) (no : Nat → Nat) (fa : Nat → Nat) (tr : Nat) (ty : Nat) (kn : Nat) (nd : Nat) (att : Nat) (so : Nat) (ss : Nat) (va : Int) (p : Int) (d : Int) (hn : to 0 ≤ 5) (hde : ∀ c, c < 36 → s (5 + c) < 80 ∧ s (5 + c) % 16 ≤ 9) (hs : ∀ j, j < 5 → s j < 36) (hwt : ∀ j, j < 5 → to (4 + j) ≤ 4) (hkn : kn ≤ 10) (hp : -2147483648 ≤ p ∧ p < 2147483648) (hd : -2147483648 ≤ d ∧ d < 2147483648) : KQ l yX12_walks cX12_walks 4 (some .int) (2, 45) G [.ref (a 0), .int (iI p), .int (iI d)] [gMod G a (nF tx) (nF to) (nF dr) (nF be) (nF s) (nF pa) (nF im) (nF ke) (nF no) (nF fa) (lN tr) (nI ty) (nI kn) (nI nd) (nI att) (nI so) (nI ss) (iI va)] (fun (zz : Int × (Nat → Nat) × (Nat → Nat) × Nat) => some (.int (iI zz.1))) (fun (zz : Int × (Nat → Nat) × (Nat → Nat) × Nat) => ((p < 0 ∨ (to 0 : Int) ≤ p ∨ d < 0 ∨ 3 < d) ∧ (zz.1 : Int) = -1 ∧ zz.2.1 = s ∧ zz.2.2.1 = pa ∧ zz.2.2.2 = kn) ∨ ((0 ≤ p ∧ p < (to 0 : Int) ∧ 0 ≤ d ∧ d < 4) ∧ nb (s p.toNat) d.toNat < 0 ∧ (zz.1 : Int) = -2 ∧ zz.2.1 = s ∧ zz.2.2.1 = pa ∧ zz.2.2.2 = kn) ∨ ((0 ≤ p ∧ p < (to 0 : Int) ∧ 0 ≤ d ∧ d < 4) ∧ 0 ≤ nb (s p.toNat) d.toNat ∧ KP s pa kn zz.2.2.1 zz.2.2.2 ∧ (zz.1 : Int) = (prR to (va_up s p.toNat (nb (s p.toNat) d.toNat).toNat) p.toNat : Nat) ∧ zz.2.1 = prS to (va_up s p.toNat (nb (s p.toNat) d.toNat).toNat) p.toNat d.toNat)) (fun (zz : Int × (Nat → Nat) × (Nat → Nat) × Nat) => [gMod G a (nF tx) (nF to) (nF dr) (nF be) (nF zz.2.1) (nF zz.2.2.1) (nF im) (nF ke) (nF no) (nF fa) (lN tr) (nI ty) (nI zz.2.2.2) (nI nd) (nI att) (nI so) (nI ss) (iI va)]) := by
  refine KQ.mk (by decide +kernel) (fun _ _ => rfl) [some (.ref (a 0)), some (.int (iI p)), some (.int (iI d)), none] (Nat.le_of_ble_eq_true rfl) rfl (fun C X Y hC => ?_)
  subst hC
  refine V_aload_n X dX12_walks_0 rfl ?_
  refine V_iload_n X dX12_walks_1 rfl ?_
  refine V_callV (rest := []) X (c_X12_isOne (Cl C) G a tx to dr be s pa im ke no fa tr ty kn nd att so ss va p (by first | assumption | omega) (by first | assumption | omega)) mi_X12_isOne kw_4_100 kw_4_102 kw_s_36 dX12_walks_2 [0] rfl (by decide) 0 0 rfl rfl rfl rfl rfl rfl (by decide) (Nat.le_of_ble_eq_true rfl) ⟨rfl, rfl⟩ (fun u_ hu_2 => ?_)
  obtain ⟨b_1, rfl⟩ : ∃ z, z = u_ := ⟨_, rfl⟩
  have hu_2 : (b_1 = 1 ∧ 0 ≤ p ∧ p < (to 0 : Int)) ∨ (b_1 = 0 ∧ (p < 0 ∨ (to 0 : Int) ≤ p)) := hu_2
  show V C 0 0 [gMod G a (nF tx) (nF to) (nF dr) (nF be) (nF s) (nF pa) (nF im) (nF ke) (nF no) (nF fa) (lN tr) (nI ty) (nI kn) (nI nd) (nI att) (nI so) (nI ss) (iI va)] 5 [some (.ref (a 0)), some (.int (iI p)), some (.int (iI d)), none] [.int (nI b_1)]
  refine V_if_eqN X 17 dX12_walks_5 (by decide) (by omega) (fun c_3 => ?_) (fun c_3 => ?_)
  · refine V_iconst X (-1) dX12_walks_17 (by decide) ?_
    exact V_iret X Y ⟨-1, s, pa, kn⟩ (show ((p < 0 ∨ (to 0 : Int) ≤ p ∨ d < 0 ∨ 3 < d) ∧ ((-1) : Int) = -1 ∧ s = s ∧ pa = pa ∧ kn = kn) ∨ ((0 ≤ p ∧ p < (to 0 : Int) ∧ 0 ≤ d ∧ d < 4) ∧ nb (s p.toNat) d.toNat < 0 ∧ ((-1) : Int) = -2 ∧ s = s ∧ pa = pa ∧ kn = kn) ∨ ((0 ≤ p ∧ p < (to 0 : Int) ∧ 0 ≤ d ∧ d < 4) ∧ 0 ≤ nb (s p.toNat) d.toNat ∧ KP s pa kn pa kn ∧ ((-1) : Int) = (prR to (va_up s p.toNat (nb (s p.toNat) d.toNat).toNat) p.toNat : Nat) ∧ s = prS to (va_up s p.toNat (nb (s p.toNat) d.toNat).toNat) p.toNat d.toNat) from Or.inl ⟨by omega, rfl, rfl, rfl, rfl⟩) (mv_ri (by rfl)) rfl rfl dX12_walks_18
  · refine V_iload_n X dX12_walks_8 rfl ?_
    refine V_iconst X (nI 0) dX12_walks_9 (by decide) ?_
    refine V_iconst X (nI 3) dX12_walks_10 (by decide) ?_
    refine V_callS (rest := []) X (c_X12_in (Cl C) G d ((0 : Nat) : Int) ((3 : Nat) : Int) (by first | assumption | omega) (by first | assumption | omega) (by first | assumption | omega)) mi_X12_in kw_3_235 kw_3_236 dX12_walks_11 [] rfl (by decide) rfl rfl (by decide) (Nat.le_of_ble_eq_true rfl) ⟨rfl, rfl⟩ (fun u_ hu_5 => ?_)
    obtain ⟨b_4, rfl⟩ : ∃ z, z = u_ := ⟨_, rfl⟩
    have hu_5 : (b_4 = 1 ∧ ((0 : Nat) : Int) ≤ d ∧ d ≤ ((3 : Nat) : Int)) ∨ (b_4 = 0 ∧ (d < ((0 : Nat) : Int) ∨ ((3 : Nat) : Int) < d)) := hu_5
    show V C 0 0 [gMod G a (nF tx) (nF to) (nF dr) (nF be) (nF s) (nF pa) (nF im) (nF ke) (nF no) (nF fa) (lN tr) (nI ty) (nI kn) (nI nd) (nI att) (nI so) (nI ss) (iI va)] 14 [some (.ref (a 0)), some (.int (iI p)), some (.int (iI d)), none] [.int (nI b_4)]
    refine V_if_neN X 19 dX12_walks_14 (by decide) (by omega) (fun c_6 => ?_) (fun c_6 => ?_)
    · refine V_loc (y := (nI p.toNat)) 1 rfl (mv_sn (by omega)) ?_
      refine V_loc (y := (nI d.toNat)) 2 rfl (mv_sn (by omega)) ?_
      have hsp := hs p.toNat (by omega)
      have hnb := nb_9 (d := d.toNat) hsp
      refine V_aload_n X dX12_walks_19 rfl ?_
      refine V_get X fl_X12_22 0 0 rfl rfl rfl dX12_walks_20 ?_
      refine V_iload_n X dX12_walks_23 rfl ?_
      refine V_ialdN X 0 5 rfl rfl (by omega) (by decide) dX12_walks_24 ?_
      refine V_iload_n X dX12_walks_25 rfl ?_
      refine V_callS (rest := []) X (c_X12_beside (Cl C) G (s p.toNat) d.toNat (by first | assumption | omega) (by first | assumption | omega)) mi_X12_beside kw_4_138 kw_4_139 dX12_walks_26 [] rfl (by decide) rfl rfl (by decide) (Nat.le_of_ble_eq_true rfl) ⟨rfl, rfl⟩ (fun _ _ => ?_)
      show V C 0 0 [gMod G a (nF tx) (nF to) (nF dr) (nF be) (nF s) (nF pa) (nF im) (nF ke) (nF no) (nF fa) (lN tr) (nI ty) (nI kn) (nI nd) (nI att) (nI so) (nI ss) (iI va)] 29 [some (.ref (a 0)), some (.int (nI p.toNat)), some (.int (nI d.toNat)), none] [.int (iI (nb (s p.toNat) d.toNat))]
      refine V_istore_n X dX12_walks_29 (by decide) rfl ?_
      refine V_iload_n X dX12_walks_30 rfl ?_
      refine V_bipush X (-9) dX12_walks_31 (by decide) ?_
      refine V_icmp_neI (i := nb (s p.toNat) d.toNat) (j := -9) X 39 dX12_walks_33 (by decide) (iI_toInt (by omega) (by omega)) (by rfl) (fun c_7 => ?_) (fun c_7 => ?_)
      · refine V_loc (y := (nI ((nb (s p.toNat) d.toNat).toNat))) 3 rfl (mv_sn (by omega)) ?_
        refine V_aload_n X dX12_walks_39 rfl ?_
        refine V_callV (rest := []) X (c_X12_keeps (Cl C) G a tx to dr be s pa im ke no fa tr ty kn nd att so ss va (by first | assumption | omega)) mi_X12_keeps kw_4_141 kw_4_143 kw_s_42 dX12_walks_40 [0] rfl (by decide) 0 0 rfl rfl rfl rfl rfl rfl (by decide) (Nat.le_of_ble_eq_true rfl) ⟨rfl, rfl⟩ (fun u_ hu_10 => ?_)
        obtain ⟨P_8, k_9⟩ := u_
        have hu_10 : KP s pa kn P_8 k_9 := hu_10
        show V C 0 0 [gMod G a (nF tx) (nF to) (nF dr) (nF be) (nF s) (nF P_8) (nF im) (nF ke) (nF no) (nF fa) (lN tr) (nI ty) (nI k_9) (nI nd) (nI att) (nI so) (nI ss) (iI va)] 43 [some (.ref (a 0)), some (.int (nI p.toNat)), some (.int (nI d.toNat)), some (.int (nI ((nb (s p.toNat) d.toNat).toNat)))] []
        have hkp := hu_10
        have hkl := KP_le hkp
        refine V_aload_n X dX12_walks_43 rfl ?_
        refine V_get X fl_X12_22 0 0 rfl rfl rfl dX12_walks_44 ?_
        refine V_iload_n X dX12_walks_47 rfl ?_
        refine V_iload_n X dX12_walks_48 rfl ?_
        refine V_iastN X 0 5 rfl rfl (by omega) (by decide) dX12_walks_49 ?_
        show V C 0 0 [gMod G a (nF tx) (nF to) (nF dr) (nF be) (nF (va_up s p.toNat ((nb (s p.toNat) d.toNat).toNat))) (nF P_8) (nF im) (nF ke) (nF no) (nF fa) (lN tr) (nI ty) (nI k_9) (nI nd) (nI att) (nI so) (nI ss) (iI va)] 50 [some (.ref (a 0)), some (.int (nI p.toNat)), some (.int (nI d.toNat)), some (.int (nI ((nb (s p.toNat) d.toNat).toNat)))] []
        refine V_aload_n X dX12_walks_50 rfl ?_
        refine V_iload_n X dX12_walks_51 rfl ?_
        refine V_iload_n X dX12_walks_52 rfl ?_
        refine V_callV (rest := []) X (c_X12_prints (Cl C) G a tx to dr be (va_up s p.toNat ((nb (s p.toNat) d.toNat).toNat)) P_8 im ke no fa tr ty k_9 nd att so ss va p.toNat d.toNat (hd_up hde (by omega)) (hs_up hs (by omega)) (by first | assumption | omega) (by first | assumption | omega) (by first | assumption | omega)) mi_X12_prints kw_4_145 kw_4_147 kw_s_43 dX12_walks_53 [0] rfl (by decide) 0 0 rfl rfl rfl rfl rfl rfl (by decide) (Nat.le_of_ble_eq_true rfl) ⟨rfl, rfl⟩ (fun u_ hu_13 => ?_)
        obtain ⟨r_11, S_12⟩ := u_
        have hu_13 : r_11 = prR to (va_up s p.toNat ((nb (s p.toNat) d.toNat).toNat)) p.toNat ∧ S_12 = prS to (va_up s p.toNat ((nb (s p.toNat) d.toNat).toNat)) p.toNat d.toNat := hu_13
        show V C 0 0 [gMod G a (nF tx) (nF to) (nF dr) (nF be) (nF S_12) (nF P_8) (nF im) (nF ke) (nF no) (nF fa) (lN tr) (nI ty) (nI k_9) (nI nd) (nI att) (nI so) (nI ss) (iI va)] 56 [some (.ref (a 0)), some (.int (nI p.toNat)), some (.int (nI d.toNat)), some (.int (nI ((nb (s p.toNat) d.toNat).toNat)))] [.int (nI r_11)]
        have hpr := hu_13
        exact V_iret X Y ⟨((r_11 : Nat) : Int), S_12, P_8, k_9⟩ (show ((p < 0 ∨ (to 0 : Int) ≤ p ∨ d < 0 ∨ 3 < d) ∧ (((r_11 : Nat) : Int) : Int) = -1 ∧ S_12 = s ∧ P_8 = pa ∧ k_9 = kn) ∨ ((0 ≤ p ∧ p < (to 0 : Int) ∧ 0 ≤ d ∧ d < 4) ∧ nb (s p.toNat) d.toNat < 0 ∧ (((r_11 : Nat) : Int) : Int) = -2 ∧ S_12 = s ∧ P_8 = pa ∧ k_9 = kn) ∨ ((0 ≤ p ∧ p < (to 0 : Int) ∧ 0 ≤ d ∧ d < 4) ∧ 0 ≤ nb (s p.toNat) d.toNat ∧ KP s pa kn P_8 k_9 ∧ (((r_11 : Nat) : Int) : Int) = (prR to (va_up s p.toNat (nb (s p.toNat) d.toNat).toNat) p.toNat : Nat) ∧ S_12 = prS to (va_up s p.toNat (nb (s p.toNat) d.toNat).toNat) p.toNat d.toNat) from Or.inr (Or.inr ⟨by omega, by omega, hkp, congrArg (fun z : Nat => (z : Int)) hpr.1, hpr.2⟩)) (mv_ri (by rfl)) rfl rfl dX12_walks_56
      · refine V_bipush X (-2) dX12_walks_36 (by decide) ?_
        exact V_iret X Y ⟨-2, s, pa, kn⟩ (show ((p < 0 ∨ (to 0 : Int) ≤ p ∨ d < 0 ∨ 3 < d) ∧ ((-2) : Int) = -1 ∧ s = s ∧ pa = pa ∧ kn = kn) ∨ ((0 ≤ p ∧ p < (to 0 : Int) ∧ 0 ≤ d ∧ d < 4) ∧ nb (s p.toNat) d.toNat < 0 ∧ ((-2) : Int) = -2 ∧ s = s ∧ pa = pa ∧ kn = kn) ∨ ((0 ≤ p ∧ p < (to 0 : Int) ∧ 0 ≤ d ∧ d < 4) ∧ 0 ≤ nb (s p.toNat) d.toNat ∧ KP s pa kn pa kn ∧ ((-2) : Int) = (prR to (va_up s p.toNat (nb (s p.toNat) d.toNat).toNat) p.toNat : Nat) ∧ s = prS to (va_up s p.toNat (nb (s p.toNat) d.toNat).toNat) p.toNat d.toNat) from Or.inr (Or.inl ⟨by omega, by omega, rfl, rfl, rfl, rfl⟩)) (mv_ri (by rfl)) rfl rfl dX12_walks_38
    · refine V_iconst X (-1) dX12_walks_17 (by decide) ?_
      exact V_iret X Y ⟨-1, s, pa, kn⟩ (show ((p < 0 ∨ (to 0 : Int) ≤ p ∨ d < 0 ∨ 3 < d) ∧ ((-1) : Int) = -1 ∧ s = s ∧ pa = pa ∧ kn = kn) ∨ ((0 ≤ p ∧ p < (to 0 : Int) ∧ 0 ≤ d ∧ d < 4) ∧ nb (s p.toNat) d.toNat < 0 ∧ ((-1) : Int) = -2 ∧ s = s ∧ pa = pa ∧ kn = kn) ∨ ((0 ≤ p ∧ p < (to 0 : Int) ∧ 0 ≤ d ∧ d < 4) ∧ 0 ≤ nb (s p.toNat) d.toNat ∧ KP s pa kn pa kn ∧ ((-1) : Int) = (prR to (va_up s p.toNat (nb (s p.toNat) d.toNat).toNat) p.toNat : Nat) ∧ s = prS to (va_up s p.toNat (nb (s p.toNat) d.toNat).toNat) p.toNat d.toNat) from Or.inl ⟨by omega, rfl, rfl, rfl, rfl⟩) (mv_ri (by rfl)) rfl rfl dX12_walks_18
set_option maxHeartbeats 4000000 in
set_option maxRecDepth 100000 in
theorem c_X12_stands (l : Launch) (G : mvG) (a : Nat → Nat) (tx : Nat → Nat) (to : Nat → Nat) (dr : Nat → Nat) (be : Nat → Nat) (s : Nat → Nat) (pa : Nat → Nat) (im : Nat → Nat) (ke : Nat → Nat) (no : Nat → Nat) (fa : Nat → Nat) (tr : Nat) (ty : Nat) (kn : Nat) (nd : Nat) (att : Nat) (so : Nat) (ss : Nat) (va : Int) (p : Int) (d : Int) (hn : to 0 ≤ 5) (hde : ∀ c, c < 36 → s (5 + c) < 80 ∧ s (5 + c) % 16 ≤ 9) (hs : ∀ j, j < 5 → s j < 36) (hwt : ∀ j, j < 5 → to (4 + j) ≤ 4) (hkn : kn ≤ 10) (hp : -2147483648 ≤ p ∧ p < 2147483648) (hd : -2147483648 ≤ d ∧ d < 2147483648) : KQ l yX12_stands cX12_stands 3 (some .int) (2, 44) G [.ref (a 0), .int (iI p), .int (iI d)] [gMod G a (nF tx) (nF to) (nF dr) (nF be) (nF s) (nF pa) (nF im) (nF ke) (nF no) (nF fa) (lN tr) (nI ty) (nI kn) (nI nd) (nI att) (nI so) (nI ss) (iI va)] (fun (zz : Int × (Nat → Nat) × (Nat → Nat) × Nat) => some (.int (iI zz.1))) (fun (zz : Int × (Nat → Nat) × (Nat → Nat) × Nat) => ((p < 0 ∨ (to 0 : Int) ≤ p ∨ d < 0 ∨ 3 < d) ∧ (zz.1 : Int) = -1 ∧ zz.2.1 = s ∧ zz.2.2.1 = pa ∧ zz.2.2.2 = kn) ∨ ((0 ≤ p ∧ p < (to 0 : Int) ∧ 0 ≤ d ∧ d < 4) ∧ KP s pa kn zz.2.2.1 zz.2.2.2 ∧ (zz.1 : Int) = (prR to s p.toNat : Nat) ∧ zz.2.1 = prS to s p.toNat d.toNat)) (fun (zz : Int × (Nat → Nat) × (Nat → Nat) × Nat) => [gMod G a (nF tx) (nF to) (nF dr) (nF be) (nF zz.2.1) (nF zz.2.2.1) (nF im) (nF ke) (nF no) (nF fa) (lN tr) (nI ty) (nI zz.2.2.2) (nI nd) (nI att) (nI so) (nI ss) (iI va)]) := by
  refine KQ.mk (by decide +kernel) (fun _ _ => rfl) [some (.ref (a 0)), some (.int (iI p)), some (.int (iI d))] (Nat.le_of_ble_eq_true rfl) rfl (fun C X Y hC => ?_)
  subst hC
  refine V_aload_n X dX12_stands_0 rfl ?_
  refine V_iload_n X dX12_stands_1 rfl ?_
  refine V_callV (rest := []) X (c_X12_isOne (Cl C) G a tx to dr be s pa im ke no fa tr ty kn nd att so ss va p (by first | assumption | omega) (by first | assumption | omega)) mi_X12_isOne kw_4_100 kw_4_102 kw_s_36 dX12_stands_2 [0] rfl (by decide) 0 0 rfl rfl rfl rfl rfl rfl (by decide) (Nat.le_of_ble_eq_true rfl) ⟨rfl, rfl⟩ (fun u_ hu_2 => ?_)
  obtain ⟨b_1, rfl⟩ : ∃ z, z = u_ := ⟨_, rfl⟩
  have hu_2 : (b_1 = 1 ∧ 0 ≤ p ∧ p < (to 0 : Int)) ∨ (b_1 = 0 ∧ (p < 0 ∨ (to 0 : Int) ≤ p)) := hu_2
  show V C 0 0 [gMod G a (nF tx) (nF to) (nF dr) (nF be) (nF s) (nF pa) (nF im) (nF ke) (nF no) (nF fa) (lN tr) (nI ty) (nI kn) (nI nd) (nI att) (nI so) (nI ss) (iI va)] 5 [some (.ref (a 0)), some (.int (iI p)), some (.int (iI d))] [.int (nI b_1)]
  refine V_if_eqN X 17 dX12_stands_5 (by decide) (by omega) (fun c_3 => ?_) (fun c_3 => ?_)
  · refine V_iconst X (-1) dX12_stands_17 (by decide) ?_
    exact V_iret X Y ⟨-1, s, pa, kn⟩ (show ((p < 0 ∨ (to 0 : Int) ≤ p ∨ d < 0 ∨ 3 < d) ∧ ((-1) : Int) = -1 ∧ s = s ∧ pa = pa ∧ kn = kn) ∨ ((0 ≤ p ∧ p < (to 0 : Int) ∧ 0 ≤ d ∧ d < 4) ∧ KP s pa kn pa kn ∧ ((-1) : Int) = (prR to s p.toNat : Nat) ∧ s = prS to s p.toNat d.toNat) from Or.inl ⟨by omega, rfl, rfl, rfl, rfl⟩) (mv_ri (by rfl)) rfl rfl dX12_stands_18
  · refine V_iload_n X dX12_stands_8 rfl ?_
    refine V_iconst X (nI 0) dX12_stands_9 (by decide) ?_
    refine V_iconst X (nI 3) dX12_stands_10 (by decide) ?_
    refine V_callS (rest := []) X (c_X12_in (Cl C) G d ((0 : Nat) : Int) ((3 : Nat) : Int) (by first | assumption | omega) (by first | assumption | omega) (by first | assumption | omega)) mi_X12_in kw_3_235 kw_3_236 dX12_stands_11 [] rfl (by decide) rfl rfl (by decide) (Nat.le_of_ble_eq_true rfl) ⟨rfl, rfl⟩ (fun u_ hu_5 => ?_)
    obtain ⟨b_4, rfl⟩ : ∃ z, z = u_ := ⟨_, rfl⟩
    have hu_5 : (b_4 = 1 ∧ ((0 : Nat) : Int) ≤ d ∧ d ≤ ((3 : Nat) : Int)) ∨ (b_4 = 0 ∧ (d < ((0 : Nat) : Int) ∨ ((3 : Nat) : Int) < d)) := hu_5
    show V C 0 0 [gMod G a (nF tx) (nF to) (nF dr) (nF be) (nF s) (nF pa) (nF im) (nF ke) (nF no) (nF fa) (lN tr) (nI ty) (nI kn) (nI nd) (nI att) (nI so) (nI ss) (iI va)] 14 [some (.ref (a 0)), some (.int (iI p)), some (.int (iI d))] [.int (nI b_4)]
    refine V_if_neN X 19 dX12_stands_14 (by decide) (by omega) (fun c_6 => ?_) (fun c_6 => ?_)
    · refine V_loc (y := (nI p.toNat)) 1 rfl (mv_sn (by omega)) ?_
      refine V_loc (y := (nI d.toNat)) 2 rfl (mv_sn (by omega)) ?_
      have hsp := hs p.toNat (by omega)
      refine V_aload_n X dX12_stands_19 rfl ?_
      refine V_callV (rest := []) X (c_X12_keeps (Cl C) G a tx to dr be s pa im ke no fa tr ty kn nd att so ss va (by first | assumption | omega)) mi_X12_keeps kw_4_141 kw_4_143 kw_s_42 dX12_stands_20 [0] rfl (by decide) 0 0 rfl rfl rfl rfl rfl rfl (by decide) (Nat.le_of_ble_eq_true rfl) ⟨rfl, rfl⟩ (fun u_ hu_9 => ?_)
      obtain ⟨P_7, k_8⟩ := u_
      have hu_9 : KP s pa kn P_7 k_8 := hu_9
      show V C 0 0 [gMod G a (nF tx) (nF to) (nF dr) (nF be) (nF s) (nF P_7) (nF im) (nF ke) (nF no) (nF fa) (lN tr) (nI ty) (nI k_8) (nI nd) (nI att) (nI so) (nI ss) (iI va)] 23 [some (.ref (a 0)), some (.int (nI p.toNat)), some (.int (nI d.toNat))] []
      have hkp := hu_9
      have hkl := KP_le hkp
      refine V_aload_n X dX12_stands_23 rfl ?_
      refine V_iload_n X dX12_stands_24 rfl ?_
      refine V_iload_n X dX12_stands_25 rfl ?_
      refine V_callV (rest := []) X (c_X12_prints (Cl C) G a tx to dr be s P_7 im ke no fa tr ty k_8 nd att so ss va p.toNat d.toNat (by first | assumption | omega) (by first | assumption | omega) (by first | assumption | omega) (by first | assumption | omega) (by first | assumption | omega)) mi_X12_prints kw_4_145 kw_4_147 kw_s_43 dX12_stands_26 [0] rfl (by decide) 0 0 rfl rfl rfl rfl rfl rfl (by decide) (Nat.le_of_ble_eq_true rfl) ⟨rfl, rfl⟩ (fun u_ hu_12 => ?_)
      obtain ⟨r_10, S_11⟩ := u_
      have hu_12 : r_10 = prR to s p.toNat ∧ S_11 = prS to s p.toNat d.toNat := hu_12
      show V C 0 0 [gMod G a (nF tx) (nF to) (nF dr) (nF be) (nF S_11) (nF P_7) (nF im) (nF ke) (nF no) (nF fa) (lN tr) (nI ty) (nI k_8) (nI nd) (nI att) (nI so) (nI ss) (iI va)] 29 [some (.ref (a 0)), some (.int (nI p.toNat)), some (.int (nI d.toNat))] [.int (nI r_10)]
      have hpr := hu_12
      exact V_iret X Y ⟨((r_10 : Nat) : Int), S_11, P_7, k_8⟩ (show ((p < 0 ∨ (to 0 : Int) ≤ p ∨ d < 0 ∨ 3 < d) ∧ (((r_10 : Nat) : Int) : Int) = -1 ∧ S_11 = s ∧ P_7 = pa ∧ k_8 = kn) ∨ ((0 ≤ p ∧ p < (to 0 : Int) ∧ 0 ≤ d ∧ d < 4) ∧ KP s pa kn P_7 k_8 ∧ (((r_10 : Nat) : Int) : Int) = (prR to s p.toNat : Nat) ∧ S_11 = prS to s p.toNat d.toNat) from Or.inr ⟨by omega, hkp, congrArg (fun z : Nat => (z : Int)) hpr.1, hpr.2⟩) (mv_ri (by rfl)) rfl rfl dX12_stands_29
    · refine V_iconst X (-1) dX12_stands_17 (by decide) ?_
      exact V_iret X Y ⟨-1, s, pa, kn⟩ (show ((p < 0 ∨ (to 0 : Int) ≤ p ∨ d < 0 ∨ 3 < d) ∧ ((-1) : Int) = -1 ∧ s = s ∧ pa = pa ∧ kn = kn) ∨ ((0 ≤ p ∧ p < (to 0 : Int) ∧ 0 ≤ d ∧ d < 4) ∧ KP s pa kn pa kn ∧ ((-1) : Int) = (prR to s p.toNat : Nat) ∧ s = prS to s p.toNat d.toNat) from Or.inl ⟨by omega, rfl, rfl, rfl, rfl⟩) (mv_ri (by rfl)) rfl rfl dX12_stands_18
