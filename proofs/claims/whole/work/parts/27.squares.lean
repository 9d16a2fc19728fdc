def stp (d : Nat → Nat) (x y w : Nat) : Prop := ¬ (x + w < 6 ∧ y + w < 6 ∧ clr d x y (w + 1))
def lsq (d : Nat → Nat) (x y w k : Nat) : Prop := x + w < 6 ∧ y + w < 6 ∧ ∀ j, j < k → d (6 * (x + w) + y + j) = 0 ∧ d (6 * (x + j) + y + w) = 0
theorem lsq_next {d : Nat → Nat} {x y w k g : Nat} (h : lsq d x y w k) (hk : k ≤ w) (hg : (g = 1 ∧ d (6 * (x + w) + y + k) = 0 ∧ d (6 * (x + k) + y + w) = 0) ∨ (g = 0 ∧ ¬ (d (6 * (x + w) + y + k) = 0 ∧ d (6 * (x + k) + y + w) = 0))) : (g = 1 ∧ lsq d x y w (k + 1)) ∨ (g = 0 ∧ stp d x y w) := by
  rcases hg with ⟨hg, h1, h2⟩ | ⟨hg, h1⟩
  · refine Or.inl ⟨hg, h.1, h.2.1, fun j hj => ?_⟩
    by_cases e : j = k
    · rw [e]; exact ⟨h1, h2⟩
    · exact h.2.2 j (by omega)
  · refine Or.inr ⟨hg, fun z => h1 ⟨?_, ?_⟩⟩
    · have := z.2.2 (x + w) (y + k) (by omega) (by omega) (by omega) (by omega)
      rw [show 6 * (x + w) + (y + k) = 6 * (x + w) + y + k by omega] at this
      exact this
    · have := z.2.2 (x + k) (y + w) (by omega) (by omega) (by omega) (by omega)
      rw [show 6 * (x + k) + (y + w) = 6 * (x + k) + y + w by omega] at this
      exact this
theorem lsq_end {d : Nat → Nat} {x y w : Nat} (h : lsq d x y w (w + 1)) (hc : clr d x y w) : clr d x y (w + 1) := by
  intro i j h1 h2 h3 h4
  by_cases e : i = x + w
  · have := (h.2.2 (j - y) (by omega)).1
    rw [show 6 * (x + w) + y + (j - y) = 6 * i + j by omega] at this
    exact this
  · by_cases f : j = y + w
    · have := (h.2.2 (i - x) (by omega)).2
      rw [show 6 * (x + (i - x)) + y + w = 6 * i + j by omega] at this
      exact this
    · exact hc i j h1 (by omega) h3 (by omega)
theorem lsq_out {d : Nat → Nat} {x y w m : Nat} (h : (m = 1 ∧ lsq d x y w (w + 1)) ∨ (m = 0 ∧ stp d x y w)) (hc : clr d x y w) (h1 : x + w ≤ 6) (h2 : y + w ≤ 6) : clr d x y (w + m) ∧ x + (w + m) ≤ 6 ∧ y + (w + m) ≤ 6 ∧ (m = 1 ∨ (m = 0 ∧ stp d x y (w + m))) := by
  rcases h with ⟨rfl, h⟩ | ⟨rfl, h⟩
  · exact ⟨lsq_end h hc, by have := h.1; omega, by have := h.2.1; omega, Or.inl rfl⟩
  · exact ⟨hc, h1, h2, Or.inr ⟨rfl, h⟩⟩
theorem clr_0 (d : Nat → Nat) (x y : Nat) : clr d x y 0 := fun i j h1 h2 => by omega
theorem lsq_m {d : Nat → Nat} {x y w k m : Nat} (h : (m = 1 ∧ lsq d x y w k) ∨ (m = 0 ∧ stp d x y w)) (hk : ¬ m = 0 → k = w + 1) : (m = 1 ∧ lsq d x y w (w + 1)) ∨ (m = 0 ∧ stp d x y w) := by
  rcases h with ⟨h1, h2⟩ | h
  · rw [← hk (by omega)]; exact Or.inl ⟨h1, h2⟩
  · exact Or.inr h
/-- the widest clear square from a cell on -/
def clrF (d : Nat → Nat) (x y w : Nat) : Prop := clr d x y w ∧ x + w ≤ 6 ∧ y + w ≤ 6 ∧ stp d x y w
theorem lsq_first {d : Nat → Nat} {x y w g : Nat} (h : (g = 1 ∧ x + w < 6 ∧ y + w < 6) ∨ (g = 0 ∧ ¬ (x + w < 6 ∧ y + w < 6))) : (g = 1 ∧ lsq d x y w 0) ∨ (g = 0 ∧ stp d x y w) := by
  rcases h with ⟨h, h1, h2⟩ | ⟨h, h1⟩
  · exact Or.inl ⟨h, h1, h2, fun j hj => absurd hj (Nat.not_lt_zero j)⟩
  · exact Or.inr ⟨h, fun z => h1 ⟨z.1, z.2.1⟩⟩
set_option maxHeartbeats 4000000 in
set_option maxRecDepth 100000 in
theorem c_X12_clearFrom (l : Launch) (G : mvG) (a : Nat → Nat) (tx : Nat → Nat) (to : Nat → Nat) (dr : Nat → Nat) (be : Nat → Nat) (s : Nat → Nat) (pa : Nat → Nat) (im : Nat → Nat) (ke : Nat → Nat) (no : Nat → Nat) (fa : Nat → Nat) (tr : Nat) (ty : Nat) (kn : Nat) (nd : Nat) (att : Nat) (so : Nat) (ss : Nat) (va : Int) (x : Nat) (y : Nat) (hde : ∀ c, c < 36 → s (5 + c) < 80 ∧ s (5 + c) % 16 ≤ 9) (hx : x < 6) (hy : y < 6) : KQ l yX12_clearFrom cX12_clearFrom 6 (some .int) (1, 21) G [.ref (a 0), .int (nI x), .int (nI y)] [gMod G a (nF tx) (nF to) (nF dr) (nF be) (nF s) (nF pa) (nF im) (nF ke) (nF no) (nF fa) (lN tr) (nI ty) (nI kn) (nI nd) (nI att) (nI so) (nI ss) (iI va)] (fun (zz : Nat) => some (.int (nI zz))) (fun (zz : Nat) => clrF (fun c => s (5 + c) % 16) x y zz) (fun (zz : Nat) => [gMod G a (nF tx) (nF to) (nF dr) (nF be) (nF s) (nF pa) (nF im) (nF ke) (nF no) (nF fa) (lN tr) (nI ty) (nI kn) (nI nd) (nI att) (nI so) (nI ss) (iI va)]) := by
  refine KQ.mk (by decide +kernel) (fun _ _ => rfl) [some (.ref (a 0)), some (.int (nI x)), some (.int (nI y)), none, none, none] (Nat.le_of_ble_eq_true rfl) rfl (fun C X Y hC => ?_)
  subst hC
  refine V_iconst X (nI 0) dX12_clearFrom_0 (by decide) ?_
  refine V_istore_n X dX12_clearFrom_1 (by decide) rfl ?_
  refine V_iconst X (nI 1) dX12_clearFrom_2 (by decide) ?_
  refine V_istore X dX12_clearFrom_3 (by decide) rfl ?_
  have L_5 : ∀ (fz_5 : Nat) (w : Nat) (m : Nat) (hw : x + w ≤ 6 ∧ y + w ≤ 6) (hc : clr (fun c => s (5 + c) % 16) x y w) (hm0 : m = 1 ∨ (m = 0 ∧ stp (fun c => s (5 + c) % 16) x y w)), (2 * (6 - w) + m) < fz_5 → V C 0 0 [gMod G a (nF tx) (nF to) (nF dr) (nF be) (nF s) (nF pa) (nF im) (nF ke) (nF no) (nF fa) (lN tr) (nI ty) (nI kn) (nI nd) (nI att) (nI so) (nI ss) (iI va)] 5 [some (.ref (a 0)), some (.int (nI x)), some (.int (nI y)), some (.int (nI w)), some (.int (nI m)), none] [] := by
    intro fz_5
    induction fz_5 with
    | zero => intro w m hw hc hm0 hf_5; exact absurd hf_5 (Nat.not_lt_zero _)
    | succ fz_5 ih_5 =>
      intro w m hw hc hm0 hf_5
      refine V_iload X dX12_clearFrom_5 rfl ?_
      refine V_if_eqN X 112 dX12_clearFrom_7 (by decide) (by omega) (fun c_1 => ?_) (fun c_1 => ?_)
      · refine V_iload_n X dX12_clearFrom_112 rfl ?_
        exact V_iret X Y w ⟨hc, hw.1, hw.2, (hm0.resolve_left (by omega)).2⟩ rfl rfl rfl dX12_clearFrom_113
      · refine V_iload_n X dX12_clearFrom_10 rfl ?_
        refine V_iload_n X dX12_clearFrom_11 rfl ?_
        refine V_iaddN X dX12_clearFrom_12 ?_
        refine V_bipush X (nI 6) dX12_clearFrom_13 (by decide) ?_
        have J_31_2 : ∀ (g : Nat) (hg : (g = 1 ∧ x + w < 6 ∧ y + w < 6) ∨ (g = 0 ∧ ¬ (x + w < 6 ∧ y + w < 6))), V C 0 0 [gMod G a (nF tx) (nF to) (nF dr) (nF be) (nF s) (nF pa) (nF im) (nF ke) (nF no) (nF fa) (lN tr) (nI ty) (nI kn) (nI nd) (nI att) (nI so) (nI ss) (iI va)] 31 [some (.ref (a 0)), some (.int (nI x)), some (.int (nI y)), some (.int (nI w)), some (.int (nI m)), none] [.int (nI g)] := by
          intro g hg
          refine V_istore X dX12_clearFrom_31 (by decide) rfl ?_
          refine V_iconst X (nI 0) dX12_clearFrom_33 (by decide) ?_
          refine V_istore X dX12_clearFrom_34 (by decide) rfl ?_
          have L_36 : ∀ (fz_36 : Nat) (k : Nat) (m : Nat) (hk : k ≤ w + 1) (hm : (m = 1 ∧ lsq (fun c => s (5 + c) % 16) x y w k) ∨ (m = 0 ∧ stp (fun c => s (5 + c) % 16) x y w)), (w + 1 - k) < fz_36 → V C 0 0 [gMod G a (nF tx) (nF to) (nF dr) (nF be) (nF s) (nF pa) (nF im) (nF ke) (nF no) (nF fa) (lN tr) (nI ty) (nI kn) (nI nd) (nI att) (nI so) (nI ss) (iI va)] 36 [some (.ref (a 0)), some (.int (nI x)), some (.int (nI y)), some (.int (nI w)), some (.int (nI m)), some (.int (nI k))] [] := by
            intro fz_36
            induction fz_36 with
            | zero => intro k m hk hm hf_36; exact absurd hf_36 (Nat.not_lt_zero _)
            | succ fz_36 ih_36 =>
              intro k m hk hm hf_36
              refine V_iload X dX12_clearFrom_36 rfl ?_
              refine V_iload_n X dX12_clearFrom_38 rfl ?_
              refine V_icmp_gtN X 96 dX12_clearFrom_39 (by decide) (by omega) (by omega) (fun c_3 => ?_) (fun c_3 => ?_)
              · have hM : ((m = 1 ∧ lsq (fun c => s (5 + c) % 16) x y w (w + 1)) ∨ (m = 0 ∧ stp (fun c => s (5 + c) % 16) x y w)) := lsq_m hm (by omega)
                have hO := lsq_out hM hc (by omega) (by omega)
                refine V_iload_n X dX12_clearFrom_96 rfl ?_
                refine V_iload X dX12_clearFrom_97 rfl ?_
                have J_107_4 : ∀ (e : Nat) (he : e = m), V C 0 0 [gMod G a (nF tx) (nF to) (nF dr) (nF be) (nF s) (nF pa) (nF im) (nF ke) (nF no) (nF fa) (lN tr) (nI ty) (nI kn) (nI nd) (nI att) (nI so) (nI ss) (iI va)] 107 [some (.ref (a 0)), some (.int (nI x)), some (.int (nI y)), some (.int (nI w)), some (.int (nI m)), some (.int (nI k))] [.int (nI e), .int (nI w)] := by
                  intro e he
                  refine V_iaddN X dX12_clearFrom_107 ?_
                  refine V_istore_n X dX12_clearFrom_108 (by decide) rfl ?_
                  refine V_goto X 5 dX12_clearFrom_109 (by decide) ?_
                  refine V_weak (lv' := [some (.ref (a 0)), some (.int (nI x)), some (.int (nI y)), some (.int (nI (w + e))), some (.int (nI m)), none]) (And.intro rfl (And.intro rfl (And.intro rfl (And.intro rfl (And.intro rfl trivial))))) ?_
                  exact ih_5 (w + e) m (by rw [he]; exact ⟨hO.2.1, hO.2.2.1⟩) (by rw [he]; exact hO.1) (by rw [he]; exact hO.2.2.2) (by have := hO.2.1; omega)
                refine V_if_eqN X 106 dX12_clearFrom_99 (by decide) (by omega) (fun c_4 => ?_) (fun c_4 => ?_)
                · refine V_iconst X (nI 0) dX12_clearFrom_106 (by decide) ?_
                  refine V_weak (lv' := [some (.ref (a 0)), some (.int (nI x)), some (.int (nI y)), some (.int (nI w)), some (.int (nI m)), some (.int (nI k))]) (And.intro rfl (And.intro rfl (And.intro rfl (And.intro rfl (And.intro rfl (And.intro rfl trivial)))))) ?_
                  exact J_107_4 0 (by omega)
                · refine V_iconst X (nI 1) dX12_clearFrom_102 (by decide) ?_
                  refine V_goto X 107 dX12_clearFrom_103 (by decide) ?_
                  refine V_weak (lv' := [some (.ref (a 0)), some (.int (nI x)), some (.int (nI y)), some (.int (nI w)), some (.int (nI m)), some (.int (nI k))]) (And.intro rfl (And.intro rfl (And.intro rfl (And.intro rfl (And.intro rfl (And.intro rfl trivial)))))) ?_
                  exact J_107_4 1 (by omega)
              · refine V_iload X dX12_clearFrom_42 rfl ?_
                refine V_if_eqN X 96 dX12_clearFrom_44 (by decide) (by omega) (fun c_5 => ?_) (fun c_5 => ?_)
                · have hM : ((m = 1 ∧ lsq (fun c => s (5 + c) % 16) x y w (w + 1)) ∨ (m = 0 ∧ stp (fun c => s (5 + c) % 16) x y w)) := lsq_m hm (by omega)
                  have hO := lsq_out hM hc (by omega) (by omega)
                  refine V_iload_n X dX12_clearFrom_96 rfl ?_
                  refine V_iload X dX12_clearFrom_97 rfl ?_
                  have J_107_6 : ∀ (e : Nat) (he : e = m), V C 0 0 [gMod G a (nF tx) (nF to) (nF dr) (nF be) (nF s) (nF pa) (nF im) (nF ke) (nF no) (nF fa) (lN tr) (nI ty) (nI kn) (nI nd) (nI att) (nI so) (nI ss) (iI va)] 107 [some (.ref (a 0)), some (.int (nI x)), some (.int (nI y)), some (.int (nI w)), some (.int (nI m)), some (.int (nI k))] [.int (nI e), .int (nI w)] := by
                    intro e he
                    refine V_iaddN X dX12_clearFrom_107 ?_
                    refine V_istore_n X dX12_clearFrom_108 (by decide) rfl ?_
                    refine V_goto X 5 dX12_clearFrom_109 (by decide) ?_
                    refine V_weak (lv' := [some (.ref (a 0)), some (.int (nI x)), some (.int (nI y)), some (.int (nI (w + e))), some (.int (nI m)), none]) (And.intro rfl (And.intro rfl (And.intro rfl (And.intro rfl (And.intro rfl trivial))))) ?_
                    exact ih_5 (w + e) m (by rw [he]; exact ⟨hO.2.1, hO.2.2.1⟩) (by rw [he]; exact hO.1) (by rw [he]; exact hO.2.2.2) (by have := hO.2.1; omega)
                  refine V_if_eqN X 106 dX12_clearFrom_99 (by decide) (by omega) (fun c_6 => ?_) (fun c_6 => ?_)
                  · refine V_iconst X (nI 0) dX12_clearFrom_106 (by decide) ?_
                    refine V_weak (lv' := [some (.ref (a 0)), some (.int (nI x)), some (.int (nI y)), some (.int (nI w)), some (.int (nI m)), some (.int (nI k))]) (And.intro rfl (And.intro rfl (And.intro rfl (And.intro rfl (And.intro rfl (And.intro rfl trivial)))))) ?_
                    exact J_107_6 0 (by omega)
                  · refine V_iconst X (nI 1) dX12_clearFrom_102 (by decide) ?_
                    refine V_goto X 107 dX12_clearFrom_103 (by decide) ?_
                    refine V_weak (lv' := [some (.ref (a 0)), some (.int (nI x)), some (.int (nI y)), some (.int (nI w)), some (.int (nI m)), some (.int (nI k))]) (And.intro rfl (And.intro rfl (And.intro rfl (And.intro rfl (And.intro rfl (And.intro rfl trivial)))))) ?_
                    exact J_107_6 1 (by omega)
                · have hls := (hm.resolve_right (by omega)).2
                  have hl1 := hls.1
                  have hl2 := hls.2.1
                  refine V_aload_n X dX12_clearFrom_47 rfl ?_
                  refine V_bipush X (nI 6) dX12_clearFrom_48 (by decide) ?_
                  refine V_iload_n X dX12_clearFrom_50 rfl ?_
                  refine V_iload_n X dX12_clearFrom_51 rfl ?_
                  refine V_iaddN X dX12_clearFrom_52 ?_
                  refine V_imulN X dX12_clearFrom_53 ?_
                  refine V_iload_n X dX12_clearFrom_54 rfl ?_
                  refine V_iaddN X dX12_clearFrom_55 ?_
                  refine V_iload X dX12_clearFrom_56 rfl ?_
                  refine V_iaddN X dX12_clearFrom_58 ?_
                  refine V_callV (rest := []) X (c_X12_deep (Cl C) G a tx to dr be s pa im ke no fa tr ty kn nd att so ss va (((6 * (x + w)) + y) + k) (by first | assumption | omega) (by first | assumption | omega)) mi_X12_deep kw_4_84 kw_4_86 kw_s_33 dX12_clearFrom_59 [0] rfl (by decide) 0 0 rfl rfl rfl rfl rfl rfl (by decide) (Nat.le_of_ble_eq_true rfl) ⟨rfl, rfl⟩ (fun _ _ => ?_)
                  show V C 0 0 [gMod G a (nF tx) (nF to) (nF dr) (nF be) (nF s) (nF pa) (nF im) (nF ke) (nF no) (nF fa) (lN tr) (nI ty) (nI kn) (nI nd) (nI att) (nI so) (nI ss) (iI va)] 62 [some (.ref (a 0)), some (.int (nI x)), some (.int (nI y)), some (.int (nI w)), some (.int (nI m)), some (.int (nI k))] [.int (nI (s (5 + (((6 * (x + w)) + y) + k)) % 16))]
                  have J_88_7 : ∀ (h : Nat) (hh : (h = 1 ∧ s (5 + (6 * (x + w) + y + k)) % 16 = 0 ∧ s (5 + (6 * (x + k) + y + w)) % 16 = 0) ∨ (h = 0 ∧ ¬ (s (5 + (6 * (x + w) + y + k)) % 16 = 0 ∧ s (5 + (6 * (x + k) + y + w)) % 16 = 0))), V C 0 0 [gMod G a (nF tx) (nF to) (nF dr) (nF be) (nF s) (nF pa) (nF im) (nF ke) (nF no) (nF fa) (lN tr) (nI ty) (nI kn) (nI nd) (nI att) (nI so) (nI ss) (iI va)] 88 [some (.ref (a 0)), some (.int (nI x)), some (.int (nI y)), some (.int (nI w)), some (.int (nI m)), some (.int (nI k))] [.int (nI h)] := by
                    intro h hh
                    refine V_istore X dX12_clearFrom_88 (by decide) rfl ?_
                    refine V_iincN X (c := 1) dX12_clearFrom_90 rfl (by decide) rfl ?_
                    refine V_goto X 36 dX12_clearFrom_93 (by decide) ?_
                    refine V_weak (lv' := [some (.ref (a 0)), some (.int (nI x)), some (.int (nI y)), some (.int (nI w)), some (.int (nI h)), some (.int (nI (k + 1)))]) (And.intro rfl (And.intro rfl (And.intro rfl (And.intro rfl (And.intro rfl (And.intro rfl trivial)))))) ?_
                    exact ih_36 (k + 1) h (by omega) (lsq_next hls (by omega) hh) (by omega)
                  refine V_if_neN X 87 dX12_clearFrom_62 (by decide) (by omega) (fun c_7 => ?_) (fun c_7 => ?_)
                  · refine V_iconst X (nI 0) dX12_clearFrom_87 (by decide) ?_
                    refine V_weak (lv' := [some (.ref (a 0)), some (.int (nI x)), some (.int (nI y)), some (.int (nI w)), some (.int (nI m)), some (.int (nI k))]) (And.intro rfl (And.intro rfl (And.intro rfl (And.intro rfl (And.intro rfl (And.intro rfl trivial)))))) ?_
                    exact J_88_7 0 (by omega)
                  · refine V_aload_n X dX12_clearFrom_65 rfl ?_
                    refine V_bipush X (nI 6) dX12_clearFrom_66 (by decide) ?_
                    refine V_iload_n X dX12_clearFrom_68 rfl ?_
                    refine V_iload X dX12_clearFrom_69 rfl ?_
                    refine V_iaddN X dX12_clearFrom_71 ?_
                    refine V_imulN X dX12_clearFrom_72 ?_
                    refine V_iload_n X dX12_clearFrom_73 rfl ?_
                    refine V_iaddN X dX12_clearFrom_74 ?_
                    refine V_iload_n X dX12_clearFrom_75 rfl ?_
                    refine V_iaddN X dX12_clearFrom_76 ?_
                    refine V_callV (rest := []) X (c_X12_deep (Cl C) G a tx to dr be s pa im ke no fa tr ty kn nd att so ss va (((6 * (x + k)) + y) + w) (by first | assumption | omega) (by first | assumption | omega)) mi_X12_deep kw_4_84 kw_4_86 kw_s_33 dX12_clearFrom_77 [0] rfl (by decide) 0 0 rfl rfl rfl rfl rfl rfl (by decide) (Nat.le_of_ble_eq_true rfl) ⟨rfl, rfl⟩ (fun _ _ => ?_)
                    show V C 0 0 [gMod G a (nF tx) (nF to) (nF dr) (nF be) (nF s) (nF pa) (nF im) (nF ke) (nF no) (nF fa) (lN tr) (nI ty) (nI kn) (nI nd) (nI att) (nI so) (nI ss) (iI va)] 80 [some (.ref (a 0)), some (.int (nI x)), some (.int (nI y)), some (.int (nI w)), some (.int (nI m)), some (.int (nI k))] [.int (nI (s (5 + (((6 * (x + k)) + y) + w)) % 16))]
                    refine V_if_neN X 87 dX12_clearFrom_80 (by decide) (by omega) (fun c_8 => ?_) (fun c_8 => ?_)
                    · refine V_iconst X (nI 0) dX12_clearFrom_87 (by decide) ?_
                      refine V_weak (lv' := [some (.ref (a 0)), some (.int (nI x)), some (.int (nI y)), some (.int (nI w)), some (.int (nI m)), some (.int (nI k))]) (And.intro rfl (And.intro rfl (And.intro rfl (And.intro rfl (And.intro rfl (And.intro rfl trivial)))))) ?_
                      exact J_88_7 0 (by omega)
                    · refine V_iconst X (nI 1) dX12_clearFrom_83 (by decide) ?_
                      refine V_goto X 88 dX12_clearFrom_84 (by decide) ?_
                      refine V_weak (lv' := [some (.ref (a 0)), some (.int (nI x)), some (.int (nI y)), some (.int (nI w)), some (.int (nI m)), some (.int (nI k))]) (And.intro rfl (And.intro rfl (And.intro rfl (And.intro rfl (And.intro rfl (And.intro rfl trivial)))))) ?_
                      exact J_88_7 1 (by omega)
          refine V_weak (lv' := [some (.ref (a 0)), some (.int (nI x)), some (.int (nI y)), some (.int (nI w)), some (.int (nI g)), some (.int (nI 0))]) (And.intro rfl (And.intro rfl (And.intro rfl (And.intro rfl (And.intro rfl (And.intro rfl trivial)))))) ?_
          exact L_36 _ 0 g (by omega) (lsq_first hg) (Nat.lt_succ_self _)
        refine V_icmp_geN X 30 dX12_clearFrom_15 (by decide) (by omega) (by decide) (fun c_2 => ?_) (fun c_2 => ?_)
        · refine V_iconst X (nI 0) dX12_clearFrom_30 (by decide) ?_
          refine V_weak (lv' := [some (.ref (a 0)), some (.int (nI x)), some (.int (nI y)), some (.int (nI w)), some (.int (nI m)), none]) (And.intro rfl (And.intro rfl (And.intro rfl (And.intro rfl (And.intro rfl trivial))))) ?_
          exact J_31_2 0 (by omega)
        · refine V_iload_n X dX12_clearFrom_18 rfl ?_
          refine V_iload_n X dX12_clearFrom_19 rfl ?_
          refine V_iaddN X dX12_clearFrom_20 ?_
          refine V_bipush X (nI 6) dX12_clearFrom_21 (by decide) ?_
          refine V_icmp_geN X 30 dX12_clearFrom_23 (by decide) (by omega) (by decide) (fun c_9 => ?_) (fun c_9 => ?_)
          · refine V_iconst X (nI 0) dX12_clearFrom_30 (by decide) ?_
            refine V_weak (lv' := [some (.ref (a 0)), some (.int (nI x)), some (.int (nI y)), some (.int (nI w)), some (.int (nI m)), none]) (And.intro rfl (And.intro rfl (And.intro rfl (And.intro rfl (And.intro rfl trivial))))) ?_
            exact J_31_2 0 (by omega)
          · refine V_iconst X (nI 1) dX12_clearFrom_26 (by decide) ?_
            refine V_goto X 31 dX12_clearFrom_27 (by decide) ?_
            refine V_weak (lv' := [some (.ref (a 0)), some (.int (nI x)), some (.int (nI y)), some (.int (nI w)), some (.int (nI m)), none]) (And.intro rfl (And.intro rfl (And.intro rfl (And.intro rfl (And.intro rfl trivial))))) ?_
            exact J_31_2 1 (by omega)
  refine V_weak (lv' := [some (.ref (a 0)), some (.int (nI x)), some (.int (nI y)), some (.int (nI 0)), some (.int (nI 1)), none]) (And.intro rfl (And.intro rfl (And.intro rfl (And.intro rfl (And.intro rfl trivial))))) ?_
  exact L_5 _ 0 1 (by omega) (clr_0 _ x y) (Or.inl rfl) (Nat.lt_succ_self _)
