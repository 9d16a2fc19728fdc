theorem fitF_0 (w : Nat → Nat) (n : Nat) (el fd : Nat → Nat) (e : Nat) : fitF w n el fd 0 e := fun j h => absurd h (Nat.not_lt_zero j)
theorem fitF_next {w : Nat → Nat} {n : Nat} {el fd : Nat → Nat} {k e so b : Nat} (h : (so = 1 ∧ fitF w n el fd k e) ∨ (so = 0 ∧ ¬ fitF w n el fd k e)) (hb : (b = 1 ∧ ¬ so = 0 ∧ min 9 (bSum w (e &&& (el k ^^^ 31)) n) = fd k) ∨ (b = 0 ∧ (so = 0 ∨ ¬ min 9 (bSum w (e &&& (el k ^^^ 31)) n) = fd k))) : (b = 1 ∧ fitF w n el fd (k + 1) e) ∨ (b = 0 ∧ ¬ fitF w n el fd (k + 1) e) := by
  rcases hb with ⟨hb, h1, h2⟩ | ⟨hb, h1⟩
  · refine Or.inl ⟨hb, fun j hj => ?_⟩
    by_cases f : j = k
    · rw [f]; exact h2
    · rcases h with h3 | h3
      · exact h3.2 j (by omega)
      · exact absurd h3.1 h1
  · refine Or.inr ⟨hb, fun z => ?_⟩
    rcases h1 with h1 | h1
    · rcases h with h3 | h3
      · omega
      · exact h3.2 (fun j hj => z j (by omega))
    · exact h1 (z k (by omega))
set_option maxHeartbeats 4000000 in
set_option maxRecDepth 100000 in
theorem c_X12_isSo (l : Launch) (G : mvG) (a : Nat → Nat) (tx : Nat → Nat) (to : Nat → Nat) (dr : Nat → Nat) (be : Nat → Nat) (s : Nat → Nat) (pa : Nat → Nat) (im : Nat → Nat) (ke : Nat → Nat) (no : Nat → Nat) (fa : Nat → Nat) (tr : Nat) (ty : Nat) (kn : Nat) (nd : Nat) (att : Nat) (so : Nat) (ss : Nat) (va : Int) (e : Nat) (hn : to 0 ≤ 5) (hwt : ∀ j, j < 5 → to (4 + j) ≤ 4) (hno : ∀ j, j < nd → no j / 16 < 32 ∧ no j % 16 ≤ 9) (hnd : nd ≤ 6) (he : e < 32) : KQ l yX12_isSo cX12_isSo 6 (some .boolean) (1, 21) G [.ref (a 0), .int (nI e)] [gMod G a (nF tx) (nF to) (nF dr) (nF be) (nF s) (nF pa) (nF im) (nF ke) (nF no) (nF fa) (lN tr) (nI ty) (nI kn) (nI nd) (nI att) (nI so) (nI ss) (iI va)] (fun (zz : Nat) => some (.int (nI zz))) (fun (zz : Nat) => (zz = 1 ∧ fitF (fun j => to (4 + j)) (to 0) (fun j => no j / 16) (fun j => no j % 16) nd e) ∨ (zz = 0 ∧ ¬ fitF (fun j => to (4 + j)) (to 0) (fun j => no j / 16) (fun j => no j % 16) nd e)) (fun (zz : Nat) => [gMod G a (nF tx) (nF to) (nF dr) (nF be) (nF s) (nF pa) (nF im) (nF ke) (nF no) (nF fa) (lN tr) (nI ty) (nI kn) (nI nd) (nI att) (nI so) (nI ss) (iI va)]) := by
  refine KQ.mk (by decide +kernel) (fun _ _ => rfl) [some (.ref (a 0)), some (.int (nI e)), none, none, none, none] (Nat.le_of_ble_eq_true rfl) rfl (fun C X Y hC => ?_)
  subst hC
  refine V_iconst X (nI 1) dX12_isSo_0 (by decide) ?_
  refine V_istore_n X dX12_isSo_1 (by decide) rfl ?_
  refine V_iconst X (nI 0) dX12_isSo_2 (by decide) ?_
  refine V_istore_n X dX12_isSo_3 (by decide) rfl ?_
  have L_4 : ∀ (fz_4 : Nat) (oq : Nat) (k : Nat) (hk : k ≤ nd ∧ oq ≤ 1) (hf : (oq = 1 ∧ fitF (fun j => to (4 + j)) (to 0) (fun j => no j / 16) (fun j => no j % 16) k e) ∨ (oq = 0 ∧ ¬ fitF (fun j => to (4 + j)) (to 0) (fun j => no j / 16) (fun j => no j % 16) k e)), (nd - k) < fz_4 → V C 0 0 [gMod G a (nF tx) (nF to) (nF dr) (nF be) (nF s) (nF pa) (nF im) (nF ke) (nF no) (nF fa) (lN tr) (nI ty) (nI kn) (nI nd) (nI att) (nI so) (nI ss) (iI va)] 4 [some (.ref (a 0)), some (.int (nI e)), some (.int (nI oq)), some (.int (nI k)), none, none] [] := by
    intro fz_4
    induction fz_4 with
    | zero => intro oq k hk hf hf_4; exact absurd hf_4 (Nat.not_lt_zero _)
    | succ fz_4 ih_4 =>
      intro oq k hk hf hf_4
      refine V_iload_n X dX12_isSo_4 rfl ?_
      refine V_aload_n X dX12_isSo_5 rfl ?_
      refine V_get X fl_X12_92 0 0 rfl rfl rfl dX12_isSo_6 ?_
      refine V_icmp_geN X 116 dX12_isSo_9 (by decide) (by omega) (by omega) (fun c_1 => ?_) (fun c_1 => ?_)
      · refine V_iload_n X dX12_isSo_116 rfl ?_
        exact V_iret X Y oq (by rw [show k = nd by omega] at hf; exact hf) rfl (mv_nz (by omega)) rfl dX12_isSo_117
      · have hnk := hno k (by omega)
        refine V_iconst X (nI 0) dX12_isSo_12 (by decide) ?_
        refine V_istore X dX12_isSo_13 (by decide) rfl ?_
        refine V_iconst X (nI 0) dX12_isSo_15 (by decide) ?_
        refine V_istore X dX12_isSo_16 (by decide) rfl ?_
        have L_18 : ∀ (fz_18 : Nat) (x : Nat) (p : Nat) (hp : p ≤ to 0) (hx : x = bSum (fun j => to (4 + j)) (e &&& (no k / 16 ^^^ 31)) p), (to 0 - p) < fz_18 → V C 0 0 [gMod G a (nF tx) (nF to) (nF dr) (nF be) (nF s) (nF pa) (nF im) (nF ke) (nF no) (nF fa) (lN tr) (nI ty) (nI kn) (nI nd) (nI att) (nI so) (nI ss) (iI va)] 18 [some (.ref (a 0)), some (.int (nI e)), some (.int (nI oq)), some (.int (nI k)), some (.int (nI x)), some (.int (nI p))] [] := by
          intro fz_18
          induction fz_18 with
          | zero => intro x p hp hx hf_18; exact absurd hf_18 (Nat.not_lt_zero _)
          | succ fz_18 ih_18 =>
            intro x p hp hx hf_18
            refine V_iload X dX12_isSo_18 rfl ?_
            refine V_aload_n X dX12_isSo_20 rfl ?_
            refine V_get X fl_X12_13 0 0 rfl rfl rfl dX12_isSo_21 ?_
            refine V_iconst X (nI 0) dX12_isSo_24 (by decide) ?_
            refine V_ialdN X 0 2 rfl rfl (by decide) (by decide) dX12_isSo_25 ?_
            refine V_icmp_geN X 74 dX12_isSo_26 (by decide) (by omega) (by omega) (fun c_2 => ?_) (fun c_2 => ?_)
            · have hxe : x = bSum (fun j => to (4 + j)) (e &&& (no k / 16 ^^^ 31)) (to 0) := by rw [hx, show p = to 0 by omega]
              have hbs := bSum_le (f := (fun j => to (4 + j))) (e &&& (no k / 16 ^^^ 31)) (to 0) (fun j hj => Nat.le_trans (hwt j (by omega)) (by decide))
              refine V_iload_n X dX12_isSo_74 rfl ?_
              have J_109_3 : ∀ (b : Nat) (hb : (b = 1 ∧ ¬ oq = 0 ∧ min 9 (bSum (fun j => to (4 + j)) (e &&& (no k / 16 ^^^ 31)) (to 0)) = no k % 16) ∨ (b = 0 ∧ (oq = 0 ∨ ¬ min 9 (bSum (fun j => to (4 + j)) (e &&& (no k / 16 ^^^ 31)) (to 0)) = no k % 16))) (hb1 : b ≤ 1), V C 0 0 [gMod G a (nF tx) (nF to) (nF dr) (nF be) (nF s) (nF pa) (nF im) (nF ke) (nF no) (nF fa) (lN tr) (nI ty) (nI kn) (nI nd) (nI att) (nI so) (nI ss) (iI va)] 109 [some (.ref (a 0)), some (.int (nI e)), some (.int (nI oq)), some (.int (nI k)), some (.int (nI x)), some (.int (nI p))] [.int (nI b)] := by
                intro b hb hb1
                refine V_istore_n X dX12_isSo_109 (by decide) rfl ?_
                refine V_iincN X (c := 1) dX12_isSo_110 rfl (by decide) rfl ?_
                refine V_goto X 4 dX12_isSo_113 (by decide) ?_
                refine V_weak (lv' := [some (.ref (a 0)), some (.int (nI e)), some (.int (nI b)), some (.int (nI (k + 1))), none, none]) (And.intro rfl (And.intro rfl (And.intro rfl (And.intro rfl trivial)))) ?_
                exact ih_4 b (k + 1) (by omega) (fitF_next hf hb) (by omega)
              refine V_if_eqN X 108 dX12_isSo_75 (by decide) (by omega) (fun c_3 => ?_) (fun c_3 => ?_)
              · refine V_iconst X (nI 0) dX12_isSo_108 (by decide) ?_
                refine V_weak (lv' := [some (.ref (a 0)), some (.int (nI e)), some (.int (nI oq)), some (.int (nI k)), some (.int (nI x)), some (.int (nI p))]) (And.intro rfl (And.intro rfl (And.intro rfl (And.intro rfl (And.intro rfl (And.intro rfl trivial)))))) ?_
                exact J_109_3 0 (by omega) (by omega)
              · refine V_iload X dX12_isSo_78 rfl ?_
                refine V_bipush X (nI 9) dX12_isSo_80 (by decide) ?_
                have J_92_4 : ∀ (m : Nat) (hm : m = min 9 x), V C 0 0 [gMod G a (nF tx) (nF to) (nF dr) (nF be) (nF s) (nF pa) (nF im) (nF ke) (nF no) (nF fa) (lN tr) (nI ty) (nI kn) (nI nd) (nI att) (nI so) (nI ss) (iI va)] 92 [some (.ref (a 0)), some (.int (nI e)), some (.int (nI oq)), some (.int (nI k)), some (.int (nI x)), some (.int (nI p))] [.int (nI m)] := by
                  intro m hm
                  refine V_aload_n X dX12_isSo_92 rfl ?_
                  refine V_get X fl_X12_35 0 0 rfl rfl rfl dX12_isSo_93 ?_
                  refine V_iload_n X dX12_isSo_96 rfl ?_
                  refine V_ialdN X 0 9 rfl rfl (by omega) (by decide) dX12_isSo_97 ?_
                  refine V_bipush X (nI 16) dX12_isSo_98 (by decide) ?_
                  refine V_iremN X dX12_isSo_100 (by omega) (by omega) (by omega) ?_
                  refine V_icmp_neN X 108 dX12_isSo_101 (by decide) (by omega) (by omega) (fun c_5 => ?_) (fun c_5 => ?_)
                  · refine V_iconst X (nI 0) dX12_isSo_108 (by decide) ?_
                    refine V_weak (lv' := [some (.ref (a 0)), some (.int (nI e)), some (.int (nI oq)), some (.int (nI k)), some (.int (nI x)), some (.int (nI p))]) (And.intro rfl (And.intro rfl (And.intro rfl (And.intro rfl (And.intro rfl (And.intro rfl trivial)))))) ?_
                    exact J_109_3 0 (by omega) (by omega)
                  · refine V_iconst X (nI 1) dX12_isSo_104 (by decide) ?_
                    refine V_goto X 109 dX12_isSo_105 (by decide) ?_
                    refine V_weak (lv' := [some (.ref (a 0)), some (.int (nI e)), some (.int (nI oq)), some (.int (nI k)), some (.int (nI x)), some (.int (nI p))]) (And.intro rfl (And.intro rfl (And.intro rfl (And.intro rfl (And.intro rfl (And.intro rfl trivial)))))) ?_
                    exact J_109_3 1 (by omega) (by omega)
                refine V_icmp_leN X 90 dX12_isSo_82 (by decide) (by omega) (by decide) (fun c_4 => ?_) (fun c_4 => ?_)
                · refine V_iload X dX12_isSo_90 rfl ?_
                  refine V_weak (lv' := [some (.ref (a 0)), some (.int (nI e)), some (.int (nI oq)), some (.int (nI k)), some (.int (nI x)), some (.int (nI p))]) (And.intro rfl (And.intro rfl (And.intro rfl (And.intro rfl (And.intro rfl (And.intro rfl trivial)))))) ?_
                  exact J_92_4 x (by omega)
                · refine V_bipush X (nI 9) dX12_isSo_85 (by decide) ?_
                  refine V_goto X 92 dX12_isSo_87 (by decide) ?_
                  refine V_weak (lv' := [some (.ref (a 0)), some (.int (nI e)), some (.int (nI oq)), some (.int (nI k)), some (.int (nI x)), some (.int (nI p))]) (And.intro rfl (And.intro rfl (And.intro rfl (And.intro rfl (And.intro rfl (And.intro rfl trivial)))))) ?_
                  exact J_92_4 9 (by omega)
            · refine V_iload X dX12_isSo_29 rfl ?_
              refine V_iload_n X dX12_isSo_31 rfl ?_
              refine V_aload_n X dX12_isSo_32 rfl ?_
              refine V_get X fl_X12_35 0 0 rfl rfl rfl dX12_isSo_33 ?_
              refine V_iload_n X dX12_isSo_36 rfl ?_
              refine V_ialdN X 0 9 rfl rfl (by omega) (by decide) dX12_isSo_37 ?_
              refine V_bipush X (nI 16) dX12_isSo_38 (by decide) ?_
              refine V_idivN X dX12_isSo_40 (by omega) (by omega) (by omega) ?_
              refine V_iconst X (-1) dX12_isSo_41 (by decide) ?_
              refine V_ixor X dX12_isSo_42 ?_
              refine V_iand X dX12_isSo_43 ?_
              refine V_topi (show ((nI e) &&& ((nI ((no k) / 16)) ^^^ (-1))) = (nI (e &&& (no k / 16 ^^^ 31))) from (mv_nand e he _ hnk.1)) ?_
              have hel : (e &&& (no k / 16 ^^^ 31)) < 32 := Nat.lt_of_le_of_lt Nat.and_le_left he
              refine V_iload X dX12_isSo_44 rfl ?_
              refine V_callS (rest := [.int (nI x)]) X (c_X12_has (Cl C) G (e &&& (no k / 16 ^^^ 31)) p (by first | assumption | omega) (by first | assumption | omega)) mi_X12_has kw_4_123 kw_4_124 dX12_isSo_46 [] rfl (by decide) rfl rfl (by decide) (Nat.le_of_ble_eq_true rfl) ⟨rfl, rfl⟩ (fun u_ hu_7 => ?_)
              obtain ⟨b_6, rfl⟩ : ∃ z, z = u_ := ⟨_, rfl⟩
              have hu_7 : (b_6 = 1 ∧ ¬ (e &&& (no k / 16 ^^^ 31)) &&& 2 ^ p = 0) ∨ (b_6 = 0 ∧ (e &&& (no k / 16 ^^^ 31)) &&& 2 ^ p = 0) := hu_7
              show V C 0 0 [gMod G a (nF tx) (nF to) (nF dr) (nF be) (nF s) (nF pa) (nF im) (nF ke) (nF no) (nF fa) (lN tr) (nI ty) (nI kn) (nI nd) (nI att) (nI so) (nI ss) (iI va)] 49 [some (.ref (a 0)), some (.int (nI e)), some (.int (nI oq)), some (.int (nI k)), some (.int (nI x)), some (.int (nI p))] [.int (nI b_6), .int (nI x)]
              have J_65_8 : ∀ (z : Nat) (hz : z = if (e &&& (no k / 16 ^^^ 31)) &&& 2 ^ p = 0 then 0 else to (4 + p)), V C 0 0 [gMod G a (nF tx) (nF to) (nF dr) (nF be) (nF s) (nF pa) (nF im) (nF ke) (nF no) (nF fa) (lN tr) (nI ty) (nI kn) (nI nd) (nI att) (nI so) (nI ss) (iI va)] 65 [some (.ref (a 0)), some (.int (nI e)), some (.int (nI oq)), some (.int (nI k)), some (.int (nI x)), some (.int (nI p))] [.int (nI z), .int (nI x)] := by
                intro z hz
                refine V_iaddN X dX12_isSo_65 ?_
                refine V_istore X dX12_isSo_66 (by decide) rfl ?_
                refine V_iincN X (c := 1) dX12_isSo_68 rfl (by decide) rfl ?_
                refine V_goto X 18 dX12_isSo_71 (by decide) ?_
                refine V_weak (lv' := [some (.ref (a 0)), some (.int (nI e)), some (.int (nI oq)), some (.int (nI k)), some (.int (nI (x + z))), some (.int (nI (p + 1)))]) (And.intro rfl (And.intro rfl (And.intro rfl (And.intro rfl (And.intro rfl (And.intro rfl trivial)))))) ?_
                exact ih_18 (x + z) (p + 1) (by omega) (by rw [hx, hz]; rfl) (by omega)
              refine V_if_eqN X 64 dX12_isSo_49 (by decide) (by omega) (fun c_8 => ?_) (fun c_8 => ?_)
              · refine V_iconst X (nI 0) dX12_isSo_64 (by decide) ?_
                refine V_weak (lv' := [some (.ref (a 0)), some (.int (nI e)), some (.int (nI oq)), some (.int (nI k)), some (.int (nI x)), some (.int (nI p))]) (And.intro rfl (And.intro rfl (And.intro rfl (And.intro rfl (And.intro rfl (And.intro rfl trivial)))))) ?_
                exact J_65_8 0 (by first | rw [if_pos (by omega)] | rw [if_neg (by omega)])
              · refine V_aload_n X dX12_isSo_52 rfl ?_
                refine V_get X fl_X12_13 0 0 rfl rfl rfl dX12_isSo_53 ?_
                refine V_iconst X (nI 4) dX12_isSo_56 (by decide) ?_
                refine V_iload X dX12_isSo_57 rfl ?_
                refine V_iaddN X dX12_isSo_59 ?_
                refine V_ialdN X 0 2 rfl rfl (by omega) (by decide) dX12_isSo_60 ?_
                refine V_goto X 65 dX12_isSo_61 (by decide) ?_
                refine V_weak (lv' := [some (.ref (a 0)), some (.int (nI e)), some (.int (nI oq)), some (.int (nI k)), some (.int (nI x)), some (.int (nI p))]) (And.intro rfl (And.intro rfl (And.intro rfl (And.intro rfl (And.intro rfl (And.intro rfl trivial)))))) ?_
                exact J_65_8 (to (4 + p)) (by first | rw [if_pos (by omega)] | rw [if_neg (by omega)])
        refine V_weak (lv' := [some (.ref (a 0)), some (.int (nI e)), some (.int (nI oq)), some (.int (nI k)), some (.int (nI 0)), some (.int (nI 0))]) (And.intro rfl (And.intro rfl (And.intro rfl (And.intro rfl (And.intro rfl (And.intro rfl trivial)))))) ?_
        exact L_18 _ 0 0 (by omega) rfl (Nat.lt_succ_self _)
  refine V_weak (lv' := [some (.ref (a 0)), some (.int (nI e)), some (.int (nI 1)), some (.int (nI 0)), none, none]) (And.intro rfl (And.intro rfl (And.intro rfl (And.intro rfl trivial)))) ?_
  exact L_4 _ 1 0 (by omega) (Or.inl ⟨rfl, fitF_0 _ _ _ _ _⟩) (Nat.lt_succ_self _)
