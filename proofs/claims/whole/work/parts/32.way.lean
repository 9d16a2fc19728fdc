def cnt9 (F : Nat → Nat) : Nat → Nat
  | 0 => 0
  | n + 1 => cnt9 F n + (if F n = 99 then 1 else 0)
theorem cnt9_le (F : Nat → Nat) : ∀ n, cnt9 F n ≤ n
  | 0 => Nat.le_refl _
  | n + 1 => by
    have := cnt9_le F n
    simp only [cnt9]
    split <;> omega
theorem cnt9_lt {F : Nat → Nat} {c : Nat} (h : ¬ F c = 99) : ∀ n, c < n → cnt9 F n < n
  | 0, z => absurd z (by omega)
  | n + 1, z => by
    have h1 := cnt9_le F n
    simp only [cnt9]
    rcases Nat.lt_or_ge c n with g | g
    · have := cnt9_lt h n g
      split <;> omega
    · have e : c = n := by omega
      subst e
      rw [if_neg h]
      omega
theorem cnt9_out {F : Nat → Nat} {c v : Nat} : ∀ n, n ≤ c → cnt9 (va_up F c v) n = cnt9 F n
  | 0, _ => rfl
  | n + 1, h => by
    have h1 := cnt9_out (F := F) (c := c) (v := v) n (by omega)
    have e : va_up F c v n = F n := by
      simp only [va_up]
      rw [if_neg (by omega)]
    simp only [cnt9, h1, e]
theorem cnt9_up {F : Nat → Nat} {c v : Nat} (hF : F c = 99) (hv : ¬ v = 99) : ∀ n, c < n → cnt9 (va_up F c v) n + 1 = cnt9 F n
  | 0, h => absurd h (by omega)
  | n + 1, h => by
    rcases Nat.lt_or_ge c n with z | z
    · have h1 := cnt9_up hF hv n z
      have e : va_up F c v n = F n := by
        simp only [va_up]
        rw [if_neg (by omega)]
      simp only [cnt9, e]
      omega
    · have e : c = n := by omega
      subst e
      have h1 := cnt9_out (F := F) (c := c) (v := v) c (Nat.le_refl _)
      simp only [cnt9, h1]
      rw [show va_up F c v c = v by simp [va_up], if_neg hv, if_pos hF]
def WI (de : Nat → Nat) (fr : Nat) (F : Nat → Nat) (t m : Nat) : Prop := (∀ c, c < 36 → F c = 99 ∨ (F c ≤ t ∧ rch de fr (F c) c)) ∧ (∀ d, d ≤ t → ∀ c, c < 36 → rch de fr d c → F c ≤ d) ∧ ((m = 1 ∧ cnt9 F 36 + t ≤ 35) ∨ (m = 0 ∧ cnt9 F 36 + t ≤ 36 ∧ ∀ c, c < 36 → ¬ F c = t))
def WP (de : Nat → Nat) (fr : Nat) (F0 : Nat → Nat) (t : Nat) (F : Nat → Nat) (m c sd : Nat) : Prop := (∀ b, b < 36 → F b = F0 b ∨ (F0 b = 99 ∧ F b = t + 1 ∧ rch de fr (t + 1) b)) ∧ (∀ a, a < c → F0 a = t → ∀ sd', sd' < 4 → ∀ b : Nat, b < 36 → nb a sd' = (b : Int) → de b = 0 → ¬ F b = 99) ∧ (F0 c = t → ∀ sd', sd' < sd → ∀ b : Nat, b < 36 → nb c sd' = (b : Int) → de b = 0 → ¬ F b = 99) ∧ ((m = 1 ∧ cnt9 F 36 < cnt9 F0 36) ∨ (m = 0 ∧ F = F0))
theorem WI_t {de : Nat → Nat} {fr t m : Nat} {F : Nat → Nat} (h : WI de fr F t m) : t ≤ 36 ∧ m ≤ 1 := by
  have := h.2.2
  omega
theorem WI_init {de : Nat → Nat} {fr : Nat} (h : fr < 36) : WI de fr (fun j => if j = fr then 0 else 99) 0 1 := by
  refine ⟨fun c hc => ?_, fun d hd c hc hr => ?_, Or.inl ⟨rfl, ?_⟩⟩
  · by_cases e : c = fr
    · subst e
      refine Or.inr ⟨by simp, ?_⟩
      simp only [if_true]
      exact rfl
    · exact Or.inl (by simp [e])
  · have hd0 : d = 0 := by omega
    subst hd0
    have e : c = fr := hr
    simp [e]
  · have := cnt9_lt (F := fun j => if j = fr then 0 else 99) (c := fr) (by simp) 36 h
    omega
theorem WP_0 (de : Nat → Nat) (fr : Nat) (F0 : Nat → Nat) (t : Nat) : WP de fr F0 t F0 0 0 0 := ⟨fun _ _ => Or.inl rfl, fun a h => absurd h (Nat.not_lt_zero a), fun _ sd h => absurd h (Nat.not_lt_zero sd), Or.inr ⟨rfl, rfl⟩⟩
theorem WP_le {de : Nat → Nat} {fr t m0 m c sd : Nat} {F0 F : Nat → Nat} (hI : WI de fr F0 t m0) (h : WP de fr F0 t F m c sd) {b : Nat} (hb : b < 36) : F b ≤ 99 := by
  have h1 := hI.1 b hb
  have h2 := h.1 b hb
  have h3 := WI_t hI
  rcases h2 with h2 | h2
  · rcases h1 with h1 | h1
    · omega
    · have := h1.1
      omega
  · have := h2.2.1
    omega
theorem WP_visit {de : Nat → Nat} {fr t m0 m c sd to : Nat} {F0 F : Nat → Nat} (hI : WI de fr F0 t m0) (h : WP de fr F0 t F m c sd) (hc : c < 36) (hsd : sd < 4) (hF : F c = t) (hto : to < 36) (hn : nb c sd = (to : Int)) (h9 : F to = 99) (hd : de to = 0) : WP de fr F0 t (va_up F to (t + 1)) 1 c (sd + 1) := by
  have ht := WI_t hI
  obtain ⟨ha, hb, hcc, hm⟩ := h
  have hFto : va_up F to (t + 1) to = t + 1 := by simp [va_up]
  have hne : ∀ b, ¬ b = to → va_up F to (t + 1) b = F b := fun b e => by simp only [va_up]; rw [if_neg e]
  have h0 : F0 to = 99 := by
    rcases ha to hto with z | z
    · omega
    · exact z.1
  have hr : rch de fr t c := by
    have hF0 : F0 c = t := by
      rcases ha c hc with z | z
      · omega
      · have := z.2.1
        omega
    rcases hI.1 c hc with z | z
    · omega
    · have := z.2
      rw [hF0] at this
      exact this
  refine ⟨fun b hb2 => ?_, fun a h1 h2 sd' h3 b h4 h5 h6 => ?_, fun h1 sd' h2 b h4 h5 h6 => ?_, Or.inl ⟨rfl, ?_⟩⟩
  · by_cases e : b = to
    · subst e
      exact Or.inr ⟨h0, hFto, hto, hd, c, sd, hsd, hc, hr, hn⟩
    · rw [hne b e]
      exact ha b hb2
  · by_cases e : b = to
    · subst e
      rw [hFto]
      omega
    · rw [hne b e]
      exact hb a h1 h2 sd' h3 b h4 h5 h6
  · by_cases e : b = to
    · subst e
      rw [hFto]
      omega
    · rw [hne b e]
      by_cases g : sd' = sd
      · subst g
        rw [hn] at h5
        omega
      · exact hcc h1 sd' (by omega) b h4 h5 h6
  · have h1 := cnt9_up (v := t + 1) h9 (by omega) 36 hto
    rcases hm with z | z
    · omega
    · rw [← z.2]
      omega
theorem WP_skip {de : Nat → Nat} {fr t m c sd : Nat} {F0 F : Nat → Nat} (h : WP de fr F0 t F m c sd) (hn : ∀ b : Nat, b < 36 → nb c sd = (b : Int) → de b = 0 → ¬ F b = 99) : WP de fr F0 t F m c (sd + 1) := by
  refine ⟨h.1, h.2.1, fun h1 sd' h2 b h4 h5 h6 => ?_, h.2.2.2⟩
  by_cases g : sd' = sd
  · subst g
    exact hn b h4 h5 h6
  · exact h.2.2.1 h1 sd' (by omega) b h4 h5 h6
theorem WP_next {de : Nat → Nat} {fr t m c sd : Nat} {F0 F : Nat → Nat} (h : WP de fr F0 t F m c sd) (hc : c < 36) (ht : t ≤ 36) (hs : sd = 4 ∨ ¬ F c = t) : WP de fr F0 t F m (c + 1) 0 := by
  refine ⟨h.1, fun a h1 h2 sd' h3 b h4 h5 h6 => ?_, fun _ sd' h2 => absurd h2 (Nat.not_lt_zero sd'), h.2.2.2⟩
  by_cases e : a = c
  · subst e
    have hs4 : sd = 4 := by
      rcases hs with z | z
      · exact z
      · rcases h.1 a hc with g | g
        · omega
        · have := g.1
          omega
    subst hs4
    exact h.2.2.1 h2 sd' h3 b h4 h5 h6
  · exact h.2.1 a (by omega) h2 sd' h3 b h4 h5 h6
theorem WI_next {de : Nat → Nat} {fr t m0 m : Nat} {F0 F : Nat → Nat} (hI : WI de fr F0 t m0) (hm0 : ¬ m0 = 0) (h : WP de fr F0 t F m 36 0) : WI de fr F (t + 1) m := by
  have ht := WI_t hI
  have h3 := hI.2.2
  have hmm : cnt9 F0 36 + t ≤ 35 := by omega
  refine ⟨fun c hc => ?_, fun d hd c hc hr => ?_, ?_⟩
  · rcases h.1 c hc with e | e
    · rw [e]
      rcases hI.1 c hc with z | z
      · exact Or.inl z
      · exact Or.inr ⟨by omega, z.2⟩
    · rw [e.2.1]
      exact Or.inr ⟨Nat.le_refl _, e.2.2⟩
  · by_cases g : d ≤ t
    · have h1 := hI.2.1 d g c hc hr
      rcases h.1 c hc with e | e
      · omega
      · have := e.1
        omega
    · have e : d = t + 1 := by omega
      subst e
      have hr2 := hr
      obtain ⟨_, hd0, a, sd, hsd, ha, hr3, hn⟩ := hr
      have h1 := hI.2.1 t (Nat.le_refl _) a ha hr3
      by_cases f : F0 a = t
      · have h2 := h.2.1 a ha f sd hsd c hc hn hd0
        rcases h.1 c hc with e | e
        · rcases hI.1 c hc with z | z
          · omega
          · have := z.1
            omega
        · have := e.2.1
          omega
      · rcases hI.1 a ha with z | z
        · omega
        · have h4 := hI.2.1 (F0 a + 1) (by omega) c hc ⟨hc, hd0, a, sd, hsd, ha, z.2, hn⟩
          rcases h.1 c hc with e | e
          · omega
          · have := e.1
            omega
  · rcases h.2.2.2 with e | e
    · exact Or.inl ⟨e.1, by omega⟩
    · refine Or.inr ⟨e.1, by rw [e.2]; omega, fun c hc => ?_⟩
      rw [e.2]
      rcases hI.1 c hc with z | z
      · omega
      · have := z.1
        omega
theorem WI_end {de : Nat → Nat} {fr t m : Nat} {F : Nat → Nat} (hI : WI de fr F t m) (hm : m = 0) : isD de fr (fun c => if F c = 99 then -9 else (F c : Int)) := by
  have ht := WI_t hI
  have h3 := hI.2.2
  have hno : ∀ c, c < 36 → ¬ F c = t := by
    rcases h3 with z | z
    · omega
    · exact z.2.2
  have low : ∀ d c, c < 36 → rch de fr d c → F c ≤ d ∧ ¬ F c = 99 := fun d => by
    induction d with
    | zero =>
      intro c hc hr
      have := hI.2.1 0 (by omega) c hc hr
      omega
    | succ d ih =>
      intro c hc hr
      by_cases g : d + 1 ≤ t
      · have := hI.2.1 (d + 1) g c hc hr
        omega
      · obtain ⟨_, hd0, a, sd, hsd, ha, hr3, hn⟩ := hr
        obtain ⟨h1, h2⟩ := ih a ha hr3
        have h4 := hno a ha
        have z := (hI.1 a ha).resolve_left h2
        have h5 := hI.2.1 (F a + 1) (by omega) c hc ⟨hc, hd0, a, sd, hsd, ha, z.2, hn⟩
        have := z.1
        omega
  intro c hc
  dsimp only
  by_cases e : F c = 99
  · rw [if_pos e]
    exact Or.inl ⟨rfl, fun d hr => (low d c hc hr).2 e⟩
  · rw [if_neg e]
    refine Or.inr ⟨by omega, ((hI.1 c hc).resolve_left e).2, fun d hr => ?_⟩
    have := (low d c hc hr).1
    omega
set_option maxHeartbeats 4000000 in
set_option maxRecDepth 100000 in
theorem c_X12_way (l : Launch) (G : mvG) (a : Nat → Nat) (tx : Nat → Nat) (to : Nat → Nat) (dr : Nat → Nat) (be : Nat → Nat) (s : Nat → Nat) (pa : Nat → Nat) (im : Nat → Nat) (ke : Nat → Nat) (no : Nat → Nat) (fa : Nat → Nat) (tr : Nat) (ty : Nat) (kn : Nat) (nd : Nat) (att : Nat) (so : Nat) (ss : Nat) (va : Int) (p : Int) (x : Int) (hn : to 0 ≤ 5) (hs : ∀ j, j < 5 → s j < 36) (hde : ∀ c, c < 36 → s (5 + c) < 80 ∧ s (5 + c) % 16 ≤ 9) (hp : -2147483648 ≤ p ∧ p < 2147483648) (hx : -2147483648 ≤ x ∧ x < 2147483648) : KQ l yX12_way cX12_way 8 (some .int) (2, 45) G [.ref (a 0), .int (iI p), .int (iI x)] [gMod G a (nF tx) (nF to) (nF dr) (nF be) (nF s) (nF pa) (nF im) (nF ke) (nF no) (nF fa) (lN tr) (nI ty) (nI kn) (nI nd) (nI att) (nI so) (nI ss) (iI va)] (fun (zz : Int × (Nat → Nat)) => some (.int (iI zz.1))) (fun (zz : Int × (Nat → Nat)) => (¬ (0 ≤ p ∧ p < (to 0 : Int) ∧ 0 ≤ x ∧ x / 10 < 6 ∧ x % 10 < 6) ∧ (zz.1 : Int) = -1) ∨ ((0 ≤ p ∧ p < (to 0 : Int) ∧ 0 ≤ x ∧ x / 10 < 6 ∧ x % 10 < 6) ∧ ∃ SX : Nat → Int, isD (fun c => s (5 + c) % 16) (s p.toNat) SX ∧ (zz.1 : Int) = SX (6 * (x / 10) + x % 10).toNat)) (fun (zz : Int × (Nat → Nat)) => [gMod G a (nF tx) (nF to) (nF dr) (nF be) (nF s) (nF pa) (nF im) (nF ke) (nF no) (nF zz.2) (lN tr) (nI ty) (nI kn) (nI nd) (nI att) (nI so) (nI ss) (iI va)]) := by
  refine KQ.mk (by decide +kernel) (fun _ _ => rfl) [some (.ref (a 0)), some (.int (iI p)), some (.int (iI x)), none, none, none, none, none] (Nat.le_of_ble_eq_true rfl) rfl (fun C X Y hC => ?_)
  subst hC
  refine V_aload_n X dX12_way_0 rfl ?_
  refine V_iload_n X dX12_way_1 rfl ?_
  refine V_callV (rest := []) X (c_X12_isOne (Cl C) G a tx to dr be s pa im ke no fa tr ty kn nd att so ss va p (by first | assumption | omega) (by first | assumption | omega)) mi_X12_isOne kw_4_100 kw_4_102 kw_s_36 dX12_way_2 [0] rfl (by decide) 0 0 rfl rfl rfl rfl rfl rfl (by decide) (Nat.le_of_ble_eq_true rfl) ⟨rfl, rfl⟩ (fun u_ hu_2 => ?_)
  obtain ⟨b_1, rfl⟩ : ∃ z, z = u_ := ⟨_, rfl⟩
  have hu_2 : (b_1 = 1 ∧ 0 ≤ p ∧ p < (to 0 : Int)) ∨ (b_1 = 0 ∧ (p < 0 ∨ (to 0 : Int) ≤ p)) := hu_2
  show V C 0 0 [gMod G a (nF tx) (nF to) (nF dr) (nF be) (nF s) (nF pa) (nF im) (nF ke) (nF no) (nF fa) (lN tr) (nI ty) (nI kn) (nI nd) (nI att) (nI so) (nI ss) (iI va)] 5 [some (.ref (a 0)), some (.int (iI p)), some (.int (iI x)), none, none, none, none, none] [.int (nI b_1)]
  refine V_if_eqN X 15 dX12_way_5 (by decide) (by omega) (fun c_3 => ?_) (fun c_3 => ?_)
  · refine V_iconst X (-1) dX12_way_15 (by decide) ?_
    exact V_iret X Y ⟨-1, fa⟩ (show (¬ (0 ≤ p ∧ p < (to 0 : Int) ∧ 0 ≤ x ∧ x / 10 < 6 ∧ x % 10 < 6) ∧ ((-1) : Int) = -1) ∨ ((0 ≤ p ∧ p < (to 0 : Int) ∧ 0 ≤ x ∧ x / 10 < 6 ∧ x % 10 < 6) ∧ ∃ SX : Nat → Int, isD (fun c => s (5 + c) % 16) (s p.toNat) SX ∧ ((-1) : Int) = SX (6 * (x / 10) + x % 10).toNat) from Or.inl ⟨by omega, rfl⟩) (mv_ri (by rfl)) rfl rfl dX12_way_16
  · refine V_iload_n X dX12_way_8 rfl ?_
    refine V_callS (rest := []) X (c_X12_isCell (Cl C) G x (by first | assumption | omega)) mi_X12_isCell kw_4_81 kw_4_82 dX12_way_9 [] rfl (by decide) rfl rfl (by decide) (Nat.le_of_ble_eq_true rfl) ⟨rfl, rfl⟩ (fun u_ hu_5 => ?_)
    obtain ⟨b_4, rfl⟩ : ∃ z, z = u_ := ⟨_, rfl⟩
    have hu_5 : (b_4 = 1 ∧ 0 ≤ x ∧ x / 10 < 6 ∧ x % 10 < 6) ∨ (b_4 = 0 ∧ (x < 0 ∨ 6 ≤ x / 10 ∨ 6 ≤ x % 10)) := hu_5
    show V C 0 0 [gMod G a (nF tx) (nF to) (nF dr) (nF be) (nF s) (nF pa) (nF im) (nF ke) (nF no) (nF fa) (lN tr) (nI ty) (nI kn) (nI nd) (nI att) (nI so) (nI ss) (iI va)] 12 [some (.ref (a 0)), some (.int (iI p)), some (.int (iI x)), none, none, none, none, none] [.int (nI b_4)]
    refine V_if_neN X 17 dX12_way_12 (by decide) (by omega) (fun c_6 => ?_) (fun c_6 => ?_)
    · refine V_loc (y := (nI p.toNat)) 1 rfl (mv_sn (by omega)) ?_
      refine V_loc (y := (nI x.toNat)) 2 rfl (mv_sn (by omega)) ?_
      have hsp := hs p.toNat (by omega)
      refine V_iconst X (nI 0) dX12_way_17 (by decide) ?_
      refine V_istore_n X dX12_way_18 (by decide) rfl ?_
      have L_19 : ∀ (fz_19 : Nat) (q : Nat) (FA : Nat → Nat) (hq : q ≤ 36) (hFA : ∀ j, j < q → FA j = if j = s p.toNat then 0 else 99), (36 - q) < fz_19 → V C 0 0 [gMod G a (nF tx) (nF to) (nF dr) (nF be) (nF s) (nF pa) (nF im) (nF ke) (nF no) (nF FA) (lN tr) (nI ty) (nI kn) (nI nd) (nI att) (nI so) (nI ss) (iI va)] 19 [some (.ref (a 0)), some (.int (nI p.toNat)), some (.int (nI x.toNat)), some (.int (nI q)), none, none, none, none] [] := by
        intro fz_19
        induction fz_19 with
        | zero => intro q FA hq hFA hf_19; exact absurd hf_19 (Nat.not_lt_zero _)
        | succ fz_19 ih_19 =>
          intro q FA hq hFA hf_19
          refine V_iload_n X dX12_way_19 rfl ?_
          refine V_bipush X (nI 36) dX12_way_20 (by decide) ?_
          refine V_icmp_geN X 53 dX12_way_22 (by decide) (by omega) (by decide) (fun c_7 => ?_) (fun c_7 => ?_)
          · refine V_arr (nF (fun j => if j = s p.toNat then 0 else 99)) 0 10 rfl rfl (fun j hj => by simp only [nF]; rw [hFA j (by omega)]) ?_
            show V C 0 0 [gMod G a (nF tx) (nF to) (nF dr) (nF be) (nF s) (nF pa) (nF im) (nF ke) (nF no) (nF (fun j => if j = s p.toNat then 0 else 99)) (lN tr) (nI ty) (nI kn) (nI nd) (nI att) (nI so) (nI ss) (iI va)] 53 [some (.ref (a 0)), some (.int (nI p.toNat)), some (.int (nI x.toNat)), some (.int (nI q)), none, none, none, none] []
            refine V_iconst X (nI 1) dX12_way_53 (by decide) ?_
            refine V_istore_n X dX12_way_54 (by decide) rfl ?_
            refine V_iconst X (nI 0) dX12_way_55 (by decide) ?_
            refine V_istore X dX12_way_56 (by decide) rfl ?_
            have L_58 : ∀ (fz_58 : Nat) (F : Nat → Nat) (m1 : Nat) (u1 : Nat) (hW : WI (fun c => s (5 + c) % 16) (s p.toNat) F u1 m1), (2 * cnt9 F 36 + m1) < fz_58 → V C 0 0 [gMod G a (nF tx) (nF to) (nF dr) (nF be) (nF s) (nF pa) (nF im) (nF ke) (nF no) (nF F) (lN tr) (nI ty) (nI kn) (nI nd) (nI att) (nI so) (nI ss) (iI va)] 58 [some (.ref (a 0)), some (.int (nI p.toNat)), some (.int (nI x.toNat)), some (.int (nI m1)), some (.int (nI u1)), none, none, none] [] := by
              intro fz_58
              induction fz_58 with
              | zero => intro F m1 u1 hW hf_58; exact absurd hf_58 (Nat.not_lt_zero _)
              | succ fz_58 ih_58 =>
                intro F m1 u1 hW hf_58
                have hWt := WI_t hW
                refine V_iload_n X dX12_way_58 rfl ?_
                refine V_if_eqN X 163 dX12_way_59 (by decide) (by omega) (fun c_8 => ?_) (fun c_8 => ?_)
                · have hfin := WI_end hW (by omega)
                  have hFx : F (6 * (x.toNat / 10) + x.toNat % 10) ≤ 99 := by have h1 := hW.1 (6 * (x.toNat / 10) + x.toNat % 10) (by omega); omega
                  refine V_aload_n X dX12_way_163 rfl ?_
                  refine V_get X fl_X12_38 0 0 rfl rfl rfl dX12_way_164 ?_
                  refine V_bipush X (nI 6) dX12_way_167 (by decide) ?_
                  refine V_iload_n X dX12_way_169 rfl ?_
                  refine V_bipush X (nI 10) dX12_way_170 (by decide) ?_
                  refine V_idivN X dX12_way_172 (by omega) (by omega) (by omega) ?_
                  refine V_imulN X dX12_way_173 ?_
                  refine V_iload_n X dX12_way_174 rfl ?_
                  refine V_bipush X (nI 10) dX12_way_175 (by decide) ?_
                  refine V_iremN X dX12_way_177 (by omega) (by omega) (by omega) ?_
                  refine V_iaddN X dX12_way_178 ?_
                  refine V_ialdN X 0 10 rfl rfl (by omega) (by decide) dX12_way_179 ?_
                  refine V_istore X dX12_way_180 (by decide) rfl ?_
                  refine V_iload X dX12_way_182 rfl ?_
                  refine V_bipush X (nI 99) dX12_way_184 (by decide) ?_
                  refine V_icmp_neN X 194 dX12_way_186 (by decide) (by omega) (by decide) (fun c_9 => ?_) (fun c_9 => ?_)
                  · refine V_iload X dX12_way_194 rfl ?_
                    exact V_iret X Y ⟨((F ((6 * (x.toNat / 10)) + (x.toNat % 10)) : Nat) : Int), F⟩ (show (¬ (0 ≤ p ∧ p < (to 0 : Int) ∧ 0 ≤ x ∧ x / 10 < 6 ∧ x % 10 < 6) ∧ (((F ((6 * (x.toNat / 10)) + (x.toNat % 10)) : Nat) : Int) : Int) = -1) ∨ ((0 ≤ p ∧ p < (to 0 : Int) ∧ 0 ≤ x ∧ x / 10 < 6 ∧ x % 10 < 6) ∧ ∃ SX : Nat → Int, isD (fun c => s (5 + c) % 16) (s p.toNat) SX ∧ (((F ((6 * (x.toNat / 10)) + (x.toNat % 10)) : Nat) : Int) : Int) = SX (6 * (x / 10) + x % 10).toNat) from (Or.inr ⟨by omega, _, hfin, by rw [show (6 * (x / 10) + x % 10).toNat = 6 * (x.toNat / 10) + x.toNat % 10 by omega]; (try dsimp only); first | rw [if_pos (by omega)] | rw [if_neg (by omega)]⟩)) (mv_ri (by rfl)) rfl rfl dX12_way_196
                  · refine V_bipush X (-9) dX12_way_189 (by decide) ?_
                    refine V_goto X 196 dX12_way_191 (by decide) ?_
                    exact V_iret X Y ⟨-9, F⟩ (show (¬ (0 ≤ p ∧ p < (to 0 : Int) ∧ 0 ≤ x ∧ x / 10 < 6 ∧ x % 10 < 6) ∧ ((-9) : Int) = -1) ∨ ((0 ≤ p ∧ p < (to 0 : Int) ∧ 0 ≤ x ∧ x / 10 < 6 ∧ x % 10 < 6) ∧ ∃ SX : Nat → Int, isD (fun c => s (5 + c) % 16) (s p.toNat) SX ∧ ((-9) : Int) = SX (6 * (x / 10) + x % 10).toNat) from (Or.inr ⟨by omega, _, hfin, by rw [show (6 * (x / 10) + x % 10).toNat = 6 * (x.toNat / 10) + x.toNat % 10 by omega]; (try dsimp only); first | rw [if_pos (by omega)] | rw [if_neg (by omega)]⟩)) (mv_ri (by rfl)) rfl rfl dX12_way_196
                · refine V_iconst X (nI 0) dX12_way_62 (by decide) ?_
                  refine V_istore_n X dX12_way_63 (by decide) rfl ?_
                  refine V_iconst X (nI 0) dX12_way_64 (by decide) ?_
                  refine V_istore X dX12_way_65 (by decide) rfl ?_
                  have L_67 : ∀ (fz_67 : Nat) (F1 : Nat → Nat) (m2 : Nat) (q : Nat) (hq : q ≤ 36 ∧ m2 ≤ 1) (hP : WP (fun c => s (5 + c) % 16) (s p.toNat) F u1 F1 m2 q 0), (36 - q) < fz_67 → V C 0 0 [gMod G a (nF tx) (nF to) (nF dr) (nF be) (nF s) (nF pa) (nF im) (nF ke) (nF no) (nF F1) (lN tr) (nI ty) (nI kn) (nI nd) (nI att) (nI so) (nI ss) (iI va)] 67 [some (.ref (a 0)), some (.int (nI p.toNat)), some (.int (nI x.toNat)), some (.int (nI m2)), some (.int (nI u1)), some (.int (nI q)), none, none] [] := by
                    intro fz_67
                    induction fz_67 with
                    | zero => intro F1 m2 q hq hP hf_67; exact absurd hf_67 (Nat.not_lt_zero _)
                    | succ fz_67 ih_67 =>
                      intro F1 m2 q hq hP hf_67
                      refine V_iload X dX12_way_67 rfl ?_
                      refine V_bipush X (nI 36) dX12_way_69 (by decide) ?_
                      refine V_icmp_geN X 157 dX12_way_71 (by decide) (by omega) (by decide) (fun c_10 => ?_) (fun c_10 => ?_)
                      · refine V_iincN X (c := 1) dX12_way_157 rfl (by decide) rfl ?_
                        refine V_goto X 58 dX12_way_160 (by decide) ?_
                        refine V_weak (lv' := [some (.ref (a 0)), some (.int (nI p.toNat)), some (.int (nI x.toNat)), some (.int (nI m2)), some (.int (nI (u1 + 1))), none, none, none]) (And.intro rfl (And.intro rfl (And.intro rfl (And.intro rfl (And.intro rfl trivial))))) ?_
                        exact ih_58 F1 m2 (u1 + 1) (WI_next hW (by omega) (by rw [show (36 : Nat) = q by omega]; exact hP)) (by rcases hP.2.2.2 with h | h; omega; rw [h.2, h.1]; omega)
                      · refine V_iconst X (nI 0) dX12_way_74 (by decide) ?_
                        refine V_istore X dX12_way_75 (by decide) rfl ?_
                        have L_77 : ∀ (fz_77 : Nat) (F2 : Nat → Nat) (m3 : Nat) (e1 : Nat) (he1 : e1 ≤ 4 ∧ m3 ≤ 1) (hP2 : WP (fun c => s (5 + c) % 16) (s p.toNat) F u1 F2 m3 q e1), (4 - e1) < fz_77 → V C 0 0 [gMod G a (nF tx) (nF to) (nF dr) (nF be) (nF s) (nF pa) (nF im) (nF ke) (nF no) (nF F2) (lN tr) (nI ty) (nI kn) (nI nd) (nI att) (nI so) (nI ss) (iI va)] 77 [some (.ref (a 0)), some (.int (nI p.toNat)), some (.int (nI x.toNat)), some (.int (nI m3)), some (.int (nI u1)), some (.int (nI q)), some (.int (nI e1)), none] [] := by
                          intro fz_77
                          induction fz_77 with
                          | zero => intro F2 m3 e1 he1 hP2 hf_77; exact absurd hf_77 (Nat.not_lt_zero _)
                          | succ fz_77 ih_77 =>
                            intro F2 m3 e1 he1 hP2 hf_77
                            refine V_iload X dX12_way_77 rfl ?_
                            refine V_iconst X (nI 4) dX12_way_79 (by decide) ?_
                            refine V_icmp_geN X 151 dX12_way_80 (by decide) (by omega) (by decide) (fun c_11 => ?_) (fun c_11 => ?_)
                            · refine V_iincN X (c := 1) dX12_way_151 rfl (by decide) rfl ?_
                              refine V_goto X 67 dX12_way_154 (by decide) ?_
                              refine V_weak (lv' := [some (.ref (a 0)), some (.int (nI p.toNat)), some (.int (nI x.toNat)), some (.int (nI m3)), some (.int (nI u1)), some (.int (nI (q + 1))), none, none]) (And.intro rfl (And.intro rfl (And.intro rfl (And.intro rfl (And.intro rfl (And.intro rfl trivial)))))) ?_
                              exact ih_67 F2 m3 (q + 1) (by omega) (WP_next hP2 (by omega) (by omega) (by omega)) (by omega)
                            · have hFq := WP_le hW hP2 (show q < 36 by omega)
                              refine V_aload_n X dX12_way_83 rfl ?_
                              refine V_get X fl_X12_38 0 0 rfl rfl rfl dX12_way_84 ?_
                              refine V_iload X dX12_way_87 rfl ?_
                              refine V_ialdN X 0 10 rfl rfl (by omega) (by decide) dX12_way_89 ?_
                              refine V_iload X dX12_way_90 rfl ?_
                              refine V_icmp_neN X 151 dX12_way_92 (by decide) (by omega) (by omega) (fun c_12 => ?_) (fun c_12 => ?_)
                              · refine V_iincN X (c := 1) dX12_way_151 rfl (by decide) rfl ?_
                                refine V_goto X 67 dX12_way_154 (by decide) ?_
                                refine V_weak (lv' := [some (.ref (a 0)), some (.int (nI p.toNat)), some (.int (nI x.toNat)), some (.int (nI m3)), some (.int (nI u1)), some (.int (nI (q + 1))), none, none]) (And.intro rfl (And.intro rfl (And.intro rfl (And.intro rfl (And.intro rfl (And.intro rfl trivial)))))) ?_
                                exact ih_67 F2 m3 (q + 1) (by omega) (WP_next hP2 (by omega) (by omega) (by omega)) (by omega)
                              · refine V_iload X dX12_way_95 rfl ?_
                                refine V_iload X dX12_way_97 rfl ?_
                                refine V_callS (rest := []) X (c_X12_beside (Cl C) G q e1 (by first | assumption | omega) (by first | assumption | omega)) mi_X12_beside kw_4_138 kw_4_139 dX12_way_99 [] rfl (by decide) rfl rfl (by decide) (Nat.le_of_ble_eq_true rfl) ⟨rfl, rfl⟩ (fun _ _ => ?_)
                                show V C 0 0 [gMod G a (nF tx) (nF to) (nF dr) (nF be) (nF s) (nF pa) (nF im) (nF ke) (nF no) (nF F2) (lN tr) (nI ty) (nI kn) (nI nd) (nI att) (nI so) (nI ss) (iI va)] 102 [some (.ref (a 0)), some (.int (nI p.toNat)), some (.int (nI x.toNat)), some (.int (nI m3)), some (.int (nI u1)), some (.int (nI q)), some (.int (nI e1)), none] [.int (iI (nb q e1))]
                                refine V_istore X dX12_way_102 (by decide) rfl ?_
                                have hnb := nb_9 (c := q) (d := e1) (by omega)
                                refine V_iload X dX12_way_104 rfl ?_
                                refine V_bipush X (-9) dX12_way_106 (by decide) ?_
                                have J_145_13 : ∀ (m4 : Nat) (v7 : Int) (F3 : Nat → Nat) (hW3 : WP (fun c => s (5 + c) % 16) (s p.toNat) F u1 F3 m4 q (e1 + 1)) (hm4 : m4 ≤ 1), V C 0 0 [gMod G a (nF tx) (nF to) (nF dr) (nF be) (nF s) (nF pa) (nF im) (nF ke) (nF no) (nF F3) (lN tr) (nI ty) (nI kn) (nI nd) (nI att) (nI so) (nI ss) (iI va)] 145 [some (.ref (a 0)), some (.int (nI p.toNat)), some (.int (nI x.toNat)), some (.int (nI m4)), some (.int (nI u1)), some (.int (nI q)), some (.int (nI e1)), some (.int (iI v7))] [] := by
                                  intro m4 v7 F3 hW3 hm4
                                  refine V_iincN X (c := 1) dX12_way_145 rfl (by decide) rfl ?_
                                  refine V_goto X 77 dX12_way_148 (by decide) ?_
                                  refine V_weak (lv' := [some (.ref (a 0)), some (.int (nI p.toNat)), some (.int (nI x.toNat)), some (.int (nI m4)), some (.int (nI u1)), some (.int (nI q)), some (.int (nI (e1 + 1))), none]) (And.intro rfl (And.intro rfl (And.intro rfl (And.intro rfl (And.intro rfl (And.intro rfl (And.intro rfl trivial))))))) ?_
                                  exact ih_77 F3 m4 (e1 + 1) (by omega) hW3 (by omega)
                                refine V_icmp_eqI (i := nb q e1) (j := -9) X 145 dX12_way_108 (by decide) (iI_toInt (by omega) (by omega)) (by rfl) (fun c_13 => ?_) (fun c_13 => ?_)
                                · refine V_weak (lv' := [some (.ref (a 0)), some (.int (nI p.toNat)), some (.int (nI x.toNat)), some (.int (nI m3)), some (.int (nI u1)), some (.int (nI q)), some (.int (nI e1)), some (.int (iI (nb q e1)))]) (And.intro rfl (And.intro rfl (And.intro rfl (And.intro rfl (And.intro rfl (And.intro rfl (And.intro rfl (And.intro rfl trivial)))))))) ?_
                                  exact J_145_13 m3 (nb q e1) F2 (by first | exact WP_visit hW hP2 (by omega) (by omega) (by omega) (to := (nb q e1).toNat) (by omega) (by omega) (by assumption) (by assumption) | exact WP_skip hP2 (fun b1 h1 h2 h3 => by first | (exfalso; omega) | (have e : (nb q e1).toNat = b1 := (by omega); subst e; first | assumption | exact absurd h3 (by assumption)))) (by omega)
                                · refine V_loc (y := (nI ((nb q e1).toNat))) 7 rfl (mv_sn (by omega)) ?_
                                  have hFt := WP_le hW hP2 (show (nb q e1).toNat < 36 by omega)
                                  refine V_aload_n X dX12_way_111 rfl ?_
                                  refine V_get X fl_X12_38 0 0 rfl rfl rfl dX12_way_112 ?_
                                  refine V_iload X dX12_way_115 rfl ?_
                                  refine V_ialdN X 0 10 rfl rfl (by omega) (by decide) dX12_way_117 ?_
                                  refine V_bipush X (nI 99) dX12_way_118 (by decide) ?_
                                  refine V_icmp_neN X 145 dX12_way_120 (by decide) (by omega) (by decide) (fun c_14 => ?_) (fun c_14 => ?_)
                                  · refine V_weak (lv' := [some (.ref (a 0)), some (.int (nI p.toNat)), some (.int (nI x.toNat)), some (.int (nI m3)), some (.int (nI u1)), some (.int (nI q)), some (.int (nI e1)), some (.int (nI ((nb q e1).toNat)))]) (And.intro rfl (And.intro rfl (And.intro rfl (And.intro rfl (And.intro rfl (And.intro rfl (And.intro rfl (And.intro rfl trivial)))))))) ?_
                                    exact J_145_13 m3 ((nb q e1).toNat : Nat) F2 (by first | exact WP_visit hW hP2 (by omega) (by omega) (by omega) (to := (nb q e1).toNat) (by omega) (by omega) (by assumption) (by assumption) | exact WP_skip hP2 (fun b1 h1 h2 h3 => by first | (exfalso; omega) | (have e : (nb q e1).toNat = b1 := (by omega); subst e; first | assumption | exact absurd h3 (by assumption)))) (by omega)
                                  · refine V_aload_n X dX12_way_123 rfl ?_
                                    refine V_iload X dX12_way_124 rfl ?_
                                    refine V_callV (rest := []) X (c_X12_deep (Cl C) G a tx to dr be s pa im ke no F2 tr ty kn nd att so ss va ((nb q e1).toNat) (by first | assumption | omega) (by first | assumption | omega)) mi_X12_deep kw_4_84 kw_4_86 kw_s_33 dX12_way_126 [0] rfl (by decide) 0 0 rfl rfl rfl rfl rfl rfl (by decide) (Nat.le_of_ble_eq_true rfl) ⟨rfl, rfl⟩ (fun _ _ => ?_)
                                    show V C 0 0 [gMod G a (nF tx) (nF to) (nF dr) (nF be) (nF s) (nF pa) (nF im) (nF ke) (nF no) (nF F2) (lN tr) (nI ty) (nI kn) (nI nd) (nI att) (nI so) (nI ss) (iI va)] 129 [some (.ref (a 0)), some (.int (nI p.toNat)), some (.int (nI x.toNat)), some (.int (nI m3)), some (.int (nI u1)), some (.int (nI q)), some (.int (nI e1)), some (.int (nI ((nb q e1).toNat)))] [.int (nI (s (5 + ((nb q e1).toNat)) % 16))]
                                    refine V_if_neN X 145 dX12_way_129 (by decide) (by omega) (fun c_15 => ?_) (fun c_15 => ?_)
                                    · refine V_weak (lv' := [some (.ref (a 0)), some (.int (nI p.toNat)), some (.int (nI x.toNat)), some (.int (nI m3)), some (.int (nI u1)), some (.int (nI q)), some (.int (nI e1)), some (.int (nI ((nb q e1).toNat)))]) (And.intro rfl (And.intro rfl (And.intro rfl (And.intro rfl (And.intro rfl (And.intro rfl (And.intro rfl (And.intro rfl trivial)))))))) ?_
                                      exact J_145_13 m3 ((nb q e1).toNat : Nat) F2 (by first | exact WP_visit hW hP2 (by omega) (by omega) (by omega) (to := (nb q e1).toNat) (by omega) (by omega) (by assumption) (by assumption) | exact WP_skip hP2 (fun b1 h1 h2 h3 => by first | (exfalso; omega) | (have e : (nb q e1).toNat = b1 := (by omega); subst e; first | assumption | exact absurd h3 (by assumption)))) (by omega)
                                    · refine V_aload_n X dX12_way_132 rfl ?_
                                      refine V_get X fl_X12_38 0 0 rfl rfl rfl dX12_way_133 ?_
                                      refine V_iload X dX12_way_136 rfl ?_
                                      refine V_iload X dX12_way_138 rfl ?_
                                      refine V_iconst X (nI 1) dX12_way_140 (by decide) ?_
                                      refine V_iaddN X dX12_way_141 ?_
                                      refine V_iastN X 0 10 rfl rfl (by omega) (by decide) dX12_way_142 ?_
                                      show V C 0 0 [gMod G a (nF tx) (nF to) (nF dr) (nF be) (nF s) (nF pa) (nF im) (nF ke) (nF no) (nF (va_up F2 ((nb q e1).toNat) (u1 + 1))) (lN tr) (nI ty) (nI kn) (nI nd) (nI att) (nI so) (nI ss) (iI va)] 143 [some (.ref (a 0)), some (.int (nI p.toNat)), some (.int (nI x.toNat)), some (.int (nI m3)), some (.int (nI u1)), some (.int (nI q)), some (.int (nI e1)), some (.int (nI ((nb q e1).toNat)))] []
                                      refine V_iconst X (nI 1) dX12_way_143 (by decide) ?_
                                      refine V_istore_n X dX12_way_144 (by decide) rfl ?_
                                      refine V_weak (lv' := [some (.ref (a 0)), some (.int (nI p.toNat)), some (.int (nI x.toNat)), some (.int (nI 1)), some (.int (nI u1)), some (.int (nI q)), some (.int (nI e1)), some (.int (nI ((nb q e1).toNat)))]) (And.intro rfl (And.intro rfl (And.intro rfl (And.intro rfl (And.intro rfl (And.intro rfl (And.intro rfl (And.intro rfl trivial)))))))) ?_
                                      exact J_145_13 1 ((nb q e1).toNat : Nat) (va_up F2 ((nb q e1).toNat) (u1 + 1)) (by first | exact WP_visit hW hP2 (by omega) (by omega) (by omega) (to := (nb q e1).toNat) (by omega) (by omega) (by assumption) (by assumption) | exact WP_skip hP2 (fun b1 h1 h2 h3 => by first | (exfalso; omega) | (have e : (nb q e1).toNat = b1 := (by omega); subst e; first | assumption | exact absurd h3 (by assumption)))) (by omega)
                        refine V_weak (lv' := [some (.ref (a 0)), some (.int (nI p.toNat)), some (.int (nI x.toNat)), some (.int (nI m2)), some (.int (nI u1)), some (.int (nI q)), some (.int (nI 0)), none]) (And.intro rfl (And.intro rfl (And.intro rfl (And.intro rfl (And.intro rfl (And.intro rfl (And.intro rfl trivial))))))) ?_
                        exact L_77 _ F1 m2 0 (by omega) hP (Nat.lt_succ_self _)
                  refine V_weak (lv' := [some (.ref (a 0)), some (.int (nI p.toNat)), some (.int (nI x.toNat)), some (.int (nI 0)), some (.int (nI u1)), some (.int (nI 0)), none, none]) (And.intro rfl (And.intro rfl (And.intro rfl (And.intro rfl (And.intro rfl (And.intro rfl trivial)))))) ?_
                  exact L_67 _ F 0 0 (by omega) (WP_0 _ _ _ _) (Nat.lt_succ_self _)
            refine V_weak (lv' := [some (.ref (a 0)), some (.int (nI p.toNat)), some (.int (nI x.toNat)), some (.int (nI 1)), some (.int (nI 0)), none, none, none]) (And.intro rfl (And.intro rfl (And.intro rfl (And.intro rfl (And.intro rfl trivial))))) ?_
            exact L_58 _ (fun j => if j = s p.toNat then 0 else 99) 1 0 (WI_init hsp) (Nat.lt_succ_self _)
          · refine V_aload_n X dX12_way_25 rfl ?_
            refine V_get X fl_X12_38 0 0 rfl rfl rfl dX12_way_26 ?_
            refine V_iload_n X dX12_way_29 rfl ?_
            refine V_iload_n X dX12_way_30 rfl ?_
            refine V_aload_n X dX12_way_31 rfl ?_
            refine V_get X fl_X12_22 0 0 rfl rfl rfl dX12_way_32 ?_
            refine V_iload_n X dX12_way_35 rfl ?_
            refine V_ialdN X 0 5 rfl rfl (by omega) (by decide) dX12_way_36 ?_
            have J_46_16 : ∀ (w : Nat) (hw : w = if q = s p.toNat then 0 else 99), V C 0 0 [gMod G a (nF tx) (nF to) (nF dr) (nF be) (nF s) (nF pa) (nF im) (nF ke) (nF no) (nF FA) (lN tr) (nI ty) (nI kn) (nI nd) (nI att) (nI so) (nI ss) (iI va)] 46 [some (.ref (a 0)), some (.int (nI p.toNat)), some (.int (nI x.toNat)), some (.int (nI q)), none, none, none, none] [.int (nI w), .int (nI q), .ref (a 10)] := by
              intro w hw
              refine V_iastN X 0 10 rfl rfl (by omega) (by decide) dX12_way_46 ?_
              show V C 0 0 [gMod G a (nF tx) (nF to) (nF dr) (nF be) (nF s) (nF pa) (nF im) (nF ke) (nF no) (nF (va_up FA q w)) (lN tr) (nI ty) (nI kn) (nI nd) (nI att) (nI so) (nI ss) (iI va)] 47 [some (.ref (a 0)), some (.int (nI p.toNat)), some (.int (nI x.toNat)), some (.int (nI q)), none, none, none, none] []
              refine V_iincN X (c := 1) dX12_way_47 rfl (by decide) rfl ?_
              refine V_goto X 19 dX12_way_50 (by decide) ?_
              refine V_weak (lv' := [some (.ref (a 0)), some (.int (nI p.toNat)), some (.int (nI x.toNat)), some (.int (nI (q + 1))), none, none, none, none]) (And.intro rfl (And.intro rfl (And.intro rfl (And.intro rfl trivial)))) ?_
              exact ih_19 (q + 1) (va_up FA q w) (by omega) (fun j h => by simp only [va_up]; by_cases e : j = q; rw [if_pos e, hw, e]; rw [if_neg e]; exact hFA j (by omega)) (by omega)
            refine V_icmp_neN X 44 dX12_way_37 (by decide) (by omega) (by omega) (fun c_16 => ?_) (fun c_16 => ?_)
            · refine V_bipush X (nI 99) dX12_way_44 (by decide) ?_
              refine V_weak (lv' := [some (.ref (a 0)), some (.int (nI p.toNat)), some (.int (nI x.toNat)), some (.int (nI q)), none, none, none, none]) (And.intro rfl (And.intro rfl (And.intro rfl (And.intro rfl trivial)))) ?_
              exact J_46_16 99 (by first | rw [if_pos (by omega)] | rw [if_neg (by omega)])
            · refine V_iconst X (nI 0) dX12_way_40 (by decide) ?_
              refine V_goto X 46 dX12_way_41 (by decide) ?_
              refine V_weak (lv' := [some (.ref (a 0)), some (.int (nI p.toNat)), some (.int (nI x.toNat)), some (.int (nI q)), none, none, none, none]) (And.intro rfl (And.intro rfl (And.intro rfl (And.intro rfl trivial)))) ?_
              exact J_46_16 0 (by first | rw [if_pos (by omega)] | rw [if_neg (by omega)])
      refine V_weak (lv' := [some (.ref (a 0)), some (.int (nI p.toNat)), some (.int (nI x.toNat)), some (.int (nI 0)), none, none, none, none]) (And.intro rfl (And.intro rfl (And.intro rfl (And.intro rfl trivial)))) ?_
      exact L_19 _ 0 fa (by omega) (fun j h => absurd h (Nat.not_lt_zero j)) (Nat.lt_succ_self _)
    · refine V_iconst X (-1) dX12_way_15 (by decide) ?_
      exact V_iret X Y ⟨-1, fa⟩ (show (¬ (0 ≤ p ∧ p < (to 0 : Int) ∧ 0 ≤ x ∧ x / 10 < 6 ∧ x % 10 < 6) ∧ ((-1) : Int) = -1) ∨ ((0 ≤ p ∧ p < (to 0 : Int) ∧ 0 ≤ x ∧ x / 10 < 6 ∧ x % 10 < 6) ∧ ∃ SX : Nat → Int, isD (fun c => s (5 + c) % 16) (s p.toNat) SX ∧ ((-1) : Int) = SX (6 * (x / 10) + x % 10).toNat) from Or.inl ⟨by omega, rfl⟩) (mv_ri (by rfl)) rfl rfl dX12_way_16
theorem pow8 : ∀ n, n ≤ 8 → 2 ^ n ≤ 256 ∧ 10 ^ n ≤ 100000000 := by decide +kernel
def mPr (x e : Nat) : Nat → Nat
  | 0 => 1
  | d + 1 => mPr x e d * (if e &&& 2 ^ d = 0 then 10 - x else x)
def mAb (g x n : Nat) : Nat → Nat
  | 0 => 0
  | e + 1 => mAb g x n e + (if onesN e 8 < g then mPr x e n else 0)
theorem mPr_le {x : Nat} (e : Nat) (hx : x ≤ 10) : ∀ d, mPr x e d ≤ 10 ^ d
  | 0 => Nat.le_refl _
  | d + 1 => by
    have h := mPr_le e hx d
    simp only [mPr]
    rw [Nat.pow_succ]
    exact Nat.mul_le_mul h (by split <;> omega)
theorem mAb_mono (g x n : Nat) (a : Nat) : ∀ c, mAb g x n a ≤ mAb g x n (a + c)
  | 0 => Nat.le_refl _
  | c + 1 => Nat.le_trans (mAb_mono g x n a c) (by show mAb g x n (a + c) ≤ mAb g x n (a + c) + _; omega)
theorem mAb_eq : ∀ g, g ≤ 9 → ∀ x, x ≤ 10 → ∀ n, n ≤ 8 → mAb g x n (2 ^ n) = chStay g x n := by decide +kernel
theorem mAb_le {g x n e : Nat} (hg : g ≤ 9) (hx : x ≤ 10) (hn : n ≤ 8) (he : e ≤ 2 ^ n) : mAb g x n e ≤ 10 ^ n := by
  have h1 := mAb_mono g x n e (2 ^ n - e)
  rw [show e + (2 ^ n - e) = 2 ^ n by omega, mAb_eq g hg x hx n hn] at h1
  exact Nat.le_trans h1 (chStay_le g hg x hx n hn)
theorem gcd_st (a b : Nat) : Nat.gcd b (a % b) = Nat.gcd a b := by
  rw [Nat.gcd_comm a b, Nat.gcd_rec b a, Nat.gcd_comm]
theorem mod_half {y r : Nat} (h : r < y) (hr : 0 < r) : 2 * (y % r) < y := by
  have h1 := Nat.div_add_mod y r
  have h2 := Nat.mod_lt y hr
  have h3 : 1 ≤ y / r := Nat.div_pos (by omega) hr
  have h4 : r * 1 ≤ r * (y / r) := Nat.mul_le_mul_left r h3
  omega
theorem eucl_gcd : ∀ k f x y, y < 2 ^ k → 2 * k + 1 ≤ f → eucl f x y = Nat.gcd x y
  | 0, f, x, y, h, hf => by
    have e : y = 0 := by simpa using h
    rw [e, eucl_0, Nat.gcd_zero_right]
  | k + 1, f, x, y, h, hf => by
    by_cases e : y = 0
    · rw [e, eucl_0, Nat.gcd_zero_right]
    · obtain ⟨f2, rfl⟩ : ∃ f2, f = f2 + 1 + 1 := ⟨f - 2, by omega⟩
      have hr := Nat.mod_lt x (show 0 < y by omega)
      rw [show eucl (f2 + 1 + 1) x y = eucl (f2 + 1) y (x % y) by simp only [eucl]; rw [if_neg e]]
      rw [← gcd_st x y]
      by_cases g : x % y = 0
      · rw [g, eucl_0, Nat.gcd_zero_right]
      · have h2 := mod_half hr (by omega)
        rw [show eucl (f2 + 1) y (x % y) = eucl f2 (x % y) (y % (x % y)) by simp only [eucl]; rw [if_neg g]]
        rw [← gcd_st y (x % y)]
        refine eucl_gcd k f2 _ _ ?_ (by omega)
        rw [Nat.pow_succ] at h
        omega
set_option maxHeartbeats 4000000 in
set_option maxRecDepth 100000 in
theorem c_X12_odds (l : Launch) (G : mvG) (a : Nat → Nat) (tx : Nat → Nat) (to : Nat → Nat) (dr : Nat → Nat) (be : Nat → Nat) (s : Nat → Nat) (pa : Nat → Nat) (im : Nat → Nat) (ke : Nat → Nat) (no : Nat → Nat) (fa : Nat → Nat) (tr : Nat) (ty : Nat) (kn : Nat) (nd : Nat) (att : Nat) (so : Nat) (ss : Nat) (va : Int) (x : Int) (y : Int) (z : Int) (v : Int) (hde : ∀ c, c < 36 → s (5 + c) < 80 ∧ s (5 + c) % 16 ≤ 9) (hk : 1 ≤ to 1 ∧ to 1 ≤ 9) (hx : -2147483648 ≤ x ∧ x < 2147483648) (hy : -2147483648 ≤ y ∧ y < 2147483648) (hz : -2147483648 ≤ z ∧ z < 2147483648) (hv : -2147483648 ≤ v ∧ v < 2147483648) : KQ l yX12_odds cX12_odds 11 (some .int) (2, 42) G [.ref (a 0), .int (iI x), .int (iI y), .int (iI z), .int (iI v)] [gMod G a (nF tx) (nF to) (nF dr) (nF be) (nF s) (nF pa) (nF im) (nF ke) (nF no) (nF fa) (lN tr) (nI ty) (nI kn) (nI nd) (nI att) (nI so) (nI ss) (iI va)] (fun (_ : Unit) => some (.int (iI (spOdds (fun c => s (5 + c) % 16) (to 1) x y z v)))) (fun (_ : Unit) => True) (fun (_ : Unit) => [gMod G a (nF tx) (nF to) (nF dr) (nF be) (nF s) (nF pa) (nF im) (nF ke) (nF no) (nF fa) (lN tr) (nI ty) (nI kn) (nI nd) (nI att) (nI so) (nI ss) (iI va)]) := by
  refine KQ.mk (by decide +kernel) (fun _ _ => rfl) [some (.ref (a 0)), some (.int (iI x)), some (.int (iI y)), some (.int (iI z)), some (.int (iI v)), none, none, none, none, none, none] (Nat.le_of_ble_eq_true rfl) rfl (fun C X Y hC => ?_)
  subst hC
  refine V_iload_n X dX12_odds_0 rfl ?_
  refine V_callS (rest := []) X (c_X12_isCell (Cl C) G x (by first | assumption | omega)) mi_X12_isCell kw_4_81 kw_4_82 dX12_odds_1 [] rfl (by decide) rfl rfl (by decide) (Nat.le_of_ble_eq_true rfl) ⟨rfl, rfl⟩ (fun u_ hu_2 => ?_)
  obtain ⟨b_1, rfl⟩ : ∃ z, z = u_ := ⟨_, rfl⟩
  have hu_2 : (b_1 = 1 ∧ 0 ≤ x ∧ x / 10 < 6 ∧ x % 10 < 6) ∨ (b_1 = 0 ∧ (x < 0 ∨ 6 ≤ x / 10 ∨ 6 ≤ x % 10)) := hu_2
  show V C 0 0 [gMod G a (nF tx) (nF to) (nF dr) (nF be) (nF s) (nF pa) (nF im) (nF ke) (nF no) (nF fa) (lN tr) (nI ty) (nI kn) (nI nd) (nI att) (nI so) (nI ss) (iI va)] 4 [some (.ref (a 0)), some (.int (iI x)), some (.int (iI y)), some (.int (iI z)), some (.int (iI v)), none, none, none, none, none, none] [.int (nI b_1)]
  refine V_if_eqN X 37 dX12_odds_4 (by decide) (by omega) (fun c_3 => ?_) (fun c_3 => ?_)
  · refine V_iconst X (-1) dX12_odds_37 (by decide) ?_
    exact V_iret X Y () trivial (mv_ri (by unfold spOdds; rw [if_neg (by omega)]; rfl)) rfl rfl dX12_odds_38
  · refine V_iload_n X dX12_odds_7 rfl ?_
    refine V_iconst X (nI 0) dX12_odds_8 (by decide) ?_
    refine V_bipush X (nI 10) dX12_odds_9 (by decide) ?_
    refine V_callS (rest := []) X (c_X12_in (Cl C) G y ((0 : Nat) : Int) ((10 : Nat) : Int) (by first | assumption | omega) (by first | assumption | omega) (by first | assumption | omega)) mi_X12_in kw_3_235 kw_3_236 dX12_odds_11 [] rfl (by decide) rfl rfl (by decide) (Nat.le_of_ble_eq_true rfl) ⟨rfl, rfl⟩ (fun u_ hu_5 => ?_)
    obtain ⟨b_4, rfl⟩ : ∃ z, z = u_ := ⟨_, rfl⟩
    have hu_5 : (b_4 = 1 ∧ ((0 : Nat) : Int) ≤ y ∧ y ≤ ((10 : Nat) : Int)) ∨ (b_4 = 0 ∧ (y < ((0 : Nat) : Int) ∨ ((10 : Nat) : Int) < y)) := hu_5
    show V C 0 0 [gMod G a (nF tx) (nF to) (nF dr) (nF be) (nF s) (nF pa) (nF im) (nF ke) (nF no) (nF fa) (lN tr) (nI ty) (nI kn) (nI nd) (nI att) (nI so) (nI ss) (iI va)] 14 [some (.ref (a 0)), some (.int (iI x)), some (.int (iI y)), some (.int (iI z)), some (.int (iI v)), none, none, none, none, none, none] [.int (nI b_4)]
    refine V_if_eqN X 37 dX12_odds_14 (by decide) (by omega) (fun c_6 => ?_) (fun c_6 => ?_)
    · refine V_iconst X (-1) dX12_odds_37 (by decide) ?_
      exact V_iret X Y () trivial (mv_ri (by unfold spOdds; rw [if_neg (by omega)]; rfl)) rfl rfl dX12_odds_38
    · refine V_iload_n X dX12_odds_17 rfl ?_
      refine V_iconst X (nI 0) dX12_odds_18 (by decide) ?_
      refine V_bipush X (nI 8) dX12_odds_19 (by decide) ?_
      refine V_callS (rest := []) X (c_X12_in (Cl C) G z ((0 : Nat) : Int) ((8 : Nat) : Int) (by first | assumption | omega) (by first | assumption | omega) (by first | assumption | omega)) mi_X12_in kw_3_235 kw_3_236 dX12_odds_21 [] rfl (by decide) rfl rfl (by decide) (Nat.le_of_ble_eq_true rfl) ⟨rfl, rfl⟩ (fun u_ hu_8 => ?_)
      obtain ⟨b_7, rfl⟩ : ∃ z, z = u_ := ⟨_, rfl⟩
      have hu_8 : (b_7 = 1 ∧ ((0 : Nat) : Int) ≤ z ∧ z ≤ ((8 : Nat) : Int)) ∨ (b_7 = 0 ∧ (z < ((0 : Nat) : Int) ∨ ((8 : Nat) : Int) < z)) := hu_8
      show V C 0 0 [gMod G a (nF tx) (nF to) (nF dr) (nF be) (nF s) (nF pa) (nF im) (nF ke) (nF no) (nF fa) (lN tr) (nI ty) (nI kn) (nI nd) (nI att) (nI so) (nI ss) (iI va)] 24 [some (.ref (a 0)), some (.int (iI x)), some (.int (iI y)), some (.int (iI z)), some (.int (iI v)), none, none, none, none, none, none] [.int (nI b_7)]
      refine V_if_eqN X 37 dX12_odds_24 (by decide) (by omega) (fun c_9 => ?_) (fun c_9 => ?_)
      · refine V_iconst X (-1) dX12_odds_37 (by decide) ?_
        exact V_iret X Y () trivial (mv_ri (by unfold spOdds; rw [if_neg (by omega)]; rfl)) rfl rfl dX12_odds_38
      · refine V_iload X dX12_odds_27 rfl ?_
        refine V_iconst X (nI 0) dX12_odds_29 (by decide) ?_
        refine V_iconst X (nI 1) dX12_odds_30 (by decide) ?_
        refine V_callS (rest := []) X (c_X12_in (Cl C) G v ((0 : Nat) : Int) ((1 : Nat) : Int) (by first | assumption | omega) (by first | assumption | omega) (by first | assumption | omega)) mi_X12_in kw_3_235 kw_3_236 dX12_odds_31 [] rfl (by decide) rfl rfl (by decide) (Nat.le_of_ble_eq_true rfl) ⟨rfl, rfl⟩ (fun u_ hu_11 => ?_)
        obtain ⟨b_10, rfl⟩ : ∃ z, z = u_ := ⟨_, rfl⟩
        have hu_11 : (b_10 = 1 ∧ ((0 : Nat) : Int) ≤ v ∧ v ≤ ((1 : Nat) : Int)) ∨ (b_10 = 0 ∧ (v < ((0 : Nat) : Int) ∨ ((1 : Nat) : Int) < v)) := hu_11
        show V C 0 0 [gMod G a (nF tx) (nF to) (nF dr) (nF be) (nF s) (nF pa) (nF im) (nF ke) (nF no) (nF fa) (lN tr) (nI ty) (nI kn) (nI nd) (nI att) (nI so) (nI ss) (iI va)] 34 [some (.ref (a 0)), some (.int (iI x)), some (.int (iI y)), some (.int (iI z)), some (.int (iI v)), none, none, none, none, none, none] [.int (nI b_10)]
        refine V_if_neN X 39 dX12_odds_34 (by decide) (by omega) (fun c_12 => ?_) (fun c_12 => ?_)
        · refine V_loc (y := (nI x.toNat)) 1 rfl (mv_sn (by omega)) ?_
          refine V_loc (y := (nI y.toNat)) 2 rfl (mv_sn (by omega)) ?_
          refine V_loc (y := (nI z.toNat)) 3 rfl (mv_sn (by omega)) ?_
          have hgz := gz9 hk (hde (6 * (x.toNat / 10) + x.toNat % 10) (by omega)).2
          have hp8 := pow8 z.toNat (by omega)
          have hp1 : 0 < 10 ^ z.toNat := Nat.pow_pos (by decide)
          refine V_aload_n X dX12_odds_39 rfl ?_
          refine V_bipush X (nI 6) dX12_odds_40 (by decide) ?_
          refine V_iload_n X dX12_odds_42 rfl ?_
          refine V_bipush X (nI 10) dX12_odds_43 (by decide) ?_
          refine V_idivN X dX12_odds_45 (by omega) (by omega) (by omega) ?_
          refine V_imulN X dX12_odds_46 ?_
          refine V_iload_n X dX12_odds_47 rfl ?_
          refine V_bipush X (nI 10) dX12_odds_48 (by decide) ?_
          refine V_iremN X dX12_odds_50 (by omega) (by omega) (by omega) ?_
          refine V_iaddN X dX12_odds_51 ?_
          refine V_callV (rest := []) X (c_X12_gone (Cl C) G a tx to dr be s pa im ke no fa tr ty kn nd att so ss va ((6 * (x.toNat / 10)) + (x.toNat % 10)) (by first | assumption | omega) (by first | assumption | omega) (by first | assumption | omega)) mi_X12_gone kw_4_92 kw_4_94 kw_s_35 dX12_odds_52 [0] rfl (by decide) 0 0 rfl rfl rfl rfl rfl rfl (by decide) (Nat.le_of_ble_eq_true rfl) ⟨rfl, rfl⟩ (fun _ _ => ?_)
          show V C 0 0 [gMod G a (nF tx) (nF to) (nF dr) (nF be) (nF s) (nF pa) (nF im) (nF ke) (nF no) (nF fa) (lN tr) (nI ty) (nI kn) (nI nd) (nI att) (nI so) (nI ss) (iI va)] 55 [some (.ref (a 0)), some (.int (nI x.toNat)), some (.int (nI y.toNat)), some (.int (nI z.toNat)), some (.int (iI v)), none, none, none, none, none, none] [.int (nI ((s (5 + ((6 * (x.toNat / 10)) + (x.toNat % 10))) % 16 + to 1 - 1) / to 1))]
          refine V_istore X dX12_odds_55 (by decide) rfl ?_
          refine V_iconst X (nI 0) dX12_odds_57 (by decide) ?_
          refine V_istore X dX12_odds_58 (by decide) rfl ?_
          refine V_iconst X (nI 1) dX12_odds_60 (by decide) ?_
          refine V_istore X dX12_odds_61 (by decide) rfl ?_
          refine V_iconst X (nI 0) dX12_odds_63 (by decide) ?_
          refine V_istore X dX12_odds_64 (by decide) rfl ?_
          have L_66 : ∀ (fz_66 : Nat) (u : Nat) (q : Nat) (hq : q ≤ z.toNat) (hu : u = 10 ^ q), (z.toNat - q) < fz_66 → V C 0 0 [gMod G a (nF tx) (nF to) (nF dr) (nF be) (nF s) (nF pa) (nF im) (nF ke) (nF no) (nF fa) (lN tr) (nI ty) (nI kn) (nI nd) (nI att) (nI so) (nI ss) (iI va)] 66 [some (.ref (a 0)), some (.int (nI x.toNat)), some (.int (nI y.toNat)), some (.int (nI z.toNat)), some (.int (iI v)), some (.int (nI ((s (5 + (6 * (x.toNat / 10) + x.toNat % 10)) % 16 + to 1 - 1) / to 1))), some (.int (nI 0)), some (.int (nI u)), some (.int (nI q)), none, none] [] := by
            intro fz_66
            induction fz_66 with
            | zero => intro u q hq hu hf_66; exact absurd hf_66 (Nat.not_lt_zero _)
            | succ fz_66 ih_66 =>
              intro u q hq hu hf_66
              refine V_iload X dX12_odds_66 rfl ?_
              refine V_iload_n X dX12_odds_68 rfl ?_
              refine V_icmp_geN X 85 dX12_odds_69 (by decide) (by omega) (by omega) (fun c_13 => ?_) (fun c_13 => ?_)
              · have huz : u = 10 ^ z.toNat := by rw [hu, show q = z.toNat by omega]
                subst huz
                refine V_iconst X (nI 0) dX12_odds_85 (by decide) ?_
                refine V_istore X dX12_odds_86 (by decide) rfl ?_
                have L_88 : ∀ (fz_88 : Nat) (ab : Nat) (e : Nat) (he : e ≤ 2 ^ z.toNat) (hab : ab = mAb ((s (5 + (6 * (x.toNat / 10) + x.toNat % 10)) % 16 + to 1 - 1) / to 1) y.toNat z.toNat e), (2 ^ z.toNat - e) < fz_88 → V C 0 0 [gMod G a (nF tx) (nF to) (nF dr) (nF be) (nF s) (nF pa) (nF im) (nF ke) (nF no) (nF fa) (lN tr) (nI ty) (nI kn) (nI nd) (nI att) (nI so) (nI ss) (iI va)] 88 [some (.ref (a 0)), some (.int (nI x.toNat)), some (.int (nI y.toNat)), some (.int (nI z.toNat)), some (.int (iI v)), some (.int (nI ((s (5 + (6 * (x.toNat / 10) + x.toNat % 10)) % 16 + to 1 - 1) / to 1))), some (.int (nI ab)), some (.int (nI (10 ^ z.toNat))), some (.int (nI e)), none, none] [] := by
                  intro fz_88
                  induction fz_88 with
                  | zero => intro ab e he hab hf_88; exact absurd hf_88 (Nat.not_lt_zero _)
                  | succ fz_88 ih_88 =>
                    intro ab e he hab hf_88
                    refine V_iload X dX12_odds_88 rfl ?_
                    refine V_iconst X (nI 1) dX12_odds_90 (by decide) ?_
                    refine V_iload_n X dX12_odds_91 rfl ?_
                    refine V_ishl1N X dX12_odds_92 (by omega) ?_
                    refine V_icmp_geN X 164 dX12_odds_93 (by decide) (by omega) (by omega) (fun c_14 => ?_) (fun c_14 => ?_)
                    · have hae : e = 2 ^ z.toNat := by omega
                      rw [hae] at hab
                      refine V_loc (y := (nI (mAb ((s (5 + (6 * (x.toNat / 10) + x.toNat % 10)) % 16 + to 1 - 1) / to 1) y.toNat z.toNat (2 ^ z.toNat)))) 6 rfl (by rw [hab]) ?_
                      have hA8 := mAb_le hgz (show y.toNat ≤ 10 by omega) (show z.toNat ≤ 8 by omega) (Nat.le_refl (2 ^ z.toNat))
                      refine V_iload X dX12_odds_164 rfl ?_
                      refine V_istore X dX12_odds_166 (by decide) rfl ?_
                      refine V_iload X dX12_odds_168 rfl ?_
                      refine V_istore X dX12_odds_170 (by decide) rfl ?_
                      have L_172 : ∀ (fz_172 : Nat) (a1 : Nat) (b1 : Nat) (hab1 : a1 ≤ 100000000 ∧ b1 ≤ 100000000) (hgc : Nat.gcd a1 b1 = Nat.gcd (mAb ((s (5 + (6 * (x.toNat / 10) + x.toNat % 10)) % 16 + to 1 - 1) / to 1) y.toNat z.toNat (2 ^ z.toNat)) (10 ^ z.toNat)), b1 < fz_172 → V C 0 0 [gMod G a (nF tx) (nF to) (nF dr) (nF be) (nF s) (nF pa) (nF im) (nF ke) (nF no) (nF fa) (lN tr) (nI ty) (nI kn) (nI nd) (nI att) (nI so) (nI ss) (iI va)] 172 [some (.ref (a 0)), some (.int (nI x.toNat)), some (.int (nI y.toNat)), some (.int (nI z.toNat)), some (.int (iI v)), some (.int (nI ((s (5 + (6 * (x.toNat / 10) + x.toNat % 10)) % 16 + to 1 - 1) / to 1))), some (.int (nI (mAb ((s (5 + (6 * (x.toNat / 10) + x.toNat % 10)) % 16 + to 1 - 1) / to 1) y.toNat z.toNat (2 ^ z.toNat)))), some (.int (nI (10 ^ z.toNat))), some (.int (nI a1)), some (.int (nI b1)), none] [] := by
                        intro fz_172
                        induction fz_172 with
                        | zero => intro a1 b1 hab1 hgc hf_172; exact absurd hf_172 (Nat.not_lt_zero _)
                        | succ fz_172 ih_172 =>
                          intro a1 b1 hab1 hgc hf_172
                          refine V_iload X dX12_odds_172 rfl ?_
                          refine V_if_leN X 195 dX12_odds_174 (by decide) (by omega) (fun c_15 => ?_) (fun c_15 => ?_)
                          · have hb0 : b1 = 0 := by omega
                            subst hb0
                            rw [Nat.gcd_zero_right] at hgc
                            have hgp : 0 < Nat.gcd (mAb ((s (5 + (6 * (x.toNat / 10) + x.toNat % 10)) % 16 + to 1 - 1) / to 1) y.toNat z.toNat (2 ^ z.toNat)) (10 ^ z.toNat) := Nat.gcd_pos_of_pos_right _ hp1
                            have hdd1 := Nat.div_le_self (mAb ((s (5 + (6 * (x.toNat / 10) + x.toNat % 10)) % 16 + to 1 - 1) / to 1) y.toNat z.toNat (2 ^ z.toNat)) a1
                            have hdd2 := Nat.div_le_self (10 ^ z.toNat) a1
                            refine V_iload X dX12_odds_195 rfl ?_
                            refine V_if_neI (i := v) X 208 dX12_odds_197 (by decide) (iI_toInt (by omega) (by omega)) (fun c_16 => ?_) (fun c_16 => ?_)
                            · refine V_iload X dX12_odds_208 rfl ?_
                              refine V_iload X dX12_odds_210 rfl ?_
                              refine V_idivN X dX12_odds_212 (by omega) (by omega) (by omega) ?_
                              exact V_iret X Y () trivial (mv_ri (by unfold spOdds; rw [if_pos (by omega), show (6 * (x / 10) + x % 10).toNat = 6 * (x.toNat / 10) + x.toNat % 10 by omega, eucl_gcd 27 100 _ _ (by rw [← mAb_eq _ hgz _ (by omega) _ (by omega)]; omega) (by decide), ← mAb_eq _ hgz _ (by omega) _ (by omega), Nat.gcd_comm, ← hgc]; first | (rw [if_pos (by omega)]; exact mv_zn rfl) | (rw [if_neg (by omega)]; exact mv_zn rfl))) rfl rfl dX12_odds_213
                            · refine V_iload X dX12_odds_200 rfl ?_
                              refine V_iload X dX12_odds_202 rfl ?_
                              refine V_idivN X dX12_odds_204 (by omega) (by omega) (by omega) ?_
                              refine V_goto X 213 dX12_odds_205 (by decide) ?_
                              exact V_iret X Y () trivial (mv_ri (by unfold spOdds; rw [if_pos (by omega), show (6 * (x / 10) + x % 10).toNat = 6 * (x.toNat / 10) + x.toNat % 10 by omega, eucl_gcd 27 100 _ _ (by rw [← mAb_eq _ hgz _ (by omega) _ (by omega)]; omega) (by decide), ← mAb_eq _ hgz _ (by omega) _ (by omega), Nat.gcd_comm, ← hgc]; first | (rw [if_pos (by omega)]; exact mv_zn rfl) | (rw [if_neg (by omega)]; exact mv_zn rfl))) rfl rfl dX12_odds_213
                          · refine V_iload X dX12_odds_177 rfl ?_
                            refine V_iload X dX12_odds_179 rfl ?_
                            refine V_iremN X dX12_odds_181 (by omega) (by omega) (by omega) ?_
                            refine V_istore X dX12_odds_182 (by decide) rfl ?_
                            refine V_iload X dX12_odds_184 rfl ?_
                            refine V_istore X dX12_odds_186 (by decide) rfl ?_
                            refine V_iload X dX12_odds_188 rfl ?_
                            refine V_istore X dX12_odds_190 (by decide) rfl ?_
                            refine V_goto X 172 dX12_odds_192 (by decide) ?_
                            refine V_weak (lv' := [some (.ref (a 0)), some (.int (nI x.toNat)), some (.int (nI y.toNat)), some (.int (nI z.toNat)), some (.int (iI v)), some (.int (nI ((s (5 + (6 * (x.toNat / 10) + x.toNat % 10)) % 16 + to 1 - 1) / to 1))), some (.int (nI (mAb ((s (5 + (6 * (x.toNat / 10) + x.toNat % 10)) % 16 + to 1 - 1) / to 1) y.toNat z.toNat (2 ^ z.toNat)))), some (.int (nI (10 ^ z.toNat))), some (.int (nI b1)), some (.int (nI (a1 % b1))), none]) (And.intro rfl (And.intro rfl (And.intro rfl (And.intro rfl (And.intro rfl (And.intro rfl (And.intro rfl (And.intro rfl (And.intro rfl (And.intro rfl trivial)))))))))) ?_
                            exact ih_172 b1 (a1 % b1) ⟨by omega, by have := Nat.mod_lt a1 (show 0 < b1 by omega); omega⟩ (by rw [← hgc]; exact gcd_st a1 b1) (by have := Nat.mod_lt a1 (show 0 < b1 by omega); omega)
                      refine V_weak (lv' := [some (.ref (a 0)), some (.int (nI x.toNat)), some (.int (nI y.toNat)), some (.int (nI z.toNat)), some (.int (iI v)), some (.int (nI ((s (5 + (6 * (x.toNat / 10) + x.toNat % 10)) % 16 + to 1 - 1) / to 1))), some (.int (nI (mAb ((s (5 + (6 * (x.toNat / 10) + x.toNat % 10)) % 16 + to 1 - 1) / to 1) y.toNat z.toNat (2 ^ z.toNat)))), some (.int (nI (10 ^ z.toNat))), some (.int (nI (mAb ((s (5 + (6 * (x.toNat / 10) + x.toNat % 10)) % 16 + to 1 - 1) / to 1) y.toNat z.toNat (2 ^ z.toNat)))), some (.int (nI (10 ^ z.toNat))), none]) (And.intro rfl (And.intro rfl (And.intro rfl (And.intro rfl (And.intro rfl (And.intro rfl (And.intro rfl (And.intro rfl (And.intro rfl (And.intro rfl trivial)))))))))) ?_
                      exact L_172 _ (mAb ((s (5 + (6 * (x.toNat / 10) + x.toNat % 10)) % 16 + to 1 - 1) / to 1) y.toNat z.toNat (2 ^ z.toNat)) (10 ^ z.toNat) (by omega) rfl (Nat.lt_succ_self _)
                    · refine V_iconst X (nI 1) dX12_odds_96 (by decide) ?_
                      refine V_istore X dX12_odds_97 (by decide) rfl ?_
                      refine V_iconst X (nI 0) dX12_odds_99 (by decide) ?_
                      refine V_istore X dX12_odds_100 (by decide) rfl ?_
                      have L_102 : ∀ (fz_102 : Nat) (w : Nat) (q : Nat) (hq : q ≤ z.toNat) (hw : w = mPr y.toNat e q), (z.toNat - q) < fz_102 → V C 0 0 [gMod G a (nF tx) (nF to) (nF dr) (nF be) (nF s) (nF pa) (nF im) (nF ke) (nF no) (nF fa) (lN tr) (nI ty) (nI kn) (nI nd) (nI att) (nI so) (nI ss) (iI va)] 102 [some (.ref (a 0)), some (.int (nI x.toNat)), some (.int (nI y.toNat)), some (.int (nI z.toNat)), some (.int (iI v)), some (.int (nI ((s (5 + (6 * (x.toNat / 10) + x.toNat % 10)) % 16 + to 1 - 1) / to 1))), some (.int (nI ab)), some (.int (nI (10 ^ z.toNat))), some (.int (nI e)), some (.int (nI w)), some (.int (nI q))] [] := by
                        intro fz_102
                        induction fz_102 with
                        | zero => intro w q hq hw hf_102; exact absurd hf_102 (Nat.not_lt_zero _)
                        | succ fz_102 ih_102 =>
                          intro w q hq hw hf_102
                          refine V_iload X dX12_odds_102 rfl ?_
                          refine V_iload_n X dX12_odds_104 rfl ?_
                          refine V_icmp_geN X 137 dX12_odds_105 (by decide) (by omega) (by omega) (fun c_17 => ?_) (fun c_17 => ?_)
                          · refine V_iload X dX12_odds_137 rfl ?_
                            refine V_iload X dX12_odds_139 rfl ?_
                            have hon := onesN_le e 8
                            refine V_callS (rest := [.int (nI ab)]) X (c_X12_ones (Cl C) G e (by first | assumption | omega)) mi_X12_ones kw_4_195 kw_4_196 dX12_odds_141 [] rfl (by decide) rfl rfl (by decide) (Nat.le_of_ble_eq_true rfl) ⟨rfl, rfl⟩ (fun _ _ => ?_)
                            show V C 0 0 [gMod G a (nF tx) (nF to) (nF dr) (nF be) (nF s) (nF pa) (nF im) (nF ke) (nF no) (nF fa) (lN tr) (nI ty) (nI kn) (nI nd) (nI att) (nI so) (nI ss) (iI va)] 144 [some (.ref (a 0)), some (.int (nI x.toNat)), some (.int (nI y.toNat)), some (.int (nI z.toNat)), some (.int (iI v)), some (.int (nI ((s (5 + (6 * (x.toNat / 10) + x.toNat % 10)) % 16 + to 1 - 1) / to 1))), some (.int (nI ab)), some (.int (nI (10 ^ z.toNat))), some (.int (nI e)), some (.int (nI w)), some (.int (nI q))] [.int (nI (onesN e 8)), .int (nI ab)]
                            refine V_iload X dX12_odds_144 rfl ?_
                            have J_155_18 : ∀ (h : Nat) (hh : h = if onesN e 8 < ((s (5 + (6 * (x.toNat / 10) + x.toNat % 10)) % 16 + to 1 - 1) / to 1) then w else 0), V C 0 0 [gMod G a (nF tx) (nF to) (nF dr) (nF be) (nF s) (nF pa) (nF im) (nF ke) (nF no) (nF fa) (lN tr) (nI ty) (nI kn) (nI nd) (nI att) (nI so) (nI ss) (iI va)] 155 [some (.ref (a 0)), some (.int (nI x.toNat)), some (.int (nI y.toNat)), some (.int (nI z.toNat)), some (.int (iI v)), some (.int (nI ((s (5 + (6 * (x.toNat / 10) + x.toNat % 10)) % 16 + to 1 - 1) / to 1))), some (.int (nI ab)), some (.int (nI (10 ^ z.toNat))), some (.int (nI e)), some (.int (nI w)), some (.int (nI q))] [.int (nI h), .int (nI ab)] := by
                              intro h hh
                              refine V_iaddN X dX12_odds_155 ?_
                              refine V_istore X dX12_odds_156 (by decide) rfl ?_
                              refine V_iincN X (c := 1) dX12_odds_158 rfl (by decide) rfl ?_
                              refine V_goto X 88 dX12_odds_161 (by decide) ?_
                              refine V_weak (lv' := [some (.ref (a 0)), some (.int (nI x.toNat)), some (.int (nI y.toNat)), some (.int (nI z.toNat)), some (.int (iI v)), some (.int (nI ((s (5 + (6 * (x.toNat / 10) + x.toNat % 10)) % 16 + to 1 - 1) / to 1))), some (.int (nI (ab + h))), some (.int (nI (10 ^ z.toNat))), some (.int (nI (e + 1))), none, none]) (And.intro rfl (And.intro rfl (And.intro rfl (And.intro rfl (And.intro rfl (And.intro rfl (And.intro rfl (And.intro rfl (And.intro rfl trivial))))))))) ?_
                              exact ih_88 (ab + h) (e + 1) (by omega) (by rw [hab, hh, hw, show q = z.toNat by omega]; rfl) (by omega)
                            refine V_icmp_geN X 154 dX12_odds_146 (by decide) (by omega) (by omega) (fun c_18 => ?_) (fun c_18 => ?_)
                            · refine V_iconst X (nI 0) dX12_odds_154 (by decide) ?_
                              refine V_weak (lv' := [some (.ref (a 0)), some (.int (nI x.toNat)), some (.int (nI y.toNat)), some (.int (nI z.toNat)), some (.int (iI v)), some (.int (nI ((s (5 + (6 * (x.toNat / 10) + x.toNat % 10)) % 16 + to 1 - 1) / to 1))), some (.int (nI ab)), some (.int (nI (10 ^ z.toNat))), some (.int (nI e)), some (.int (nI w)), some (.int (nI q))]) (And.intro rfl (And.intro rfl (And.intro rfl (And.intro rfl (And.intro rfl (And.intro rfl (And.intro rfl (And.intro rfl (And.intro rfl (And.intro rfl (And.intro rfl trivial))))))))))) ?_
                              exact J_155_18 0 (by first | rw [if_pos (by omega)] | rw [if_neg (by omega)])
                            · refine V_iload X dX12_odds_149 rfl ?_
                              refine V_goto X 155 dX12_odds_151 (by decide) ?_
                              refine V_weak (lv' := [some (.ref (a 0)), some (.int (nI x.toNat)), some (.int (nI y.toNat)), some (.int (nI z.toNat)), some (.int (iI v)), some (.int (nI ((s (5 + (6 * (x.toNat / 10) + x.toNat % 10)) % 16 + to 1 - 1) / to 1))), some (.int (nI ab)), some (.int (nI (10 ^ z.toNat))), some (.int (nI e)), some (.int (nI w)), some (.int (nI q))]) (And.intro rfl (And.intro rfl (And.intro rfl (And.intro rfl (And.intro rfl (And.intro rfl (And.intro rfl (And.intro rfl (And.intro rfl (And.intro rfl (And.intro rfl trivial))))))))))) ?_
                              exact J_155_18 w (by first | rw [if_pos (by omega)] | rw [if_neg (by omega)])
                          · refine V_iload X dX12_odds_108 rfl ?_
                            refine V_iload X dX12_odds_110 rfl ?_
                            refine V_iload X dX12_odds_112 rfl ?_
                            refine V_callS (rest := [.int (nI w)]) X (c_X12_has (Cl C) G e q (by first | assumption | omega) (by first | assumption | omega)) mi_X12_has kw_4_123 kw_4_124 dX12_odds_114 [] rfl (by decide) rfl rfl (by decide) (Nat.le_of_ble_eq_true rfl) ⟨rfl, rfl⟩ (fun u_ hu_20 => ?_)
                            obtain ⟨b_19, rfl⟩ : ∃ z, z = u_ := ⟨_, rfl⟩
                            have hu_20 : (b_19 = 1 ∧ ¬ e &&& 2 ^ q = 0) ∨ (b_19 = 0 ∧ e &&& 2 ^ q = 0) := hu_20
                            show V C 0 0 [gMod G a (nF tx) (nF to) (nF dr) (nF be) (nF s) (nF pa) (nF im) (nF ke) (nF no) (nF fa) (lN tr) (nI ty) (nI kn) (nI nd) (nI att) (nI so) (nI ss) (iI va)] 117 [some (.ref (a 0)), some (.int (nI x.toNat)), some (.int (nI y.toNat)), some (.int (nI z.toNat)), some (.int (iI v)), some (.int (nI ((s (5 + (6 * (x.toNat / 10) + x.toNat % 10)) % 16 + to 1 - 1) / to 1))), some (.int (nI ab)), some (.int (nI (10 ^ z.toNat))), some (.int (nI e)), some (.int (nI w)), some (.int (nI q))] [.int (nI b_19), .int (nI w)]
                            have J_128_21 : ∀ (f : Nat) (hf : f = if e &&& 2 ^ q = 0 then 10 - y.toNat else y.toNat), V C 0 0 [gMod G a (nF tx) (nF to) (nF dr) (nF be) (nF s) (nF pa) (nF im) (nF ke) (nF no) (nF fa) (lN tr) (nI ty) (nI kn) (nI nd) (nI att) (nI so) (nI ss) (iI va)] 128 [some (.ref (a 0)), some (.int (nI x.toNat)), some (.int (nI y.toNat)), some (.int (nI z.toNat)), some (.int (iI v)), some (.int (nI ((s (5 + (6 * (x.toNat / 10) + x.toNat % 10)) % 16 + to 1 - 1) / to 1))), some (.int (nI ab)), some (.int (nI (10 ^ z.toNat))), some (.int (nI e)), some (.int (nI w)), some (.int (nI q))] [.int (nI f), .int (nI w)] := by
                              intro f hf
                              refine V_imulN X dX12_odds_128 ?_
                              refine V_istore X dX12_odds_129 (by decide) rfl ?_
                              refine V_iincN X (c := 1) dX12_odds_131 rfl (by decide) rfl ?_
                              refine V_goto X 102 dX12_odds_134 (by decide) ?_
                              refine V_weak (lv' := [some (.ref (a 0)), some (.int (nI x.toNat)), some (.int (nI y.toNat)), some (.int (nI z.toNat)), some (.int (iI v)), some (.int (nI ((s (5 + (6 * (x.toNat / 10) + x.toNat % 10)) % 16 + to 1 - 1) / to 1))), some (.int (nI ab)), some (.int (nI (10 ^ z.toNat))), some (.int (nI e)), some (.int (nI (w * f))), some (.int (nI (q + 1)))]) (And.intro rfl (And.intro rfl (And.intro rfl (And.intro rfl (And.intro rfl (And.intro rfl (And.intro rfl (And.intro rfl (And.intro rfl (And.intro rfl (And.intro rfl trivial))))))))))) ?_
                              exact ih_102 (w * f) (q + 1) (by omega) (by rw [hw, hf]; rfl) (by omega)
                            refine V_if_eqN X 124 dX12_odds_117 (by decide) (by omega) (fun c_21 => ?_) (fun c_21 => ?_)
                            · refine V_bipush X (nI 10) dX12_odds_124 (by decide) ?_
                              refine V_iload_n X dX12_odds_126 rfl ?_
                              refine V_isubN X dX12_odds_127 (by omega) ?_
                              refine V_weak (lv' := [some (.ref (a 0)), some (.int (nI x.toNat)), some (.int (nI y.toNat)), some (.int (nI z.toNat)), some (.int (iI v)), some (.int (nI ((s (5 + (6 * (x.toNat / 10) + x.toNat % 10)) % 16 + to 1 - 1) / to 1))), some (.int (nI ab)), some (.int (nI (10 ^ z.toNat))), some (.int (nI e)), some (.int (nI w)), some (.int (nI q))]) (And.intro rfl (And.intro rfl (And.intro rfl (And.intro rfl (And.intro rfl (And.intro rfl (And.intro rfl (And.intro rfl (And.intro rfl (And.intro rfl (And.intro rfl trivial))))))))))) ?_
                              exact J_128_21 (10 - y.toNat) (by first | rw [if_pos (by omega)] | rw [if_neg (by omega)])
                            · refine V_iload_n X dX12_odds_120 rfl ?_
                              refine V_goto X 128 dX12_odds_121 (by decide) ?_
                              refine V_weak (lv' := [some (.ref (a 0)), some (.int (nI x.toNat)), some (.int (nI y.toNat)), some (.int (nI z.toNat)), some (.int (iI v)), some (.int (nI ((s (5 + (6 * (x.toNat / 10) + x.toNat % 10)) % 16 + to 1 - 1) / to 1))), some (.int (nI ab)), some (.int (nI (10 ^ z.toNat))), some (.int (nI e)), some (.int (nI w)), some (.int (nI q))]) (And.intro rfl (And.intro rfl (And.intro rfl (And.intro rfl (And.intro rfl (And.intro rfl (And.intro rfl (And.intro rfl (And.intro rfl (And.intro rfl (And.intro rfl trivial))))))))))) ?_
                              exact J_128_21 y.toNat (by first | rw [if_pos (by omega)] | rw [if_neg (by omega)])
                      refine V_weak (lv' := [some (.ref (a 0)), some (.int (nI x.toNat)), some (.int (nI y.toNat)), some (.int (nI z.toNat)), some (.int (iI v)), some (.int (nI ((s (5 + (6 * (x.toNat / 10) + x.toNat % 10)) % 16 + to 1 - 1) / to 1))), some (.int (nI ab)), some (.int (nI (10 ^ z.toNat))), some (.int (nI e)), some (.int (nI 1)), some (.int (nI 0))]) (And.intro rfl (And.intro rfl (And.intro rfl (And.intro rfl (And.intro rfl (And.intro rfl (And.intro rfl (And.intro rfl (And.intro rfl (And.intro rfl (And.intro rfl trivial))))))))))) ?_
                      exact L_102 _ 1 0 (by omega) rfl (Nat.lt_succ_self _)
                refine V_weak (lv' := [some (.ref (a 0)), some (.int (nI x.toNat)), some (.int (nI y.toNat)), some (.int (nI z.toNat)), some (.int (iI v)), some (.int (nI ((s (5 + (6 * (x.toNat / 10) + x.toNat % 10)) % 16 + to 1 - 1) / to 1))), some (.int (nI 0)), some (.int (nI (10 ^ z.toNat))), some (.int (nI 0)), none, none]) (And.intro rfl (And.intro rfl (And.intro rfl (And.intro rfl (And.intro rfl (And.intro rfl (And.intro rfl (And.intro rfl (And.intro rfl trivial))))))))) ?_
                exact L_88 _ 0 0 (Nat.zero_le _) rfl (Nat.lt_succ_self _)
              · refine V_iload X dX12_odds_72 rfl ?_
                refine V_bipush X (nI 10) dX12_odds_74 (by decide) ?_
                refine V_imulN X dX12_odds_76 ?_
                refine V_istore X dX12_odds_77 (by decide) rfl ?_
                refine V_iincN X (c := 1) dX12_odds_79 rfl (by decide) rfl ?_
                refine V_goto X 66 dX12_odds_82 (by decide) ?_
                refine V_weak (lv' := [some (.ref (a 0)), some (.int (nI x.toNat)), some (.int (nI y.toNat)), some (.int (nI z.toNat)), some (.int (iI v)), some (.int (nI ((s (5 + (6 * (x.toNat / 10) + x.toNat % 10)) % 16 + to 1 - 1) / to 1))), some (.int (nI 0)), some (.int (nI (u * 10))), some (.int (nI (q + 1))), none, none]) (And.intro rfl (And.intro rfl (And.intro rfl (And.intro rfl (And.intro rfl (And.intro rfl (And.intro rfl (And.intro rfl (And.intro rfl trivial))))))))) ?_
                exact ih_66 (u * 10) (q + 1) (by omega) (by rw [hu, Nat.pow_succ]) (by omega)
          refine V_weak (lv' := [some (.ref (a 0)), some (.int (nI x.toNat)), some (.int (nI y.toNat)), some (.int (nI z.toNat)), some (.int (iI v)), some (.int (nI ((s (5 + ((6 * (x.toNat / 10)) + (x.toNat % 10))) % 16 + to 1 - 1) / to 1))), some (.int (nI 0)), some (.int (nI 1)), some (.int (nI 0)), none, none]) (And.intro rfl (And.intro rfl (And.intro rfl (And.intro rfl (And.intro rfl (And.intro rfl (And.intro rfl (And.intro rfl (And.intro rfl trivial))))))))) ?_
          exact L_66 _ 1 0 (by omega) rfl (Nat.lt_succ_self _)
        · refine V_iconst X (-1) dX12_odds_37 (by decide) ?_
          exact V_iret X Y () trivial (mv_ri (by unfold spOdds; rw [if_neg (by omega)]; rfl)) rfl rfl dX12_odds_38
