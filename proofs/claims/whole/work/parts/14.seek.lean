def sv25 (T : Nat → Nat) (z : Int) : Nat := if 0 ≤ z ∧ z < 25 then T z.toNat else 0
theorem sv25_le {T : Nat → Nat} (h : ∀ j, T j ≤ 36) (z : Int) : sv25 T z ≤ 36 := by
  unfold sv25
  split
  · exact h _
  · omega
abbrev BSt : Type := Int × (Nat → Int)
def wst (T : Nat → Nat) (x : BSt) (f s t : Int) : BSt := if x.1 < ((sv25 T f + sv25 T s + sv25 T t : Nat) : Int) then (((sv25 T f + sv25 T s + sv25 T t : Nat) : Int), va_up (va_up (va_up x.2 0 f) 1 s) 2 t) else x
def aprt (t o : Nat) : Prop := t / 5 + 1 < o / 5 ∨ o / 5 + 1 < t / 5 ∨ t % 5 + 1 < o % 5 ∨ o % 5 + 1 < t % 5
def aprB (t o : Nat) : Bool := decide (t / 5 + 1 < o / 5) || (decide (o / 5 + 1 < t / 5) || (decide (t % 5 + 1 < o % 5) || decide (o % 5 + 1 < t % 5)))
theorem aprB_t {t o : Nat} (h : t / 5 + 1 < o / 5 ∨ o / 5 + 1 < t / 5 ∨ t % 5 + 1 < o % 5 ∨ o % 5 + 1 < t % 5) : aprB t o = true := by simpa [aprB] using h
theorem aprB_f {t o : Nat} (h : t / 5 ≤ o / 5 + 1 ∧ o / 5 ≤ t / 5 + 1 ∧ t % 5 ≤ o % 5 + 1 ∧ o % 5 ≤ t % 5 + 1) : aprB t o = false := by
  simp [aprB]
  omega
def lpU {σ : Type} (f : Nat → σ → σ) : Nat → Nat → σ → σ
  | 0, _, x => x
  | c + 1, lo, x => lpU f c (lo + 1) (f lo x)
theorem lpU_step {σ : Type} (f : Nat → σ → σ) {n lo : Nat} (h : lo < n) (x : σ) : lpU f (n - lo) lo x = lpU f (n - (lo + 1)) (lo + 1) (f lo x) := by
  rw [show n - lo = (n - (lo + 1)) + 1 by omega]
  rfl
def row3 (T : Nat → Nat) (f s : Nat) (t : Nat) (x : BSt) : BSt := if (aprB f t && aprB s t) = true then wst T x f s t else x
def seek3 (T : Nat → Nat) (f s : Nat) (x : BSt) : BSt := lpU (row3 T f s) (25 - (s + 1)) (s + 1) x
def row2 (T : Nat → Nat) (k f : Nat) (s : Nat) (x : BSt) : BSt := if aprB f s = true then (if k = 2 then wst T x f s (-9) else seek3 T f s x) else x
def seek2 (T : Nat → Nat) (k f : Nat) (x : BSt) : BSt := lpU (row2 T k f) (25 - (f + 1)) (f + 1) x
def row1 (T : Nat → Nat) (k : Nat) (f : Nat) (x : BSt) : BSt := if k = 1 then wst T x f (-9) (-9) else seek2 T k f x
def seek1 (T : Nat → Nat) (k : Nat) (x : BSt) : BSt := lpU (row1 T k) (25 - 0) 0 x
def trT (d : Nat → Nat) (t : Nat) : Nat := tray d (6 * (t / 5) + t % 5)
theorem trT_le {d : Nat → Nat} (h : ∀ j, d j ≤ 9) (t : Nat) : trT d t ≤ 36 := by
  have h1 := h (6 * (t / 5) + t % 5)
  have h2 := h (6 * (t / 5) + t % 5 + 1)
  have h3 := h (6 * (t / 5) + t % 5 + 6)
  have h4 := h (6 * (t / 5) + t % 5 + 7)
  simp only [trT, tray]
  omega
/-- reached in d steps -/
def rch (de : Nat → Nat) (fr : Nat) : Nat → Nat → Prop
  | 0, c => c = fr
  | d + 1, c => c < 36 ∧ de c = 0 ∧ ∃ a sd, sd < 4 ∧ a < 36 ∧ rch de fr d a ∧ nb a sd = c
/-- the fewest steps, told by S (none: -9) -/
def isD (de : Nat → Nat) (fr : Nat) (S : Nat → Int) : Prop := ∀ c, c < 36 → (S c = -9 ∧ ∀ d, ¬ rch de fr d c) ∨ (0 ≤ S c ∧ rch de fr (S c).toNat c ∧ ∀ d, rch de fr d c → S c ≤ d)
def cntV (S : Nat → Int) : Nat → Nat
  | 0 => 0
  | n + 1 => cntV S n + (if S n = -9 then 0 else 1)
theorem cntV_le (S : Nat → Int) : ∀ n, cntV S n ≤ n
  | 0 => Nat.le_refl _
  | n + 1 => by
    have := cntV_le S n
    simp only [cntV]
    split <;> omega
theorem cntV_lt {S : Nat → Int} {c : Nat} (hS : S c = -9) : ∀ n, c < n → cntV S n < n
  | 0, h => absurd h (by omega)
  | n + 1, h => by
    have h1 := cntV_le S n
    simp only [cntV]
    rcases Nat.lt_or_ge c n with z | z
    · have := cntV_lt hS n z
      split <;> omega
    · have e : c = n := by omega
      subst e
      rw [if_pos hS]
      omega
theorem cntV_out {S : Nat → Int} {c : Nat} {v : Int} : ∀ n, n ≤ c → cntV (va_up S c v) n = cntV S n
  | 0, _ => rfl
  | n + 1, h => by
    have h1 := cntV_out (S := S) (c := c) (v := v) n (by omega)
    have e : va_up S c v n = S n := by
      simp only [va_up]
      rw [if_neg (by omega)]
    simp only [cntV, h1, e]
theorem cntV_up {S : Nat → Int} {c : Nat} {v : Int} (hS : S c = -9) (hv : ¬ v = -9) : ∀ n, c < n → cntV (va_up S c v) n = cntV S n + 1
  | 0, h => absurd h (by omega)
  | n + 1, h => by
    rcases Nat.lt_or_ge c n with z | z
    · have h1 := cntV_up hS hv n z
      have e : va_up S c v n = S n := by
        simp only [va_up]
        rw [if_neg (by omega)]
      simp only [cntV, h1, e]
      omega
    · have e : c = n := by omega
      subst e
      have h1 := cntV_out (S := S) (c := c) (v := v) c (Nat.le_refl _)
      simp only [cntV, h1]
      rw [show va_up S c v c = v by simp [va_up], if_neg hv, if_pos hS]
def ndone (de : Nat → Nat) (S : Nat → Int) (a sd : Nat) : Prop := ∀ c : Nat, c < 36 → nb a sd = (c : Int) → de c = 0 → 0 ≤ S c ∧ S c ≤ S a + 1
def BI (de : Nat → Nat) (fr : Nat) (S : Nat → Int) (Q : Nat → Nat) (i wt : Nat) : Prop :=
  (1 ≤ wt ∧ wt ≤ 36 ∧ i ≤ wt) ∧ cntV S 36 = wt ∧ (∀ j, j < wt → Q j < 36 ∧ 0 ≤ S (Q j)) ∧ (∀ c, c < 36 → ¬ S c = -9 → ∃ j, j < wt ∧ Q j = c) ∧ (∀ j k, j < k → k < wt → S (Q j) ≤ S (Q k)) ∧ (∀ j, i < wt → j < wt → S (Q j) ≤ S (Q i) + 1) ∧
  (∀ c, -9 ≤ S c ∧ S c ≤ wt) ∧ (∀ c, c < 36 → 0 ≤ S c → rch de fr (S c).toNat c) ∧ S fr = 0 ∧ fr < 36 ∧ (∀ j, j < i → ∀ sd, sd < 4 → ndone de S (Q j) sd)
theorem BI_init {de : Nat → Nat} {fr : Nat} {Q : Nat → Nat} (h : fr < 36) : BI de fr (va_up (fun _ => -9) fr 0) (va_up Q 0 fr) 0 1 := by
  have hQ : va_up Q 0 fr 0 = fr := by simp [va_up]
  have hS : va_up (fun _ => (-9 : Int)) fr 0 fr = 0 := by simp [va_up]
  have hz : ∀ n, cntV (fun _ => -9) n = 0 := fun n => by
    induction n with
    | zero => rfl
    | succ n ih => simp [cntV, ih]
  refine ⟨by omega, ?_, ?_, ?_, ?_, ?_, ?_, ?_, hS, h, ?_⟩
  · rw [cntV_up (S := fun _ => -9) (c := fr) (v := 0) rfl (by decide) 36 h, hz]
  · intro j hj
    rw [show j = 0 by omega, hQ, hS]
    omega
  · intro c hc hn
    refine ⟨0, by omega, ?_⟩
    rw [hQ]
    by_cases e : c = fr
    · exact e.symm
    · exact absurd (by simp [va_up, e]) hn
  · intro j k h1 h2
    omega
  · intro j h1 h2
    rw [show j = 0 by omega]
    omega
  · intro c
    by_cases e : c = fr
    · rw [e, hS]
      omega
    · rw [show va_up (fun _ => (-9 : Int)) fr 0 c = -9 by simp [va_up, e]]
      omega
  · intro c hc h0
    by_cases e : c = fr
    · subst e
      rw [hS]
      rfl
    · rw [show va_up (fun _ => (-9 : Int)) fr 0 c = -9 by simp [va_up, e]] at h0
      omega
  · intro j hj
    omega
theorem BI_room {de : Nat → Nat} {fr : Nat} {S : Nat → Int} {Q : Nat → Nat} {i wt c : Nat} (h : BI de fr S Q i wt) (hc : c < 36) (hS : S c = -9) : wt < 36 := by
  have := cntV_lt hS 36 hc
  rw [h.2.1] at this
  exact this
theorem BI_visit {de : Nat → Nat} {fr : Nat} {S : Nat → Int} {Q : Nat → Nat} {i wt c sd : Nat} (h : BI de fr S Q i wt) (hi : i < wt) (hw : wt < 36) (hc : c < 36) (hS : S c = -9) (hd : de c = 0) (hsd : sd < 4) (hn : nb (Q i) sd = (c : Int)) :
    BI de fr (va_up S c (S (Q i) + 1)) (va_up Q wt c) i (wt + 1) ∧ (∀ sd', ndone de S (Q i) sd' → ndone de (va_up S c (S (Q i) + 1)) (va_up Q wt c i) sd') ∧ ndone de (va_up S c (S (Q i) + 1)) (va_up Q wt c i) sd := by
  obtain ⟨h1, h2, h3, h4, h5, h6, h7, h8, h9, h10, h11⟩ := h
  have q0 := h3 i hi
  have eQ : ∀ j, j < wt → va_up Q wt c j = Q j := fun j hj => by simp only [va_up]; rw [if_neg (by omega)]
  have eQw : va_up Q wt c wt = c := by simp [va_up]
  have ne : ∀ j, j < wt → ¬ Q j = c := fun j hj e => by
    have := (h3 j hj).2
    rw [e, hS] at this
    omega
  have eS : ∀ b, ¬ b = c → va_up S c (S (Q i) + 1) b = S b := fun b hb => by simp only [va_up]; rw [if_neg hb]
  have eSc : va_up S c (S (Q i) + 1) c = S (Q i) + 1 := by simp [va_up]
  have eSQ : ∀ j, j < wt → va_up S c (S (Q i) + 1) (Q j) = S (Q j) := fun j hj => eS _ (ne j hj)
  have key : ∀ a, 0 ≤ S a → ∀ sd', ndone de S a sd' → ndone de (va_up S c (S (Q i) + 1)) a sd' := fun a ha sd' hx b hb hnb hdb => by
    have ha2 : ¬ a = c := fun e => by rw [e, hS] at ha; omega
    have hx2 := hx b hb hnb hdb
    have hb2 : ¬ b = c := fun e => by rw [e, hS] at hx2; omega
    rw [eS b hb2, eS a ha2]
    exact hx2
  refine ⟨⟨by omega, ?_, ?_, ?_, ?_, ?_, ?_, ?_, ?_, h10, ?_⟩, ?_, ?_⟩
  · rw [cntV_up hS (by omega) 36 hc, h2]
  · intro j hj
    rcases Nat.lt_or_ge j wt with z | z
    · rw [eQ j z, eSQ j z]
      exact h3 j z
    · rw [show j = wt by omega, eQw, eSc]
      omega
  · intro b hb hnb
    by_cases e : b = c
    · exact ⟨wt, by omega, by rw [eQw, e]⟩
    · rw [eS b e] at hnb
      obtain ⟨j, j1, j2⟩ := h4 b hb hnb
      exact ⟨j, by omega, by rw [eQ j j1]; exact j2⟩
  · intro j k hjk hk
    rcases Nat.lt_or_ge k wt with z | z
    · rw [eQ j (by omega), eQ k z, eSQ j (by omega), eSQ k z]
      exact h5 j k hjk z
    · rw [show k = wt by omega, eQw, eSc, eQ j (by omega), eSQ j (by omega)]
      exact h6 j hi (by omega)
  · intro j _ hj
    rw [eQ i hi, eSQ i hi]
    rcases Nat.lt_or_ge j wt with z | z
    · rw [eQ j z, eSQ j z]
      exact h6 j hi z
    · rw [show j = wt by omega, eQw, eSc]
      omega
  · intro b
    have hq := h7 (Q i)
    by_cases e : b = c
    · rw [e, eSc]
      omega
    · rw [eS b e]
      have := h7 b
      omega
  · intro b hb h0
    by_cases e : b = c
    · subst e
      rw [eSc]
      rw [show (S (Q i) + 1).toNat = (S (Q i)).toNat + 1 by omega]
      exact ⟨hb, hd, Q i, sd, hsd, q0.1, h8 (Q i) q0.1 q0.2, hn⟩
    · rw [eS b e] at h0 ⊢
      exact h8 b hb h0
  · rw [eS fr (fun e => by rw [← e, h9] at hS; omega)]
    exact h9
  · intro j hj sd' hs'
    rw [eQ j (by omega)]
    exact key _ (h3 j (by omega)).2 sd' (h11 j hj sd' hs')
  · intro sd' hx
    rw [eQ i hi]
    exact key _ q0.2 sd' hx
  · rw [eQ i hi]
    intro b hb hnb _
    have e : b = c := by
      have : (b : Int) = c := hnb.symm.trans hn
      omega
    subst e
    rw [eSc, eS (Q i) (ne i hi)]
    omega
theorem BI_next {de : Nat → Nat} {fr : Nat} {S : Nat → Int} {Q : Nat → Nat} {i wt : Nat} (h : BI de fr S Q i wt) (hi : i < wt) (hd : ∀ sd, sd < 4 → ndone de S (Q i) sd) : BI de fr S Q (i + 1) wt := by
  obtain ⟨h1, h2, h3, h4, h5, h6, h7, h8, h9, h10, h11⟩ := h
  refine ⟨by omega, h2, h3, h4, h5, ?_, h7, h8, h9, h10, ?_⟩
  · intro j hi2 hj
    have a1 := h6 j hi hj
    have a2 := h5 i (i + 1) (by omega) hi2
    omega
  · intro j hj sd hs
    rcases Nat.lt_or_ge j i with z | z
    · exact h11 j z sd hs
    · rw [show j = i by omega]
      exact hd sd hs
theorem BI_shut {de : Nat → Nat} {fr : Nat} {S : Nat → Int} {Q : Nat → Nat} {i wt c : Nat} (h : BI de fr S Q i wt) (hi : i < wt) (hc : c < 36) (hS : ¬ S c = -9) : 0 ≤ S c ∧ S c ≤ S (Q i) + 1 := by
  obtain ⟨j, h1, h2⟩ := h.2.2.2.1 c hc hS
  have a := (h.2.2.1 j h1).2
  have b := h.2.2.2.2.2.1 j hi h1
  rw [h2] at a b
  exact ⟨a, b⟩
theorem BI_end {de : Nat → Nat} {fr : Nat} {S : Nat → Int} {Q : Nat → Nat} {i wt : Nat} (h : BI de fr S Q i wt) (hi : wt ≤ i) : isD de fr S := by
  obtain ⟨h1, h2, h3, h4, h5, h6, h7, h8, h9, h10, h11⟩ := h
  have low : ∀ d c, c < 36 → rch de fr d c → 0 ≤ S c ∧ S c ≤ d := fun d => by
    induction d with
    | zero =>
      intro c hc hr
      have e : c = fr := hr
      rw [e, h9]
      omega
    | succ d ih =>
      intro c hc hr
      obtain ⟨_, hd, a, sd, hsd, ha, hr2, hn⟩ := hr
      obtain ⟨a1, a2⟩ := ih a ha hr2
      obtain ⟨j, j1, j2⟩ := h4 a ha (by omega)
      have := h11 j (by omega) sd hsd c hc (by rw [j2]; exact hn) hd
      rw [j2] at this
      omega
  intro c hc
  by_cases e : S c = -9
  · exact Or.inl ⟨e, fun d hr => by have := low d c hc hr; omega⟩
  · obtain ⟨j, j1, j2⟩ := h4 c hc e
    have a := (h3 j j1).2
    rw [j2] at a
    exact Or.inr ⟨a, h8 c hc a, fun d hr => (low d c hc hr).2⟩
set_option maxHeartbeats 4000000 in
set_option maxRecDepth 100000 in
theorem c_X11_saveOf (l : Launch) (G : mvG) (a : Nat → Nat) (im : Nat → Nat → Nat) (kd : Nat → Nat) (re : Nat) (pa : Nat) (fa : Nat) (b : Nat → Nat) (c : Nat → Nat) (kk : Nat → Nat) (ts : Nat → Nat) (bt : Nat → Int) (sp : Nat → Int) (qu : Nat → Nat) (bs : Int) (tr : Int64) (z : Int) (hz : -2147483648 ≤ z ∧ z < 2147483648) : KQ l yX11_saveOf cX11_saveOf 2 (some .int) (0, 0) G [.ref (a 0), .int (iI z)] [gMoot G a (fun j => im j 0) kd re (b 0) (c 0) pa fa (nF kk) (nF ts) (sF bt) (sF sp) (nF qu) (iI bs) tr] (fun (_ : Unit) => some (.int (nI (sv25 ts z)))) (fun (_ : Unit) => True) (fun (_ : Unit) => [gMoot G a (fun j => im j 0) kd re (b 0) (c 0) pa fa (nF kk) (nF ts) (sF bt) (sF sp) (nF qu) (iI bs) tr]) := by
  refine KQ.mk (by decide +kernel) (fun _ _ => rfl) [some (.ref (a 0)), some (.int (iI z))] (Nat.le_of_ble_eq_true rfl) rfl (fun C X Y hC => ?_)
  subst hC
  refine V_iload_n X dX11_saveOf_0 rfl ?_
  refine V_if_ltI (i := z) X 22 dX11_saveOf_1 (by decide) (iI_toInt (by omega) (by omega)) (fun c_1 => ?_) (fun c_1 => ?_)
  · refine V_iconst X (nI 0) dX11_saveOf_22 (by decide) ?_
    exact V_iret X Y () trivial (mv_rn (by simp only [sv25]; first | rw [if_pos (by omega)] | rw [if_neg (by omega)])) rfl rfl dX11_saveOf_23
  · refine V_iload_n X dX11_saveOf_4 rfl ?_
    refine V_aload_n X dX11_saveOf_5 rfl ?_
    refine V_get X fl_X11_58 0 0 rfl rfl rfl dX11_saveOf_6 ?_
    refine V_alen X (t0 := 0) 0 4 (nI 25) rfl rfl rfl rfl dX11_saveOf_9 ?_
    refine V_icmp_geI (i := z) (j := 25) X 22 dX11_saveOf_10 (by decide) (iI_toInt (by omega) (by omega)) (nI_toInt (by decide)) (fun c_2 => ?_) (fun c_2 => ?_)
    · refine V_iconst X (nI 0) dX11_saveOf_22 (by decide) ?_
      exact V_iret X Y () trivial (mv_rn (by simp only [sv25]; first | rw [if_pos (by omega)] | rw [if_neg (by omega)])) rfl rfl dX11_saveOf_23
    · refine V_loc (y := (nI z.toNat)) 1 rfl (mv_sn (by omega)) ?_
      refine V_aload_n X dX11_saveOf_13 rfl ?_
      refine V_get X fl_X11_58 0 0 rfl rfl rfl dX11_saveOf_14 ?_
      refine V_iload_n X dX11_saveOf_17 rfl ?_
      refine V_ialdN X 0 4 rfl rfl (by omega) (by decide) dX11_saveOf_18 ?_
      refine V_goto X 23 dX11_saveOf_19 (by decide) ?_
      exact V_iret X Y () trivial (mv_rn (by simp only [sv25]; first | rw [if_pos (by omega)] | rw [if_neg (by omega)])) rfl rfl dX11_saveOf_23
set_option maxHeartbeats 4000000 in
set_option maxRecDepth 100000 in
theorem c_X11_weigh (l : Launch) (G : mvG) (a : Nat → Nat) (im : Nat → Nat → Nat) (kd : Nat → Nat) (re : Nat) (pa : Nat) (fa : Nat) (b : Nat → Nat) (c : Nat → Nat) (kk : Nat → Nat) (ts : Nat → Nat) (bt : Nat → Int) (sp : Nat → Int) (qu : Nat → Nat) (bs : Int) (tr : Int64) (f1 : Int) (s1 : Int) (t1 : Int) (hts : ∀ j, ts j ≤ 36) (hbs : -1 ≤ bs ∧ bs ≤ 108) (hf1 : -2147483648 ≤ f1 ∧ f1 < 2147483648) (hs1 : -2147483648 ≤ s1 ∧ s1 < 2147483648) (ht1 : -2147483648 ≤ t1 ∧ t1 < 2147483648) : KQ l yX11_weigh cX11_weigh 5 none (1, 21) G [.ref (a 0), .int (iI f1), .int (iI s1), .int (iI t1)] [gMoot G a (fun j => im j 0) kd re (b 0) (c 0) pa fa (nF kk) (nF ts) (sF bt) (sF sp) (nF qu) (iI bs) tr] (fun (zz : Int × (Nat → Int)) => none) (fun (zz : Int × (Nat → Int)) => (zz.1, zz.2) = wst ts (bs, bt) f1 s1 t1 ∧ -1 ≤ zz.1 ∧ zz.1 ≤ 108) (fun (zz : Int × (Nat → Int)) => [gMoot G a (fun j => im j 0) kd re (b 0) (c 0) pa fa (nF kk) (nF ts) (sF zz.2) (sF sp) (nF qu) (iI zz.1) tr]) := by
  refine KQ.mk (by decide +kernel) (fun _ _ => rfl) [some (.ref (a 0)), some (.int (iI f1)), some (.int (iI s1)), some (.int (iI t1)), none] (Nat.le_of_ble_eq_true rfl) rfl (fun C X Y hC => ?_)
  subst hC
  refine V_aload_n X dX11_weigh_0 rfl ?_
  refine V_iload_n X dX11_weigh_1 rfl ?_
  refine V_callV (rest := []) X (c_X11_saveOf (Cl C) G a im kd re pa fa b c kk ts bt sp qu bs tr f1 (by first | assumption | omega)) mi_X11_saveOf kw_3_68 kw_3_70 kw_s_19 dX11_weigh_2 [0] rfl (by decide) 0 0 rfl rfl rfl rfl rfl rfl (by decide) (Nat.le_of_ble_eq_true rfl) ⟨rfl, rfl⟩ (fun _ _ => ?_)
  show V C 0 0 [gMoot G a (fun j => im j 0) kd re (b 0) (c 0) pa fa (nF kk) (nF ts) (sF bt) (sF sp) (nF qu) (iI bs) tr] 5 [some (.ref (a 0)), some (.int (iI f1)), some (.int (iI s1)), some (.int (iI t1)), none] [.int (nI (sv25 ts f1))]
  refine V_aload_n X dX11_weigh_5 rfl ?_
  refine V_iload_n X dX11_weigh_6 rfl ?_
  refine V_callV (rest := [.int (nI (sv25 ts f1))]) X (c_X11_saveOf (Cl C) G a im kd re pa fa b c kk ts bt sp qu bs tr s1 (by first | assumption | omega)) mi_X11_saveOf kw_3_68 kw_3_70 kw_s_19 dX11_weigh_7 [0] rfl (by decide) 0 0 rfl rfl rfl rfl rfl rfl (by decide) (Nat.le_of_ble_eq_true rfl) ⟨rfl, rfl⟩ (fun _ _ => ?_)
  show V C 0 0 [gMoot G a (fun j => im j 0) kd re (b 0) (c 0) pa fa (nF kk) (nF ts) (sF bt) (sF sp) (nF qu) (iI bs) tr] 10 [some (.ref (a 0)), some (.int (iI f1)), some (.int (iI s1)), some (.int (iI t1)), none] [.int (nI (sv25 ts s1)), .int (nI (sv25 ts f1))]
  refine V_iaddN X dX11_weigh_10 ?_
  refine V_aload_n X dX11_weigh_11 rfl ?_
  refine V_iload_n X dX11_weigh_12 rfl ?_
  refine V_callV (rest := [.int (nI ((sv25 ts f1) + (sv25 ts s1)))]) X (c_X11_saveOf (Cl C) G a im kd re pa fa b c kk ts bt sp qu bs tr t1 (by first | assumption | omega)) mi_X11_saveOf kw_3_68 kw_3_70 kw_s_19 dX11_weigh_13 [0] rfl (by decide) 0 0 rfl rfl rfl rfl rfl rfl (by decide) (Nat.le_of_ble_eq_true rfl) ⟨rfl, rfl⟩ (fun _ _ => ?_)
  show V C 0 0 [gMoot G a (fun j => im j 0) kd re (b 0) (c 0) pa fa (nF kk) (nF ts) (sF bt) (sF sp) (nF qu) (iI bs) tr] 16 [some (.ref (a 0)), some (.int (iI f1)), some (.int (iI s1)), some (.int (iI t1)), none] [.int (nI (sv25 ts t1)), .int (nI ((sv25 ts f1) + (sv25 ts s1)))]
  refine V_iaddN X dX11_weigh_16 ?_
  refine V_istore X dX11_weigh_17 (by decide) rfl ?_
  have h1 := sv25_le hts f1
  have h2 := sv25_le hts s1
  have h3 := sv25_le hts t1
  refine V_iload X dX11_weigh_19 rfl ?_
  refine V_aload_n X dX11_weigh_21 rfl ?_
  refine V_get X fl_X11_228 0 0 rfl rfl rfl dX11_weigh_22 ?_
  refine V_icmp_leI (i := ((((sv25 ts f1) + (sv25 ts s1)) + (sv25 ts t1) : Nat) : Int)) (j := bs) X 55 dX11_weigh_25 (by decide) (nI_toInt (by omega)) (iI_toInt (by omega) (by omega)) (fun c_1 => ?_) (fun c_1 => ?_)
  · exact V_vret X Y ⟨bs, bt⟩ (show (bs, bt) = wst ts (bs, bt) f1 s1 t1 ∧ -1 ≤ bs ∧ bs ≤ 108 from ⟨by simp only [wst]; first | rw [if_pos (by omega)] | rw [if_neg (by omega)], by omega, by omega⟩) rfl rfl dX11_weigh_55
  · refine V_aload_n X dX11_weigh_28 rfl ?_
    refine V_iload X dX11_weigh_29 rfl ?_
    refine V_put X fl_X11_228 0 0 rfl rfl rfl rfl (Nat.le_of_ble_eq_true rfl) dX11_weigh_31 ?_
    show V C 0 0 [gMoot G a (fun j => im j 0) kd re (b 0) (c 0) pa fa (nF kk) (nF ts) (sF bt) (sF sp) (nF qu) (nI (((sv25 ts f1) + (sv25 ts s1)) + (sv25 ts t1))) tr] 34 [some (.ref (a 0)), some (.int (iI f1)), some (.int (iI s1)), some (.int (iI t1)), some (.int (nI (((sv25 ts f1) + (sv25 ts s1)) + (sv25 ts t1))))] []
    refine V_aload_n X dX11_weigh_34 rfl ?_
    refine V_get X fl_X11_62 0 0 rfl rfl rfl dX11_weigh_35 ?_
    refine V_iconst X (nI 0) dX11_weigh_38 (by decide) ?_
    refine V_iload_n X dX11_weigh_39 rfl ?_
    refine V_iastS X (v := f1) 0 5 rfl rfl (by decide) (by decide) dX11_weigh_40 ?_
    show V C 0 0 [gMoot G a (fun j => im j 0) kd re (b 0) (c 0) pa fa (nF kk) (nF ts) (sF (va_up bt 0 (f1 : Int))) (sF sp) (nF qu) (nI (((sv25 ts f1) + (sv25 ts s1)) + (sv25 ts t1))) tr] 41 [some (.ref (a 0)), some (.int (iI f1)), some (.int (iI s1)), some (.int (iI t1)), some (.int (nI (((sv25 ts f1) + (sv25 ts s1)) + (sv25 ts t1))))] []
    refine V_aload_n X dX11_weigh_41 rfl ?_
    refine V_get X fl_X11_62 0 0 rfl rfl rfl dX11_weigh_42 ?_
    refine V_iconst X (nI 1) dX11_weigh_45 (by decide) ?_
    refine V_iload_n X dX11_weigh_46 rfl ?_
    refine V_iastS X (v := s1) 0 5 rfl rfl (by decide) (by decide) dX11_weigh_47 ?_
    show V C 0 0 [gMoot G a (fun j => im j 0) kd re (b 0) (c 0) pa fa (nF kk) (nF ts) (sF (va_up (va_up bt 0 (f1 : Int)) 1 (s1 : Int))) (sF sp) (nF qu) (nI (((sv25 ts f1) + (sv25 ts s1)) + (sv25 ts t1))) tr] 48 [some (.ref (a 0)), some (.int (iI f1)), some (.int (iI s1)), some (.int (iI t1)), some (.int (nI (((sv25 ts f1) + (sv25 ts s1)) + (sv25 ts t1))))] []
    refine V_aload_n X dX11_weigh_48 rfl ?_
    refine V_get X fl_X11_62 0 0 rfl rfl rfl dX11_weigh_49 ?_
    refine V_iconst X (nI 2) dX11_weigh_52 (by decide) ?_
    refine V_iload_n X dX11_weigh_53 rfl ?_
    refine V_iastS X (v := t1) 0 5 rfl rfl (by decide) (by decide) dX11_weigh_54 ?_
    show V C 0 0 [gMoot G a (fun j => im j 0) kd re (b 0) (c 0) pa fa (nF kk) (nF ts) (sF (va_up (va_up (va_up bt 0 (f1 : Int)) 1 (s1 : Int)) 2 (t1 : Int))) (sF sp) (nF qu) (nI (((sv25 ts f1) + (sv25 ts s1)) + (sv25 ts t1))) tr] 55 [some (.ref (a 0)), some (.int (iI f1)), some (.int (iI s1)), some (.int (iI t1)), some (.int (nI (((sv25 ts f1) + (sv25 ts s1)) + (sv25 ts t1))))] []
    exact V_vret X Y ⟨((((sv25 ts f1) + (sv25 ts s1)) + (sv25 ts t1) : Nat) : Int), va_up (va_up (va_up bt 0 (f1 : Int)) 1 (s1 : Int)) 2 (t1 : Int)⟩ (show (((((sv25 ts f1) + (sv25 ts s1)) + (sv25 ts t1) : Nat) : Int), (va_up (va_up (va_up bt 0 (f1 : Int)) 1 (s1 : Int)) 2 (t1 : Int))) = wst ts (bs, bt) f1 s1 t1 ∧ -1 ≤ ((((sv25 ts f1) + (sv25 ts s1)) + (sv25 ts t1) : Nat) : Int) ∧ ((((sv25 ts f1) + (sv25 ts s1)) + (sv25 ts t1) : Nat) : Int) ≤ 108 from ⟨by simp only [wst]; first | rw [if_pos (by omega)] | rw [if_neg (by omega)], by omega, by omega⟩) rfl rfl dX11_weigh_55
set_option maxHeartbeats 4000000 in
set_option maxRecDepth 100000 in
theorem c_X11_seekBehind (l : Launch) (G : mvG) (a : Nat → Nat) (im : Nat → Nat → Nat) (kd : Nat → Nat) (re : Nat) (pa : Nat) (fa : Nat) (b : Nat → Nat) (c : Nat → Nat) (kk : Nat → Nat) (ts : Nat → Nat) (bt : Nat → Int) (sp : Nat → Int) (qu : Nat → Nat) (bs : Int) (tr : Int64) (k : Nat) (f : Nat) (hts : ∀ j, ts j ≤ 36) (hbs : -1 ≤ bs ∧ bs ≤ 108) (hk : k = 2 ∨ k = 3) (hf : f < 25) : KQ l yX11_seekBehind cX11_seekBehind 5 none (2, 45) G [.ref (a 0), .int (nI k), .int (nI f)] [gMoot G a (fun j => im j 0) kd re (b 0) (c 0) pa fa (nF kk) (nF ts) (sF bt) (sF sp) (nF qu) (iI bs) tr] (fun (zz : Int × (Nat → Int)) => none) (fun (zz : Int × (Nat → Int)) => (zz.1, zz.2) = seek2 ts k f (bs, bt) ∧ -1 ≤ zz.1 ∧ zz.1 ≤ 108) (fun (zz : Int × (Nat → Int)) => [gMoot G a (fun j => im j 0) kd re (b 0) (c 0) pa fa (nF kk) (nF ts) (sF zz.2) (sF sp) (nF qu) (iI zz.1) tr]) := by
  refine KQ.mk (by decide +kernel) (fun _ _ => rfl) [some (.ref (a 0)), some (.int (nI k)), some (.int (nI f)), none, none] (Nat.le_of_ble_eq_true rfl) rfl (fun C X Y hC => ?_)
  subst hC
  refine V_iload_n X dX11_seekBehind_0 rfl ?_
  refine V_iconst X (nI 1) dX11_seekBehind_1 (by decide) ?_
  refine V_iaddN X dX11_seekBehind_2 ?_
  refine V_istore_n X dX11_seekBehind_3 (by decide) rfl ?_
  have L_4 : ∀ (fz_4 : Nat) (q : Nat) (x : Int) (B : Nat → Int) (hq : f < q ∧ q ≤ 25) (hx : -1 ≤ x ∧ x ≤ 108) (he : lpU (row2 ts k f) (25 - q) q (x, B) = seek2 ts k f (bs, bt)), (25 - q) < fz_4 → V C 0 0 [gMoot G a (fun j => im j 0) kd re (b 0) (c 0) pa fa (nF kk) (nF ts) (sF B) (sF sp) (nF qu) (iI x) tr] 4 [some (.ref (a 0)), some (.int (nI k)), some (.int (nI f)), some (.int (nI q)), none] [] := by
    intro fz_4
    induction fz_4 with
    | zero => intro q x B hq hx he hf_4; exact absurd hf_4 (Nat.not_lt_zero _)
    | succ fz_4 ih_4 =>
      intro q x B hq hx he hf_4
      refine V_iload_n X dX11_seekBehind_4 rfl ?_
      refine V_bipush X (nI 25) dX11_seekBehind_5 (by decide) ?_
      refine V_icmp_geN X 87 dX11_seekBehind_7 (by decide) (by omega) (by decide) (fun c_1 => ?_) (fun c_1 => ?_)
      · exact V_vret X Y ⟨x, B⟩ (show (x, B) = seek2 ts k f (bs, bt) ∧ -1 ≤ x ∧ x ≤ 108 from ⟨by rw [← he, show 25 - q = 0 by omega]; rfl, by omega, by omega⟩) rfl rfl dX11_seekBehind_87
      · refine V_iload_n X dX11_seekBehind_10 rfl ?_
        refine V_iload_n X dX11_seekBehind_11 rfl ?_
        refine V_callS (rest := []) X (c_X11_areApart (Cl C) G f q (by first | assumption | omega) (by first | assumption | omega)) mi_X11_areApart kw_3_76 kw_3_77 dX11_seekBehind_12 [] rfl (by decide) rfl rfl (by decide) (Nat.le_of_ble_eq_true rfl) ⟨rfl, rfl⟩ (fun u_ hu_3 => ?_)
        obtain ⟨b_2, rfl⟩ : ∃ z, z = u_ := ⟨_, rfl⟩
        have hu_3 : (b_2 = 1 ∧ (f / 5 + 1 < q / 5 ∨ q / 5 + 1 < f / 5 ∨ f % 5 + 1 < q % 5 ∨ q % 5 + 1 < f % 5)) ∨ (b_2 = 0 ∧ (f / 5 ≤ q / 5 + 1 ∧ q / 5 ≤ f / 5 + 1 ∧ f % 5 ≤ q % 5 + 1 ∧ q % 5 ≤ f % 5 + 1)) := hu_3
        show V C 0 0 [gMoot G a (fun j => im j 0) kd re (b 0) (c 0) pa fa (nF kk) (nF ts) (sF B) (sF sp) (nF qu) (iI x) tr] 15 [some (.ref (a 0)), some (.int (nI k)), some (.int (nI f)), some (.int (nI q)), none] [.int (nI b_2)]
        refine V_if_neN X 21 dX11_seekBehind_15 (by decide) (by omega) (fun c_4 => ?_) (fun c_4 => ?_)
        · refine V_iload_n X dX11_seekBehind_21 rfl ?_
          refine V_iconst X (nI 2) dX11_seekBehind_22 (by decide) ?_
          refine V_icmp_neN X 37 dX11_seekBehind_23 (by decide) (by omega) (by decide) (fun c_5 => ?_) (fun c_5 => ?_)
          · refine V_iload_n X dX11_seekBehind_37 rfl ?_
            refine V_iconst X (nI 1) dX11_seekBehind_38 (by decide) ?_
            refine V_iaddN X dX11_seekBehind_39 ?_
            refine V_istore X dX11_seekBehind_40 (by decide) rfl ?_
            have L_42 : ∀ (fz_42 : Nat) (u : Nat) (y : Int) (D : Nat → Int) (hu : q < u ∧ u ≤ 25) (hyb : -1 ≤ y ∧ y ≤ 108) (hy : lpU (row3 ts f q) (25 - u) u (y, D) = lpU (row3 ts f q) (25 - (q + 1)) (q + 1) (x, B)), (25 - u) < fz_42 → V C 0 0 [gMoot G a (fun j => im j 0) kd re (b 0) (c 0) pa fa (nF kk) (nF ts) (sF D) (sF sp) (nF qu) (iI y) tr] 42 [some (.ref (a 0)), some (.int (nI k)), some (.int (nI f)), some (.int (nI q)), some (.int (nI u))] [] := by
              intro fz_42
              induction fz_42 with
              | zero => intro u y D hu hyb hy hf_42; exact absurd hf_42 (Nat.not_lt_zero _)
              | succ fz_42 ih_42 =>
                intro u y D hu hyb hy hf_42
                refine V_iload X dX11_seekBehind_42 rfl ?_
                refine V_bipush X (nI 25) dX11_seekBehind_44 (by decide) ?_
                refine V_icmp_geN X 81 dX11_seekBehind_46 (by decide) (by omega) (by decide) (fun c_6 => ?_) (fun c_6 => ?_)
                · refine V_iincN X (c := 1) dX11_seekBehind_81 rfl (by decide) rfl ?_
                  refine V_goto X 4 dX11_seekBehind_84 (by decide) ?_
                  refine V_weak (lv' := [some (.ref (a 0)), some (.int (nI k)), some (.int (nI f)), some (.int (nI (q + 1))), none]) (And.intro rfl (And.intro rfl (And.intro rfl (And.intro rfl trivial)))) ?_
                  exact ih_4 (q + 1) y D (by omega) (by omega) (by rw [← he, lpU_step _ (show q < 25 by omega)]; refine congrArg _ ?_; simp only [row2]; rw [if_pos (aprB_t (by omega)), if_neg (by omega)]; simp only [seek3]; rw [← hy, show 25 - u = 0 by omega]; rfl) (by omega)
                · refine V_iload_n X dX11_seekBehind_49 rfl ?_
                  refine V_iload X dX11_seekBehind_50 rfl ?_
                  refine V_callS (rest := []) X (c_X11_areApart (Cl C) G f u (by first | assumption | omega) (by first | assumption | omega)) mi_X11_areApart kw_3_76 kw_3_77 dX11_seekBehind_52 [] rfl (by decide) rfl rfl (by decide) (Nat.le_of_ble_eq_true rfl) ⟨rfl, rfl⟩ (fun u_ hu_8 => ?_)
                  obtain ⟨b_7, rfl⟩ : ∃ z, z = u_ := ⟨_, rfl⟩
                  have hu_8 : (b_7 = 1 ∧ (f / 5 + 1 < u / 5 ∨ u / 5 + 1 < f / 5 ∨ f % 5 + 1 < u % 5 ∨ u % 5 + 1 < f % 5)) ∨ (b_7 = 0 ∧ (f / 5 ≤ u / 5 + 1 ∧ u / 5 ≤ f / 5 + 1 ∧ f % 5 ≤ u % 5 + 1 ∧ u % 5 ≤ f % 5 + 1)) := hu_8
                  show V C 0 0 [gMoot G a (fun j => im j 0) kd re (b 0) (c 0) pa fa (nF kk) (nF ts) (sF D) (sF sp) (nF qu) (iI y) tr] 55 [some (.ref (a 0)), some (.int (nI k)), some (.int (nI f)), some (.int (nI q)), some (.int (nI u))] [.int (nI b_7)]
                  refine V_if_eqN X 75 dX11_seekBehind_55 (by decide) (by omega) (fun c_9 => ?_) (fun c_9 => ?_)
                  · refine V_iincN X (c := 1) dX11_seekBehind_75 rfl (by decide) rfl ?_
                    refine V_goto X 42 dX11_seekBehind_78 (by decide) ?_
                    refine V_weak (lv' := [some (.ref (a 0)), some (.int (nI k)), some (.int (nI f)), some (.int (nI q)), some (.int (nI (u + 1)))]) (And.intro rfl (And.intro rfl (And.intro rfl (And.intro rfl (And.intro rfl trivial))))) ?_
                    exact ih_42 (u + 1) y D (by omega) (by omega) (by rw [← hy, lpU_step _ (show u < 25 by omega)]; refine congrArg _ ?_; simp only [row3]; rw [if_neg (by rw [aprB_f (t := f) (o := u) (by omega)]; simp)]) (by omega)
                  · refine V_iload_n X dX11_seekBehind_58 rfl ?_
                    refine V_iload X dX11_seekBehind_59 rfl ?_
                    refine V_callS (rest := []) X (c_X11_areApart (Cl C) G q u (by first | assumption | omega) (by first | assumption | omega)) mi_X11_areApart kw_3_76 kw_3_77 dX11_seekBehind_61 [] rfl (by decide) rfl rfl (by decide) (Nat.le_of_ble_eq_true rfl) ⟨rfl, rfl⟩ (fun u_ hu_11 => ?_)
                    obtain ⟨b_10, rfl⟩ : ∃ z, z = u_ := ⟨_, rfl⟩
                    have hu_11 : (b_10 = 1 ∧ (q / 5 + 1 < u / 5 ∨ u / 5 + 1 < q / 5 ∨ q % 5 + 1 < u % 5 ∨ u % 5 + 1 < q % 5)) ∨ (b_10 = 0 ∧ (q / 5 ≤ u / 5 + 1 ∧ u / 5 ≤ q / 5 + 1 ∧ q % 5 ≤ u % 5 + 1 ∧ u % 5 ≤ q % 5 + 1)) := hu_11
                    show V C 0 0 [gMoot G a (fun j => im j 0) kd re (b 0) (c 0) pa fa (nF kk) (nF ts) (sF D) (sF sp) (nF qu) (iI y) tr] 64 [some (.ref (a 0)), some (.int (nI k)), some (.int (nI f)), some (.int (nI q)), some (.int (nI u))] [.int (nI b_10)]
                    refine V_if_eqN X 75 dX11_seekBehind_64 (by decide) (by omega) (fun c_12 => ?_) (fun c_12 => ?_)
                    · refine V_iincN X (c := 1) dX11_seekBehind_75 rfl (by decide) rfl ?_
                      refine V_goto X 42 dX11_seekBehind_78 (by decide) ?_
                      refine V_weak (lv' := [some (.ref (a 0)), some (.int (nI k)), some (.int (nI f)), some (.int (nI q)), some (.int (nI (u + 1)))]) (And.intro rfl (And.intro rfl (And.intro rfl (And.intro rfl (And.intro rfl trivial))))) ?_
                      exact ih_42 (u + 1) y D (by omega) (by omega) (by rw [← hy, lpU_step _ (show u < 25 by omega)]; refine congrArg _ ?_; simp only [row3]; rw [if_neg (by rw [aprB_f (t := q) (o := u) (by omega)]; simp)]) (by omega)
                    · refine V_aload_n X dX11_seekBehind_67 rfl ?_
                      refine V_iload_n X dX11_seekBehind_68 rfl ?_
                      refine V_iload_n X dX11_seekBehind_69 rfl ?_
                      refine V_iload X dX11_seekBehind_70 rfl ?_
                      refine V_callV (rest := []) X (c_X11_weigh (Cl C) G a im kd re pa fa b c kk ts D sp qu y tr ((f : Nat) : Int) ((q : Nat) : Int) ((u : Nat) : Int) (by first | assumption | omega) (by first | assumption | omega) (by first | assumption | omega) (by first | assumption | omega) (by first | assumption | omega)) mi_X11_weigh kw_3_64 kw_3_66 kw_s_18 dX11_seekBehind_72 [0] rfl (by decide) 0 0 rfl rfl rfl rfl rfl rfl (by decide) (Nat.le_of_ble_eq_true rfl) ⟨rfl, rfl⟩ (fun u_ hu_15 => ?_)
                      obtain ⟨x_13, B_14⟩ := u_
                      have hu_15 : (x_13, B_14) = wst ts (y, D) ((f : Nat) : Int) ((q : Nat) : Int) ((u : Nat) : Int) ∧ -1 ≤ x_13 ∧ x_13 ≤ 108 := hu_15
                      show V C 0 0 [gMoot G a (fun j => im j 0) kd re (b 0) (c 0) pa fa (nF kk) (nF ts) (sF B_14) (sF sp) (nF qu) (iI x_13) tr] 75 [some (.ref (a 0)), some (.int (nI k)), some (.int (nI f)), some (.int (nI q)), some (.int (nI u))] []
                      have hw3 := hu_15
                      refine V_iincN X (c := 1) dX11_seekBehind_75 rfl (by decide) rfl ?_
                      refine V_goto X 42 dX11_seekBehind_78 (by decide) ?_
                      refine V_weak (lv' := [some (.ref (a 0)), some (.int (nI k)), some (.int (nI f)), some (.int (nI q)), some (.int (nI (u + 1)))]) (And.intro rfl (And.intro rfl (And.intro rfl (And.intro rfl (And.intro rfl trivial))))) ?_
                      exact ih_42 (u + 1) x_13 B_14 (by omega) (by omega) (by rw [← hy, lpU_step _ (show u < 25 by omega)]; refine congrArg _ ?_; simp only [row3]; rw [if_pos (by rw [aprB_t (by omega), aprB_t (by omega)]; rfl)]; exact hw3.1) (by omega)
            refine V_weak (lv' := [some (.ref (a 0)), some (.int (nI k)), some (.int (nI f)), some (.int (nI q)), some (.int (nI (q + 1)))]) (And.intro rfl (And.intro rfl (And.intro rfl (And.intro rfl (And.intro rfl trivial))))) ?_
            exact L_42 _ (q + 1) x B (by omega) (by omega) rfl (Nat.lt_succ_self _)
          · refine V_aload_n X dX11_seekBehind_26 rfl ?_
            refine V_iload_n X dX11_seekBehind_27 rfl ?_
            refine V_iload_n X dX11_seekBehind_28 rfl ?_
            refine V_bipush X (-9) dX11_seekBehind_29 (by decide) ?_
            refine V_callV (rest := []) X (c_X11_weigh (Cl C) G a im kd re pa fa b c kk ts B sp qu x tr ((f : Nat) : Int) ((q : Nat) : Int) (-9) (by first | assumption | omega) (by first | assumption | omega) (by first | assumption | omega) (by first | assumption | omega) (by first | assumption | omega)) mi_X11_weigh kw_3_64 kw_3_66 kw_s_18 dX11_seekBehind_31 [0] rfl (by decide) 0 0 rfl rfl rfl rfl rfl rfl (by decide) (Nat.le_of_ble_eq_true rfl) ⟨rfl, rfl⟩ (fun u_ hu_18 => ?_)
            obtain ⟨x_16, B_17⟩ := u_
            have hu_18 : (x_16, B_17) = wst ts (x, B) ((f : Nat) : Int) ((q : Nat) : Int) (-9) ∧ -1 ≤ x_16 ∧ x_16 ≤ 108 := hu_18
            show V C 0 0 [gMoot G a (fun j => im j 0) kd re (b 0) (c 0) pa fa (nF kk) (nF ts) (sF B_17) (sF sp) (nF qu) (iI x_16) tr] 34 [some (.ref (a 0)), some (.int (nI k)), some (.int (nI f)), some (.int (nI q)), none] []
            have hww := hu_18
            refine V_goto X 81 dX11_seekBehind_34 (by decide) ?_
            refine V_iincN X (c := 1) dX11_seekBehind_81 rfl (by decide) rfl ?_
            refine V_goto X 4 dX11_seekBehind_84 (by decide) ?_
            refine V_weak (lv' := [some (.ref (a 0)), some (.int (nI k)), some (.int (nI f)), some (.int (nI (q + 1))), none]) (And.intro rfl (And.intro rfl (And.intro rfl (And.intro rfl trivial)))) ?_
            exact ih_4 (q + 1) x_16 B_17 (by omega) (by omega) (by rw [← he, lpU_step _ (show q < 25 by omega)]; refine congrArg _ ?_; simp only [row2]; rw [if_pos (aprB_t (by omega)), if_pos (by omega)]; exact hww.1) (by omega)
        · refine V_goto X 81 dX11_seekBehind_18 (by decide) ?_
          refine V_iincN X (c := 1) dX11_seekBehind_81 rfl (by decide) rfl ?_
          refine V_goto X 4 dX11_seekBehind_84 (by decide) ?_
          refine V_weak (lv' := [some (.ref (a 0)), some (.int (nI k)), some (.int (nI f)), some (.int (nI (q + 1))), none]) (And.intro rfl (And.intro rfl (And.intro rfl (And.intro rfl trivial)))) ?_
          exact ih_4 (q + 1) x B (by omega) (by omega) (by rw [← he, lpU_step _ (show q < 25 by omega)]; refine congrArg _ ?_; simp only [row2]; rw [if_neg (by rw [aprB_f (by omega)]; decide)]) (by omega)
  refine V_weak (lv' := [some (.ref (a 0)), some (.int (nI k)), some (.int (nI f)), some (.int (nI (f + 1))), none]) (And.intro rfl (And.intro rfl (And.intro rfl (And.intro rfl trivial)))) ?_
  exact L_4 _ (f + 1) bs bt (by omega) (by omega) rfl (Nat.lt_succ_self _)
set_option maxHeartbeats 4000000 in
set_option maxRecDepth 100000 in
theorem c_X11_seekBest (l : Launch) (G : mvG) (a : Nat → Nat) (im : Nat → Nat → Nat) (kd : Nat → Nat) (re : Nat) (pa : Nat) (fa : Nat) (b : Nat → Nat) (c : Nat → Nat) (kk : Nat → Nat) (ts : Nat → Nat) (bt : Nat → Int) (sp : Nat → Int) (qu : Nat → Nat) (bs : Int) (tr : Int64) (wh : Nat → Nat) (de : Nat → Nat) (t : Nat → Int32) (sv : Nat) (vt : Nat) (ps : Nat) (k : Nat) (hde : ∀ j, de j ≤ 9) (hk : 1 ≤ k ∧ k ≤ 3) : KQ l yX11_seekBest cX11_seekBest 3 none (3, 69) G [.ref (a 0), .int (nI k)] [gMoot G a (fun j => im j 0) kd re (b 0) (c 0) pa fa (nF kk) (nF ts) (sF bt) (sF sp) (nF qu) (iI bs) tr, gMo G c (nF wh) (nF de) t (nI sv) (nI vt) (nI ps)] (fun (zz : Int × (Nat → Int)) => none) (fun (zz : Int × (Nat → Int)) => (zz.1, zz.2) = seek1 (trT de) k (-1, bt) ∧ -1 ≤ zz.1 ∧ zz.1 ≤ 108) (fun (zz : Int × (Nat → Int)) => [gMoot G a (fun j => im j 0) kd re (b 0) (c 0) pa fa (nF kk) (nF (trT de)) (sF zz.2) (sF sp) (nF qu) (iI zz.1) tr, gMo G c (nF wh) (nF de) t (nI sv) (nI vt) (nI ps)]) := by
  refine KQ.mk (by decide +kernel) (fun _ _ => rfl) [some (.ref (a 0)), some (.int (nI k)), none] (Nat.le_of_ble_eq_true rfl) rfl (fun C X Y hC => ?_)
  subst hC
  refine V_iconst X (nI 0) dX11_seekBest_0 (by decide) ?_
  refine V_istore_n X dX11_seekBest_1 (by decide) rfl ?_
  have L_2 : ∀ (fz_2 : Nat) (q : Nat) (g : Nat → Nat) (hq : q ≤ 25) (hg : ∀ j, g j = if j < q then trT de j else ts j), (25 - q) < fz_2 → V C 0 0 [gMoot G a (fun j => im j 0) kd re (b 0) (c 0) pa fa (nF kk) (nF g) (sF bt) (sF sp) (nF qu) (iI bs) tr, gMo G c (nF wh) (nF de) t (nI sv) (nI vt) (nI ps)] 2 [some (.ref (a 0)), some (.int (nI k)), some (.int (nI q))] [] := by
    intro fz_2
    induction fz_2 with
    | zero => intro q g hq hg hf_2; exact absurd hf_2 (Nat.not_lt_zero _)
    | succ fz_2 ih_2 =>
      intro q g hq hg hf_2
      refine V_iload_n X dX11_seekBest_2 rfl ?_
      refine V_aload_n X dX11_seekBest_3 rfl ?_
      refine V_get X fl_X11_58 0 0 rfl rfl rfl dX11_seekBest_4 ?_
      refine V_alen X (t0 := 0) 0 4 (nI 25) rfl rfl rfl rfl dX11_seekBest_7 ?_
      refine V_icmp_geN X 36 dX11_seekBest_8 (by decide) (by omega) (by decide) (fun c_1 => ?_) (fun c_1 => ?_)
      · refine V_arr (nF (trT de)) 0 4 rfl rfl (fun j hj => by simp only [nF, hg]; rw [if_pos (by omega)]) ?_
        show V C 0 0 [gMoot G a (fun j => im j 0) kd re (b 0) (c 0) pa fa (nF kk) (nF (trT de)) (sF bt) (sF sp) (nF qu) (iI bs) tr, gMo G c (nF wh) (nF de) t (nI sv) (nI vt) (nI ps)] 36 [some (.ref (a 0)), some (.int (nI k)), some (.int (nI q))] []
        refine V_aload_n X dX11_seekBest_36 rfl ?_
        refine V_iconst X (-1) dX11_seekBest_37 (by decide) ?_
        refine V_put X fl_X11_228 0 0 rfl rfl rfl rfl (Nat.le_of_ble_eq_true rfl) dX11_seekBest_38 ?_
        show V C 0 0 [gMoot G a (fun j => im j 0) kd re (b 0) (c 0) pa fa (nF kk) (nF (trT de)) (sF bt) (sF sp) (nF qu) (-1) tr, gMo G c (nF wh) (nF de) t (nI sv) (nI vt) (nI ps)] 41 [some (.ref (a 0)), some (.int (nI k)), some (.int (nI q))] []
        refine V_iconst X (nI 0) dX11_seekBest_41 (by decide) ?_
        refine V_istore_n X dX11_seekBest_42 (by decide) rfl ?_
        have L_43 : ∀ (fz_43 : Nat) (q2 : Nat) (x : Int) (B : Nat → Int) (hq2 : q2 ≤ 25) (hx : -1 ≤ x ∧ x ≤ 108) (he : lpU (row1 (trT de) k) (25 - q2) q2 (x, B) = seek1 (trT de) k (-1, bt)), (25 - q2) < fz_43 → V C 0 0 [gMoot G a (fun j => im j 0) kd re (b 0) (c 0) pa fa (nF kk) (nF (trT de)) (sF B) (sF sp) (nF qu) (iI x) tr, gMo G c (nF wh) (nF de) t (nI sv) (nI vt) (nI ps)] 43 [some (.ref (a 0)), some (.int (nI k)), some (.int (nI q2))] [] := by
          intro fz_43
          induction fz_43 with
          | zero => intro q2 x B hq2 hx he hf_43; exact absurd hf_43 (Nat.not_lt_zero _)
          | succ fz_43 ih_43 =>
            intro q2 x B hq2 hx he hf_43
            refine V_iload_n X dX11_seekBest_43 rfl ?_
            refine V_bipush X (nI 25) dX11_seekBest_44 (by decide) ?_
            refine V_icmp_geN X 78 dX11_seekBest_46 (by decide) (by omega) (by decide) (fun c_2 => ?_) (fun c_2 => ?_)
            · exact V_vret X Y ⟨x, B⟩ (show (x, B) = seek1 (trT de) k (-1, bt) ∧ -1 ≤ x ∧ x ≤ 108 from ⟨by rw [← he, show 25 - q2 = 0 by omega]; rfl, by omega, by omega⟩) rfl rfl dX11_seekBest_78
            · refine V_iload_n X dX11_seekBest_49 rfl ?_
              refine V_iconst X (nI 1) dX11_seekBest_50 (by decide) ?_
              refine V_icmp_neN X 66 dX11_seekBest_51 (by decide) (by omega) (by decide) (fun c_3 => ?_) (fun c_3 => ?_)
              · refine V_aload_n X dX11_seekBest_66 rfl ?_
                refine V_iload_n X dX11_seekBest_67 rfl ?_
                refine V_iload_n X dX11_seekBest_68 rfl ?_
                refine V_callV (rest := []) X (c_X11_seekBehind (Cl C) G a im kd re pa fa b c kk (trT de) B sp qu x tr k q2 (trT_le hde) (by first | assumption | omega) (by first | assumption | omega) (by first | assumption | omega)) mi_X11_seekBehind kw_3_72 kw_3_74 kw_s_20 dX11_seekBest_69 [0] rfl (by decide) 0 0 rfl rfl rfl rfl rfl rfl (by decide) (Nat.le_of_ble_eq_true rfl) ⟨rfl, rfl⟩ (fun u_ hu_6 => ?_)
                obtain ⟨x_4, B_5⟩ := u_
                have hu_6 : (x_4, B_5) = seek2 (trT de) k q2 (x, B) ∧ -1 ≤ x_4 ∧ x_4 ≤ 108 := hu_6
                show V C 0 0 [gMoot G a (fun j => im j 0) kd re (b 0) (c 0) pa fa (nF kk) (nF (trT de)) (sF B_5) (sF sp) (nF qu) (iI x_4) tr, gMo G c (nF wh) (nF de) t (nI sv) (nI vt) (nI ps)] 72 [some (.ref (a 0)), some (.int (nI k)), some (.int (nI q2))] []
                have hww := hu_6
                refine V_iincN X (c := 1) dX11_seekBest_72 rfl (by decide) rfl ?_
                refine V_goto X 43 dX11_seekBest_75 (by decide) ?_
                refine V_weak (lv' := [some (.ref (a 0)), some (.int (nI k)), some (.int (nI (q2 + 1)))]) (And.intro rfl (And.intro rfl (And.intro rfl trivial))) ?_
                exact ih_43 (q2 + 1) x_4 B_5 (by omega) (by omega) (by rw [← he, lpU_step _ (show q2 < 25 by omega)]; refine congrArg _ ?_; simp only [row1]; rw [if_neg (by omega)]; exact hww.1) (by omega)
              · refine V_aload_n X dX11_seekBest_54 rfl ?_
                refine V_iload_n X dX11_seekBest_55 rfl ?_
                refine V_bipush X (-9) dX11_seekBest_56 (by decide) ?_
                refine V_bipush X (-9) dX11_seekBest_58 (by decide) ?_
                refine V_callV (rest := []) X (c_X11_weigh (Cl C) G a im kd re pa fa b c kk (trT de) B sp qu x tr ((q2 : Nat) : Int) (-9) (-9) (trT_le hde) (by first | assumption | omega) (by first | assumption | omega) (by first | assumption | omega) (by first | assumption | omega)) mi_X11_weigh kw_3_64 kw_3_66 kw_s_18 dX11_seekBest_60 [0] rfl (by decide) 0 0 rfl rfl rfl rfl rfl rfl (by decide) (Nat.le_of_ble_eq_true rfl) ⟨rfl, rfl⟩ (fun u_ hu_9 => ?_)
                obtain ⟨x_7, B_8⟩ := u_
                have hu_9 : (x_7, B_8) = wst (trT de) (x, B) ((q2 : Nat) : Int) (-9) (-9) ∧ -1 ≤ x_7 ∧ x_7 ≤ 108 := hu_9
                show V C 0 0 [gMoot G a (fun j => im j 0) kd re (b 0) (c 0) pa fa (nF kk) (nF (trT de)) (sF B_8) (sF sp) (nF qu) (iI x_7) tr, gMo G c (nF wh) (nF de) t (nI sv) (nI vt) (nI ps)] 63 [some (.ref (a 0)), some (.int (nI k)), some (.int (nI q2))] []
                have hww := hu_9
                refine V_goto X 72 dX11_seekBest_63 (by decide) ?_
                refine V_iincN X (c := 1) dX11_seekBest_72 rfl (by decide) rfl ?_
                refine V_goto X 43 dX11_seekBest_75 (by decide) ?_
                refine V_weak (lv' := [some (.ref (a 0)), some (.int (nI k)), some (.int (nI (q2 + 1)))]) (And.intro rfl (And.intro rfl (And.intro rfl trivial))) ?_
                exact ih_43 (q2 + 1) x_7 B_8 (by omega) (by omega) (by rw [← he, lpU_step _ (show q2 < 25 by omega)]; refine congrArg _ ?_; simp only [row1]; rw [if_pos (by omega)]; exact hww.1) (by omega)
        refine V_weak (lv' := [some (.ref (a 0)), some (.int (nI k)), some (.int (nI 0))]) (And.intro rfl (And.intro rfl (And.intro rfl trivial))) ?_
        exact L_43 _ 0 (-1) bt (by omega) (by omega) rfl (Nat.lt_succ_self _)
      · refine V_aload_n X dX11_seekBest_11 rfl ?_
        refine V_get X fl_X11_58 0 0 rfl rfl rfl dX11_seekBest_12 ?_
        refine V_iload_n X dX11_seekBest_15 rfl ?_
        refine V_aload_n X dX11_seekBest_16 rfl ?_
        refine V_get X fl_X11_26 0 0 rfl rfl rfl dX11_seekBest_17 ?_
        refine V_iload_n X dX11_seekBest_20 rfl ?_
        refine V_iconst X (nI 5) dX11_seekBest_21 (by decide) ?_
        refine V_idivN X dX11_seekBest_22 (by omega) (by omega) (by omega) ?_
        refine V_iload_n X dX11_seekBest_23 rfl ?_
        refine V_iconst X (nI 5) dX11_seekBest_24 (by decide) ?_
        refine V_iremN X dX11_seekBest_25 (by omega) (by omega) (by omega) ?_
        refine V_callV (rest := [.int (nI q), .ref (a 4)]) X (c_X3_trayDeep (Cl C) G c wh de t sv vt ps (q / 5) (q % 5) (by first | assumption | omega) (by first | assumption | omega) (by first | assumption | omega)) mi_X3_trayDeep kw_3_19 kw_3_20 kw_3_21 dX11_seekBest_26 [1] rfl (by decide) 1 0 rfl rfl rfl rfl rfl rfl (by decide) (Nat.le_of_ble_eq_true rfl) ⟨rfl, rfl⟩ (fun _ _ => ?_)
        show V C 0 0 [gMoot G a (fun j => im j 0) kd re (b 0) (c 0) pa fa (nF kk) (nF g) (sF bt) (sF sp) (nF qu) (iI bs) tr, gMo G c (nF wh) (nF de) t (nI sv) (nI vt) (nI ps)] 29 [some (.ref (a 0)), some (.int (nI k)), some (.int (nI q))] [.int (nI (tray de (6 * (q / 5) + (q % 5)))), .int (nI q), .ref (a 4)]
        refine V_iastN X 0 4 rfl rfl (by omega) (by decide) dX11_seekBest_29 ?_
        show V C 0 0 [gMoot G a (fun j => im j 0) kd re (b 0) (c 0) pa fa (nF kk) (nF (va_up g q (tray de (6 * (q / 5) + (q % 5))))) (sF bt) (sF sp) (nF qu) (iI bs) tr, gMo G c (nF wh) (nF de) t (nI sv) (nI vt) (nI ps)] 30 [some (.ref (a 0)), some (.int (nI k)), some (.int (nI q))] []
        refine V_iincN X (c := 1) dX11_seekBest_30 rfl (by decide) rfl ?_
        refine V_goto X 2 dX11_seekBest_33 (by decide) ?_
        refine V_weak (lv' := [some (.ref (a 0)), some (.int (nI k)), some (.int (nI (q + 1)))]) (And.intro rfl (And.intro rfl (And.intro rfl trivial))) ?_
        exact ih_2 (q + 1) (va_up g q (tray de (6 * (q / 5) + (q % 5)))) (by omega) (fun j => by simp only [va_up]; rcases Nat.lt_trichotomy j q with z | z | z; rw [if_neg (by omega), hg, if_pos z, if_pos (by omega)]; rw [if_pos z, if_pos (by omega), z]; rfl; rw [if_neg (by omega), hg, if_neg (by omega), if_neg (by omega)]) (by omega)
  refine V_weak (lv' := [some (.ref (a 0)), some (.int (nI k)), some (.int (nI 0))]) (And.intro rfl (And.intro rfl (And.intro rfl trivial))) ?_
  exact L_2 _ 0 ts (by omega) (fun j => by rw [if_neg (by omega)]) (Nat.lt_succ_self _)
set_option maxHeartbeats 4000000 in
set_option maxRecDepth 100000 in
theorem c_X11_isOpen (l : Launch) (G : mvG) (a : Nat → Nat) (im : Nat → Nat → Nat) (kd : Nat → Nat) (re : Nat) (pa : Nat) (fa : Nat) (b : Nat → Nat) (c : Nat → Nat) (kk : Nat → Nat) (ts : Nat → Nat) (bt : Nat → Int) (sp : Nat → Int) (qu : Nat → Nat) (bs : Int) (tr : Int64) (wh : Nat → Nat) (de : Nat → Nat) (t : Nat → Int32) (sv : Nat) (vt : Nat) (ps : Nat) (z : Int) (hde : ∀ j, de j ≤ 9) (hsp : ∀ j, -9 ≤ sp j ∧ sp j ≤ 100) (hz : -2147483648 ≤ z ∧ z < 2147483648) : KQ l yX11_isOpen cX11_isOpen 2 (some .boolean) (1, 21) G [.ref (a 0), .int (iI z)] [gMoot G a (fun j => im j 0) kd re (b 0) (c 0) pa fa (nF kk) (nF ts) (sF bt) (sF sp) (nF qu) (iI bs) tr, gMo G c (nF wh) (nF de) t (nI sv) (nI vt) (nI ps)] (fun (zz : Nat) => some (.int (nI zz))) (fun (zz : Nat) => (zz = 1 ∧ 0 ≤ z ∧ z < 36 ∧ sp z.toNat = -9 ∧ de z.toNat = 0) ∨ (zz = 0 ∧ (z < 0 ∨ 36 ≤ z ∨ ¬ sp z.toNat = -9 ∨ ¬ de z.toNat = 0))) (fun (zz : Nat) => [gMoot G a (fun j => im j 0) kd re (b 0) (c 0) pa fa (nF kk) (nF ts) (sF bt) (sF sp) (nF qu) (iI bs) tr, gMo G c (nF wh) (nF de) t (nI sv) (nI vt) (nI ps)]) := by
  refine KQ.mk (by decide +kernel) (fun _ _ => rfl) [some (.ref (a 0)), some (.int (iI z))] (Nat.le_of_ble_eq_true rfl) rfl (fun C X Y hC => ?_)
  subst hC
  refine V_iload_n X dX11_isOpen_0 rfl ?_
  refine V_if_ltI (i := z) X 39 dX11_isOpen_1 (by decide) (iI_toInt (by omega) (by omega)) (fun c_1 => ?_) (fun c_1 => ?_)
  · refine V_iconst X (nI 0) dX11_isOpen_39 (by decide) ?_
    exact V_iret X Y 0 (by omega) rfl rfl rfl dX11_isOpen_40
  · refine V_iload_n X dX11_isOpen_4 rfl ?_
    refine V_aload_n X dX11_isOpen_5 rfl ?_
    refine V_get X fl_X11_65 0 0 rfl rfl rfl dX11_isOpen_6 ?_
    refine V_alen X (t0 := 0) 0 6 (nI 36) rfl rfl rfl rfl dX11_isOpen_9 ?_
    refine V_icmp_geI (i := z) (j := 36) X 39 dX11_isOpen_10 (by decide) (iI_toInt (by omega) (by omega)) (nI_toInt (by decide)) (fun c_2 => ?_) (fun c_2 => ?_)
    · refine V_iconst X (nI 0) dX11_isOpen_39 (by decide) ?_
      exact V_iret X Y 0 (by omega) rfl rfl rfl dX11_isOpen_40
    · refine V_loc (y := (nI z.toNat)) 1 rfl (mv_sn (by omega)) ?_
      have hsz := hsp z.toNat
      have hdz := hde z.toNat
      refine V_aload_n X dX11_isOpen_13 rfl ?_
      refine V_get X fl_X11_65 0 0 rfl rfl rfl dX11_isOpen_14 ?_
      refine V_iload_n X dX11_isOpen_17 rfl ?_
      refine V_ialdS X 0 6 rfl rfl (by omega) (by decide) dX11_isOpen_18 ?_
      refine V_bipush X (-9) dX11_isOpen_19 (by decide) ?_
      refine V_icmp_neI (i := sp z.toNat) (j := -9) X 39 dX11_isOpen_21 (by decide) (iI_toInt (by omega) (by omega)) (by rfl) (fun c_3 => ?_) (fun c_3 => ?_)
      · refine V_iconst X (nI 0) dX11_isOpen_39 (by decide) ?_
        exact V_iret X Y 0 (by omega) rfl rfl rfl dX11_isOpen_40
      · refine V_aload_n X dX11_isOpen_24 rfl ?_
        refine V_get X fl_X11_26 0 0 rfl rfl rfl dX11_isOpen_25 ?_
        refine V_iload_n X dX11_isOpen_28 rfl ?_
        refine V_callV (rest := []) X (c_X3_deepAt (Cl C) G c wh de t sv vt ps z.toNat (by first | assumption | omega)) mi_X3_deepAt kw_2_145 kw_2_146 kw_2_147 dX11_isOpen_29 [1] rfl (by decide) 1 0 rfl rfl rfl rfl rfl rfl (by decide) (Nat.le_of_ble_eq_true rfl) ⟨rfl, rfl⟩ (fun _ _ => ?_)
        show V C 0 0 [gMoot G a (fun j => im j 0) kd re (b 0) (c 0) pa fa (nF kk) (nF ts) (sF bt) (sF sp) (nF qu) (iI bs) tr, gMo G c (nF wh) (nF de) t (nI sv) (nI vt) (nI ps)] 32 [some (.ref (a 0)), some (.int (nI z.toNat))] [.int (nI (de z.toNat))]
        refine V_if_neN X 39 dX11_isOpen_32 (by decide) (by omega) (fun c_4 => ?_) (fun c_4 => ?_)
        · refine V_iconst X (nI 0) dX11_isOpen_39 (by decide) ?_
          exact V_iret X Y 0 (by omega) rfl rfl rfl dX11_isOpen_40
        · refine V_iconst X (nI 1) dX11_isOpen_35 (by decide) ?_
          refine V_goto X 40 dX11_isOpen_36 (by decide) ?_
          exact V_iret X Y 1 (by omega) rfl rfl rfl dX11_isOpen_40
set_option maxHeartbeats 4000000 in
set_option maxRecDepth 100000 in
theorem c_X11_stepsAt (l : Launch) (G : mvG) (a : Nat → Nat) (im : Nat → Nat → Nat) (kd : Nat → Nat) (re : Nat) (pa : Nat) (fa : Nat) (b : Nat → Nat) (c : Nat → Nat) (kk : Nat → Nat) (ts : Nat → Nat) (bt : Nat → Int) (sp : Nat → Int) (qu : Nat → Nat) (bs : Int) (tr : Int64) (c1 : Nat) (hc1 : c1 < 36) : KQ l yX11_stepsAt cX11_stepsAt 2 (some .int) (0, 0) G [.ref (a 0), .int (nI c1)] [gMoot G a (fun j => im j 0) kd re (b 0) (c 0) pa fa (nF kk) (nF ts) (sF bt) (sF sp) (nF qu) (iI bs) tr] (fun (_ : Unit) => some (.int (iI (sp c1)))) (fun (_ : Unit) => True) (fun (_ : Unit) => [gMoot G a (fun j => im j 0) kd re (b 0) (c 0) pa fa (nF kk) (nF ts) (sF bt) (sF sp) (nF qu) (iI bs) tr]) := by
  refine KQ.mk (by decide +kernel) (fun _ _ => rfl) [some (.ref (a 0)), some (.int (nI c1))] (Nat.le_of_ble_eq_true rfl) rfl (fun C X Y hC => ?_)
  subst hC
  refine V_iload_n X dX11_stepsAt_0 rfl ?_
  refine V_if_ltN X dX11_stepsAt_1 22 (by decide) (by omega) ?_
  refine V_iload_n X dX11_stepsAt_4 rfl ?_
  refine V_aload_n X dX11_stepsAt_5 rfl ?_
  refine V_get X fl_X11_65 0 0 rfl rfl rfl dX11_stepsAt_6 ?_
  refine V_alen X (t0 := 0) 0 6 (nI 36) rfl rfl rfl rfl dX11_stepsAt_9 ?_
  refine V_icmp_geN X 22 dX11_stepsAt_10 (by decide) (by omega) (by decide) (fun c_2 => ?_) (fun c_2 => ?_)
  · exfalso; omega
  · refine V_aload_n X dX11_stepsAt_13 rfl ?_
    refine V_get X fl_X11_65 0 0 rfl rfl rfl dX11_stepsAt_14 ?_
    refine V_iload_n X dX11_stepsAt_17 rfl ?_
    refine V_ialdS X 0 6 rfl rfl (by omega) (by decide) dX11_stepsAt_18 ?_
    refine V_goto X 24 dX11_stepsAt_19 (by decide) ?_
    exact V_iret X Y () trivial rfl rfl rfl dX11_stepsAt_24
set_option maxHeartbeats 4000000 in
set_option maxRecDepth 100000 in
theorem c_X11_measureSteps (l : Launch) (G : mvG) (a : Nat → Nat) (im : Nat → Nat → Nat) (kd : Nat → Nat) (re : Nat) (pa : Nat) (fa : Nat) (b : Nat → Nat) (c : Nat → Nat) (kk : Nat → Nat) (ts : Nat → Nat) (bt : Nat → Int) (sp : Nat → Int) (qu : Nat → Nat) (bs : Int) (tr : Int64) (wh : Nat → Nat) (de : Nat → Nat) (t : Nat → Int32) (sv : Nat) (vt : Nat) (ps : Nat) (fr : Nat) (hde : ∀ j, de j ≤ 9) (hfr : fr < 36) : KQ l yX11_measureSteps cX11_measureSteps 7 none (3, 64) G [.ref (a 0), .int (nI fr)] [gMoot G a (fun j => im j 0) kd re (b 0) (c 0) pa fa (nF kk) (nF ts) (sF bt) (sF sp) (nF qu) (iI bs) tr, gMo G c (nF wh) (nF de) t (nI sv) (nI vt) (nI ps)] (fun (zz : (Nat → Int) × (Nat → Nat)) => none) (fun (zz : (Nat → Int) × (Nat → Nat)) => isD de fr zz.1 ∧ ∀ j, -9 ≤ zz.1 j ∧ zz.1 j ≤ 100) (fun (zz : (Nat → Int) × (Nat → Nat)) => [gMoot G a (fun j => im j 0) kd re (b 0) (c 0) pa fa (nF kk) (nF ts) (sF bt) (sF zz.1) (nF zz.2) (iI bs) tr, gMo G c (nF wh) (nF de) t (nI sv) (nI vt) (nI ps)]) := by
  refine KQ.mk (by decide +kernel) (fun _ _ => rfl) [some (.ref (a 0)), some (.int (nI fr)), none, none, none, none, none] (Nat.le_of_ble_eq_true rfl) rfl (fun C X Y hC => ?_)
  subst hC
  refine V_aload_n X dX11_measureSteps_0 rfl ?_
  refine V_get X fl_X11_65 0 0 rfl rfl rfl dX11_measureSteps_1 ?_
  refine V_bipush X (-9) dX11_measureSteps_4 (by decide) ?_
  refine V_fillI X kw_3_90 kw_1_67 dX11_measureSteps_6 0 6 rfl rfl (by decide) (by decide) (Nat.le_of_ble_eq_true rfl) (by decide) ?_
  show V C 0 0 [gMoot G a (fun j => im j 0) kd re (b 0) (c 0) pa fa (nF kk) (nF ts) (sF bt) (fun _ => (-9)) (nF qu) (iI bs) tr, gMo G c (nF wh) (nF de) t (nI sv) (nI vt) (nI ps)] 9 [some (.ref (a 0)), some (.int (nI fr)), none, none, none, none, none] []
  refine V_arr (sF (fun _ => -9)) 0 6 rfl rfl (fun _ _ => rfl) ?_
  show V C 0 0 [gMoot G a (fun j => im j 0) kd re (b 0) (c 0) pa fa (nF kk) (nF ts) (sF bt) (sF (fun _ => -9)) (nF qu) (iI bs) tr, gMo G c (nF wh) (nF de) t (nI sv) (nI vt) (nI ps)] 9 [some (.ref (a 0)), some (.int (nI fr)), none, none, none, none, none] []
  refine V_iload_n X dX11_measureSteps_9 rfl ?_
  refine V_if_ltN X dX11_measureSteps_10 22 (by decide) (by omega) ?_
  refine V_iload_n X dX11_measureSteps_13 rfl ?_
  refine V_aload_n X dX11_measureSteps_14 rfl ?_
  refine V_get X fl_X11_65 0 0 rfl rfl rfl dX11_measureSteps_15 ?_
  refine V_alen X (t0 := 0) 0 6 (nI 36) rfl rfl rfl rfl dX11_measureSteps_18 ?_
  refine V_icmp_ltN X 23 dX11_measureSteps_19 (by decide) (by omega) (by decide) (fun c_2 => ?_) (fun c_2 => ?_)
  · refine V_aload_n X dX11_measureSteps_23 rfl ?_
    refine V_get X fl_X11_65 0 0 rfl rfl rfl dX11_measureSteps_24 ?_
    refine V_iload_n X dX11_measureSteps_27 rfl ?_
    refine V_iconst X (nI 0) dX11_measureSteps_28 (by decide) ?_
    refine V_iastS X (v := 0) 0 6 rfl rfl (by omega) (by decide) dX11_measureSteps_29 ?_
    show V C 0 0 [gMoot G a (fun j => im j 0) kd re (b 0) (c 0) pa fa (nF kk) (nF ts) (sF bt) (sF (va_up (fun _ => -9) fr (0 : Int))) (nF qu) (iI bs) tr, gMo G c (nF wh) (nF de) t (nI sv) (nI vt) (nI ps)] 30 [some (.ref (a 0)), some (.int (nI fr)), none, none, none, none, none] []
    refine V_aload_n X dX11_measureSteps_30 rfl ?_
    refine V_get X fl_X11_68 0 0 rfl rfl rfl dX11_measureSteps_31 ?_
    refine V_iconst X (nI 0) dX11_measureSteps_34 (by decide) ?_
    refine V_iload_n X dX11_measureSteps_35 rfl ?_
    refine V_iastN X 0 7 rfl rfl (by decide) (by decide) dX11_measureSteps_36 ?_
    show V C 0 0 [gMoot G a (fun j => im j 0) kd re (b 0) (c 0) pa fa (nF kk) (nF ts) (sF bt) (sF (va_up (fun _ => -9) fr (0 : Int))) (nF (va_up qu 0 fr)) (iI bs) tr, gMo G c (nF wh) (nF de) t (nI sv) (nI vt) (nI ps)] 37 [some (.ref (a 0)), some (.int (nI fr)), none, none, none, none, none] []
    refine V_iconst X (nI 1) dX11_measureSteps_37 (by decide) ?_
    refine V_istore_n X dX11_measureSteps_38 (by decide) rfl ?_
    refine V_iconst X (nI 0) dX11_measureSteps_39 (by decide) ?_
    refine V_istore_n X dX11_measureSteps_40 (by decide) rfl ?_
    have L_41 : ∀ (fz_41 : Nat) (wt : Nat) (i1 : Nat) (S : Nat → Int) (Q : Nat → Nat) (hB : BI de fr S Q i1 wt), (37 - i1) < fz_41 → V C 0 0 [gMoot G a (fun j => im j 0) kd re (b 0) (c 0) pa fa (nF kk) (nF ts) (sF bt) (sF S) (nF Q) (iI bs) tr, gMo G c (nF wh) (nF de) t (nI sv) (nI vt) (nI ps)] 41 [some (.ref (a 0)), some (.int (nI fr)), some (.int (nI wt)), some (.int (nI i1)), none, none, none] [] := by
      intro fz_41
      induction fz_41 with
      | zero => intro wt i1 S Q hB hf_41; exact absurd hf_41 (Nat.not_lt_zero _)
      | succ fz_41 ih_41 =>
        intro wt i1 S Q hB hf_41
        have hb0 := hB.1
        refine V_iload_n X dX11_measureSteps_41 rfl ?_
        refine V_iload_n X dX11_measureSteps_42 rfl ?_
        refine V_icmp_geN X 137 dX11_measureSteps_43 (by decide) (by omega) (by omega) (fun c_3 => ?_) (fun c_3 => ?_)
        · exact V_vret X Y ⟨S, Q⟩ (show isD de fr S ∧ ∀ j, -9 ≤ S j ∧ S j ≤ 100 from ⟨BI_end hB (by omega), fun j => by have h1 := hB.2.2.2.2.2.2.1 j; have h2 := hB.1; omega⟩) rfl rfl dX11_measureSteps_137
        · have hb1 := hB.1
          have hbQ := hB.2.2.1 i1 (by omega)
          refine V_iload_n X dX11_measureSteps_46 rfl ?_
          refine V_aload_n X dX11_measureSteps_47 rfl ?_
          refine V_get X fl_X11_68 0 0 rfl rfl rfl dX11_measureSteps_48 ?_
          refine V_alen X (t0 := 0) 0 7 (nI 36) rfl rfl rfl rfl dX11_measureSteps_51 ?_
          refine V_icmp_geN X 137 dX11_measureSteps_52 (by decide) (by omega) (by decide) (fun c_4 => ?_) (fun c_4 => ?_)
          · exfalso; omega
          · refine V_aload_n X dX11_measureSteps_55 rfl ?_
            refine V_get X fl_X11_68 0 0 rfl rfl rfl dX11_measureSteps_56 ?_
            refine V_iload_n X dX11_measureSteps_59 rfl ?_
            refine V_ialdN X 0 7 rfl rfl (by omega) (by decide) dX11_measureSteps_60 ?_
            refine V_istore X dX11_measureSteps_61 (by decide) rfl ?_
            refine V_iconst X (nI 0) dX11_measureSteps_63 (by decide) ?_
            refine V_istore X dX11_measureSteps_64 (by decide) rfl ?_
            have L_66 : ∀ (fz_66 : Nat) (wt2 : Nat) (sd : Nat) (S2 : Nat → Int) (Q2 : Nat → Nat) (hw2 : wt2 ≤ 36 ∧ i1 < wt2) (hsd : sd ≤ 4) (hQi : Q2 i1 = Q i1) (hB2 : BI de fr S2 Q2 i1 wt2) (hE : ∀ sd1, sd1 < sd → ndone de S2 (Q i1) sd1), (4 - sd) < fz_66 → V C 0 0 [gMoot G a (fun j => im j 0) kd re (b 0) (c 0) pa fa (nF kk) (nF ts) (sF bt) (sF S2) (nF Q2) (iI bs) tr, gMo G c (nF wh) (nF de) t (nI sv) (nI vt) (nI ps)] 66 [some (.ref (a 0)), some (.int (nI fr)), some (.int (nI wt2)), some (.int (nI i1)), some (.int (nI (Q i1))), some (.int (nI sd)), none] [] := by
              intro fz_66
              induction fz_66 with
              | zero => intro wt2 sd S2 Q2 hw2 hsd hQi hB2 hE hf_66; exact absurd hf_66 (Nat.not_lt_zero _)
              | succ fz_66 ih_66 =>
                intro wt2 sd S2 Q2 hw2 hsd hQi hB2 hE hf_66
                refine V_iload X dX11_measureSteps_66 rfl ?_
                refine V_iconst X (nI 4) dX11_measureSteps_68 (by decide) ?_
                refine V_icmp_geN X 131 dX11_measureSteps_69 (by decide) (by omega) (by decide) (fun c_5 => ?_) (fun c_5 => ?_)
                · refine V_iincN X (c := 1) dX11_measureSteps_131 rfl (by decide) rfl ?_
                  refine V_goto X 41 dX11_measureSteps_134 (by decide) ?_
                  refine V_weak (lv' := [some (.ref (a 0)), some (.int (nI fr)), some (.int (nI wt2)), some (.int (nI (i1 + 1))), none, none, none]) (And.intro rfl (And.intro rfl (And.intro rfl (And.intro rfl trivial)))) ?_
                  exact ih_41 wt2 (i1 + 1) S2 Q2 (BI_next hB2 (by omega) (fun sd1 h1 => by rw [hQi]; exact hE sd1 (by omega))) (by have := hB2.1; omega)
                · refine V_iload X dX11_measureSteps_72 rfl ?_
                  refine V_iload X dX11_measureSteps_74 rfl ?_
                  have hbQ := hB2.2.2.1 i1 (by omega)
                  rw [hQi] at hbQ
                  have hnb : -9 ≤ nb (Q i1) sd ∧ nb (Q i1) sd < 36 := by have h1 := hbQ.1; simp only [nb]; (repeat' split) <;> omega
                  refine V_callS (rest := []) X (c_X11_placeBeside (Cl C) G (Q i1) sd (by first | assumption | omega) (by first | assumption | omega)) mi_X11_placeBeside kw_2_221 kw_2_222 dX11_measureSteps_76 [] rfl (by decide) rfl rfl (by decide) (Nat.le_of_ble_eq_true rfl) ⟨rfl, rfl⟩ (fun _ _ => ?_)
                  show V C 0 0 [gMoot G a (fun j => im j 0) kd re (b 0) (c 0) pa fa (nF kk) (nF ts) (sF bt) (sF S2) (nF Q2) (iI bs) tr, gMo G c (nF wh) (nF de) t (nI sv) (nI vt) (nI ps)] 79 [some (.ref (a 0)), some (.int (nI fr)), some (.int (nI wt2)), some (.int (nI i1)), some (.int (nI (Q i1))), some (.int (nI sd)), none] [.int (iI (nb (Q i1) sd))]
                  refine V_istore X dX11_measureSteps_79 (by decide) rfl ?_
                  refine V_aload_n X dX11_measureSteps_81 rfl ?_
                  refine V_iload X dX11_measureSteps_82 rfl ?_
                  refine V_callV (rest := []) X (c_X11_isOpen (Cl C) G a im kd re pa fa b c kk ts bt S2 Q2 bs tr wh de t sv vt ps (nb (Q i1) sd) (by first | assumption | omega) (fun j => by have h1 := hB2.2.2.2.2.2.2.1 j; have h2 := hB2.1; omega) (by first | assumption | omega)) mi_X11_isOpen kw_3_91 kw_3_93 kw_s_22 dX11_measureSteps_84 [0, 1] rfl (by decide) 0 0 rfl rfl rfl rfl rfl rfl (by decide) (Nat.le_of_ble_eq_true rfl) ⟨rfl, rfl⟩ (fun u_ hu_7 => ?_)
                  obtain ⟨b_6, rfl⟩ : ∃ z, z = u_ := ⟨_, rfl⟩
                  have hu_7 : (b_6 = 1 ∧ 0 ≤ (nb (Q i1) sd) ∧ (nb (Q i1) sd) < 36 ∧ S2 (nb (Q i1) sd).toNat = -9 ∧ de (nb (Q i1) sd).toNat = 0) ∨ (b_6 = 0 ∧ ((nb (Q i1) sd) < 0 ∨ 36 ≤ (nb (Q i1) sd) ∨ ¬ S2 (nb (Q i1) sd).toNat = -9 ∨ ¬ de (nb (Q i1) sd).toNat = 0)) := hu_7
                  show V C 0 0 [gMoot G a (fun j => im j 0) kd re (b 0) (c 0) pa fa (nF kk) (nF ts) (sF bt) (sF S2) (nF Q2) (iI bs) tr, gMo G c (nF wh) (nF de) t (nI sv) (nI vt) (nI ps)] 87 [some (.ref (a 0)), some (.int (nI fr)), some (.int (nI wt2)), some (.int (nI i1)), some (.int (nI (Q i1))), some (.int (nI sd)), some (.int (iI (nb (Q i1) sd)))] [.int (nI b_6)]
                  have hop := hu_7
                  refine V_if_eqN X 125 dX11_measureSteps_87 (by decide) (by omega) (fun c_8 => ?_) (fun c_8 => ?_)
                  · have hN : ndone de S2 (Q i1) sd := fun c1 h1 h2 h3 => by rcases hop with h | h; exact absurd h.1 (by omega); have hbs := BI_shut hB2 (by omega) h1 (by have e : (nb (Q i1) sd).toNat = c1 := (by omega); rw [e] at h; omega); rw [hQi] at hbs; exact hbs
                    refine V_iincN X (c := 1) dX11_measureSteps_125 rfl (by decide) rfl ?_
                    refine V_goto X 66 dX11_measureSteps_128 (by decide) ?_
                    refine V_weak (lv' := [some (.ref (a 0)), some (.int (nI fr)), some (.int (nI wt2)), some (.int (nI i1)), some (.int (nI (Q i1))), some (.int (nI (sd + 1))), none]) (And.intro rfl (And.intro rfl (And.intro rfl (And.intro rfl (And.intro rfl (And.intro rfl trivial)))))) ?_
                    exact ih_66 wt2 (sd + 1) S2 Q2 (by omega) (by omega) (by first | exact hQi | exact (show va_up Q2 wt2 _ i1 = Q i1 by simp only [va_up]; rw [if_neg (by omega)]; exact hQi)) (by first | exact hB2 | exact hV.1) (fun sd1 h1 => by rcases Nat.lt_or_ge sd1 sd with z | z; (first | exact hE sd1 z | exact hV.2.1 sd1 (hE sd1 z)); (rw [show sd1 = sd by omega]; first | exact hV.2.2 | exact hN)) (by omega)
                  · have hzc : nb (Q i1) sd = (((nb (Q i1) sd).toNat : Nat) : Int) := by omega
                    have hwr := BI_room hB2 (c := (nb (Q i1) sd).toNat) (by omega) (by rcases hop with h | h; exact h.2.2.2.1; exact absurd h.1 (by assumption))
                    have hV := BI_visit hB2 (by omega) hwr (c := (nb (Q i1) sd).toNat) (sd := sd) (by omega) (by rcases hop with h | h; exact h.2.2.2.1; exact absurd h.1 (by assumption)) (by rcases hop with h | h; exact h.2.2.2.2; exact absurd h.1 (by assumption)) (by omega) (by rw [hQi]; exact hzc)
                    have hQn : va_up Q2 wt2 (nb (Q i1) sd).toNat i1 = Q i1 := by simp only [va_up]; rw [if_neg (by omega)]; exact hQi
                    rw [hQn, hQi] at hV
                    refine V_loc (y := (nI ((nb (Q i1) sd).toNat))) 6 rfl (mv_sn (by omega)) ?_
                    refine V_iload_n X dX11_measureSteps_90 rfl ?_
                    refine V_aload_n X dX11_measureSteps_91 rfl ?_
                    refine V_get X fl_X11_68 0 0 rfl rfl rfl dX11_measureSteps_92 ?_
                    refine V_alen X (t0 := 0) 0 7 (nI 36) rfl rfl rfl rfl dX11_measureSteps_95 ?_
                    refine V_icmp_geN X 125 dX11_measureSteps_96 (by decide) (by omega) (by decide) (fun c_9 => ?_) (fun c_9 => ?_)
                    · exfalso; omega
                    · refine V_aload_n X dX11_measureSteps_99 rfl ?_
                      refine V_get X fl_X11_65 0 0 rfl rfl rfl dX11_measureSteps_100 ?_
                      refine V_iload X dX11_measureSteps_103 rfl ?_
                      refine V_aload_n X dX11_measureSteps_105 rfl ?_
                      refine V_iload X dX11_measureSteps_106 rfl ?_
                      refine V_callV (rest := [.int (nI ((nb (Q i1) sd).toNat)), .ref (a 6)]) X (c_X11_stepsAt (Cl C) G a im kd re pa fa b c kk ts bt S2 Q2 bs tr (Q i1) (by first | assumption | omega)) mi_X11_stepsAt kw_3_95 kw_3_97 kw_s_23 dX11_measureSteps_108 [0] rfl (by decide) 0 0 rfl rfl rfl rfl rfl rfl (by decide) (Nat.le_of_ble_eq_true rfl) ⟨rfl, rfl⟩ (fun _ _ => ?_)
                      show V C 0 0 [gMoot G a (fun j => im j 0) kd re (b 0) (c 0) pa fa (nF kk) (nF ts) (sF bt) (sF S2) (nF Q2) (iI bs) tr, gMo G c (nF wh) (nF de) t (nI sv) (nI vt) (nI ps)] 111 [some (.ref (a 0)), some (.int (nI fr)), some (.int (nI wt2)), some (.int (nI i1)), some (.int (nI (Q i1))), some (.int (nI sd)), some (.int (nI ((nb (Q i1) sd).toNat)))] [.int (iI (S2 (Q i1))), .int (nI ((nb (Q i1) sd).toNat)), .ref (a 6)]
                      refine V_iconst X (nI 1) dX11_measureSteps_111 (by decide) ?_
                      refine V_two (show (iI (S2 (Q i1))) = iI (S2 (Q i1) : Int) from rfl) (show (nI 1) = iI (1 : Int) from rfl) ?_
                      refine V_iaddS X dX11_measureSteps_112 ?_
                      refine V_iastS X (v := (S2 (Q i1) : Int) + (1 : Int)) 0 6 rfl rfl (by omega) (by decide) dX11_measureSteps_113 ?_
                      show V C 0 0 [gMoot G a (fun j => im j 0) kd re (b 0) (c 0) pa fa (nF kk) (nF ts) (sF bt) (sF (va_up S2 ((nb (Q i1) sd).toNat) ((S2 (Q i1) : Int) + (1 : Int) : Int))) (nF Q2) (iI bs) tr, gMo G c (nF wh) (nF de) t (nI sv) (nI vt) (nI ps)] 114 [some (.ref (a 0)), some (.int (nI fr)), some (.int (nI wt2)), some (.int (nI i1)), some (.int (nI (Q i1))), some (.int (nI sd)), some (.int (nI ((nb (Q i1) sd).toNat)))] []
                      refine V_aload_n X dX11_measureSteps_114 rfl ?_
                      refine V_get X fl_X11_68 0 0 rfl rfl rfl dX11_measureSteps_115 ?_
                      refine V_iload_n X dX11_measureSteps_118 rfl ?_
                      refine V_iload X dX11_measureSteps_119 rfl ?_
                      refine V_iastN X 0 7 rfl rfl (by omega) (by decide) dX11_measureSteps_121 ?_
                      show V C 0 0 [gMoot G a (fun j => im j 0) kd re (b 0) (c 0) pa fa (nF kk) (nF ts) (sF bt) (sF (va_up S2 ((nb (Q i1) sd).toNat) ((S2 (Q i1) : Int) + (1 : Int) : Int))) (nF (va_up Q2 wt2 ((nb (Q i1) sd).toNat))) (iI bs) tr, gMo G c (nF wh) (nF de) t (nI sv) (nI vt) (nI ps)] 122 [some (.ref (a 0)), some (.int (nI fr)), some (.int (nI wt2)), some (.int (nI i1)), some (.int (nI (Q i1))), some (.int (nI sd)), some (.int (nI ((nb (Q i1) sd).toNat)))] []
                      refine V_iincN X (c := 1) dX11_measureSteps_122 rfl (by decide) rfl ?_
                      skip
                      refine V_iincN X (c := 1) dX11_measureSteps_125 rfl (by decide) rfl ?_
                      refine V_goto X 66 dX11_measureSteps_128 (by decide) ?_
                      refine V_weak (lv' := [some (.ref (a 0)), some (.int (nI fr)), some (.int (nI (wt2 + 1))), some (.int (nI i1)), some (.int (nI (Q i1))), some (.int (nI (sd + 1))), none]) (And.intro rfl (And.intro rfl (And.intro rfl (And.intro rfl (And.intro rfl (And.intro rfl trivial)))))) ?_
                      exact ih_66 (wt2 + 1) (sd + 1) (va_up S2 ((nb (Q i1) sd).toNat) ((S2 (Q i1) : Int) + (1 : Int) : Int)) (va_up Q2 wt2 ((nb (Q i1) sd).toNat)) (by omega) (by omega) (by first | exact hQi | exact (show va_up Q2 wt2 _ i1 = Q i1 by simp only [va_up]; rw [if_neg (by omega)]; exact hQi)) (by first | exact hB2 | exact hV.1) (fun sd1 h1 => by rcases Nat.lt_or_ge sd1 sd with z | z; (first | exact hE sd1 z | exact hV.2.1 sd1 (hE sd1 z)); (rw [show sd1 = sd by omega]; first | exact hV.2.2 | exact hN)) (by omega)
            refine V_weak (lv' := [some (.ref (a 0)), some (.int (nI fr)), some (.int (nI wt)), some (.int (nI i1)), some (.int (nI (Q i1))), some (.int (nI 0)), none]) (And.intro rfl (And.intro rfl (And.intro rfl (And.intro rfl (And.intro rfl (And.intro rfl trivial)))))) ?_
            exact L_66 _ wt 0 S Q (by omega) (by omega) rfl hB (fun sd1 h1 => absurd h1 (by omega)) (Nat.lt_succ_self _)
    refine V_weak (lv' := [some (.ref (a 0)), some (.int (nI fr)), some (.int (nI 1)), some (.int (nI 0)), none, none, none]) (And.intro rfl (And.intro rfl (And.intro rfl (And.intro rfl trivial)))) ?_
    exact L_41 _ 1 0 (va_up (fun _ => -9) fr (0 : Int)) (va_up qu 0 fr) (BI_init hfr) (Nat.lt_succ_self _)
  · exfalso; omega
