def spRate (w v : Nat → Nat) (n : Nat) (wh de : Nat → Nat) (vt : Nat) (k p : Int) : Int := if 0 ≤ k ∧ k < 6 ∧ 0 ≤ p ∧ p < (n : Int) then (if k = 0 then (w p.toNat : Int) else if k = 1 then (w p.toNat : Int) + v p.toNat else if k = 2 then (w p.toNat : Int) - de (wh p.toNat) else if k = 3 then 2 * ((w p.toNat : Int) + v p.toNat) else if k = 4 then (w p.toNat : Int) - de (wh p.toNat) + p else (w p.toNat : Int) + vt) else -1000000
def spTr (n : Nat) (k p : Int) : Nat := if 0 ≤ k ∧ k < 6 ∧ 0 ≤ p ∧ p < (n : Int) then (if k = 0 then 1 else if k = 1 then 11 else if k = 2 then 101 else if k = 3 then 1011 else if k = 4 then 10101 else 100001) else 0
abbrev HI : Type := MoT × (Nat → MoT) × Nat × Nat
def hpush (h : HI) (M : MoT) : HI := (M, va_up h.2.1 h.2.2.1 h.1, (h.2.2.1 + 1) % 10, min 10 (h.2.2.2 + 1))
def prt (M : MoT) (c k d : Nat) : MoT := (M.1, va_up M.2.1 c (min 9 (M.2.1 c + k)), upd M.2.2.1 c (nI d), M.2.2.2)
def spWalks (n : Nat) (w : Nat → Nat) (h : HI) (p d : Int) : Int × HI := if 0 ≤ p ∧ p < (n : Int) ∧ 0 ≤ d ∧ d < 4 then (if nb (h.1.1 p.toNat) d.toNat < 0 then (-2, h) else (((min 9 (h.1.2.1 (nb (h.1.1 p.toNat) d.toNat).toNat + w p.toNat) : Nat) : Int), hpush h (prt (va_up h.1.1 p.toNat (nb (h.1.1 p.toNat) d.toNat).toNat, h.1.2) (nb (h.1.1 p.toNat) d.toNat).toNat (w p.toNat) d.toNat))) else (-1, h)
def spStands (n : Nat) (w : Nat → Nat) (h : HI) (p d : Int) : Int × HI := if 0 ≤ p ∧ p < (n : Int) ∧ 0 ≤ d ∧ d < 4 then (((min 9 (h.1.2.1 (h.1.1 p.toNat) + w p.toNat) : Nat) : Int), hpush h (prt h.1 (h.1.1 p.toNat) (w p.toNat) d.toNat)) else (-1, h)
def spRains (k : Nat) (h : HI) : Int × HI := (((cntS h.1.2.1 k 36 : Nat) : Int), hpush h (h.1.1, soakD h.1.2.1 k, soakT h.1.2.1 k h.1.2.2.1, h.1.2.2.2))
def lifted (M : MoT) (c : Nat) : MoT := (M.1, va_up (va_up (va_up (va_up M.2.1 c 0) (c + 6) 0) (c + 1) 0) (c + 7) 0, upd (upd (upd (upd M.2.2.1 c (-9)) (c + 6) (-9)) (c + 1) (-9)) (c + 7) (-9), min 999 (M.2.2.2.1 + tray M.2.1 c), M.2.2.2.2)
def spLifts (h : HI) (x y : Int) : Int × HI := if 0 ≤ x ∧ x < 5 ∧ 0 ≤ y ∧ y < 5 then (if tray h.1.2.1 (6 * x.toNat + y.toNat) = 0 then (-2, h) else (((tray h.1.2.1 (6 * x.toNat + y.toNat) : Nat) : Int), hpush h (lifted h.1 (6 * x.toNat + y.toNat)))) else (-1, h)
def spVotes (n : Nat) (v : Nat → Nat) (h : HI) (l : Int) : Int × HI := if 0 ≤ l ∧ l < 6 then (if vAg h.1.1 v l.toNat n < vFor h.1.1 v l.toNat n then (1, hpush h (h.1.1, h.1.2.1, h.1.2.2.1, h.1.2.2.2.1, h.1.2.2.2.2.1 + 1, h.1.2.2.2.2.2 + 1)) else (0, hpush h (h.1.1, h.1.2.1, h.1.2.2.1, h.1.2.2.2.1, h.1.2.2.2.2.1 + 1, h.1.2.2.2.2.2))) else (-1, h)
def spUndo (h : HI) : Int × HI := if h.2.2.2 = 0 then (-2, h) else (((h.2.2.2 - 1 : Nat) : Int), (h.2.1 ((h.2.2.1 + 9) % 10), h.2.1, (h.2.2.1 + 9) % 10, h.2.2.2 - 1))
def spCell (wh de : Nat → Nat) (t : Nat → Int32) (n k : Nat) (c w : Int) : Int32 := if 0 ≤ c ∧ c / 10 < 6 ∧ c % 10 < 6 then (if w = 0 then nI (de (6 * (c / 10) + c % 10).toNat) else if w = 1 then t (6 * (c / 10) + c % 10).toNat else if w = 2 then nI (pAt wh (6 * (c / 10) + c % 10).toNat n) else if w = 3 then nI ((de (6 * (c / 10) + c % 10).toNat + k - 1) / k) else -1) else -1
def spPerson (w v wh : Nat → Nat) (n : Nat) (p q : Int) : Int := if 0 ≤ p ∧ p < (n : Int) then (if q = 0 then ((10 * (wh p.toNat / 6) + wh p.toNat % 6 : Nat) : Int) else if q = 1 then (w p.toNat : Int) else if q = 2 then (v p.toNat : Int) else -1) else -1
def powN (v : Nat → Nat) (n p q : Nat) : Nat → Nat
  | 0 => 0
  | s + 1 => powN v n p q s + (if s &&& 2 ^ p = 0 ∧ bSum v s n < q ∧ q ≤ bSum v s n + v p then 1 else 0)
def spPower (v : Nat → Nat) (n : Nat) (p q : Int) : Int := if 0 ≤ p ∧ p < (n : Int) ∧ 1 ≤ q ∧ q ≤ 45 then (powN v n p.toNat q.toNat (2 ^ n) : Int) else -1
def spFound (n m : Nat) (e x : Int) : Int := if 0 ≤ e ∧ e < ((2 ^ n : Nat) : Int) ∧ 1 ≤ x ∧ x ≤ 9 then (if m < 6 then (m : Int) + 1 else -3) else -1
def spCan (w : Nat → Nat) (n : Nat) (el fd : Nat → Nat) (m : Nat) (q : Int) : Int := if q = 0 then (canN w n el fd m 0 (2 ^ n) : Int) else if q = 1 then inAll w n el fd m (2 ^ n) else if q = 2 then (inSome w n el fd m (2 ^ n) : Int) else -1
def askS (cn : Nat → Nat) (al : Nat) : Nat → Nat × Int
  | 0 => (al, -9)
  | p + 1 => if max (cn p) (al - cn p) < (askS cn al p).1 then (max (cn p) (al - cn p), (p : Int)) else askS cn al p
def spAsk (w : Nat → Nat) (n : Nat) (el fd : Nat → Nat) (m : Nat) : Int := if canN w n el fd m 0 (2 ^ n) ≤ 1 then -9 else (askS (fun p => canN w n el fd m (2 ^ p) (2 ^ n)) (canN w n el fd m 0 (2 ^ n)) n).2
theorem canN_le (w : Nat → Nat) (n : Nat) (el fd : Nat → Nat) (m b : Nat) : ∀ s, canN w n el fd m b s ≤ canN w n el fd m 0 s ∧ canN w n el fd m 0 s ≤ s
  | 0 => ⟨Nat.le_refl _, Nat.le_refl _⟩
  | s + 1 => by
    have h := canN_le w n el fd m b s
    simp only [canN]
    by_cases hf : fitB w n el fd m s = true
    · rw [if_pos (show s &&& 0 = 0 ∧ fitB w n el fd m s = true from ⟨Nat.and_zero _, hf⟩)]
      split <;> omega
    · rw [if_neg (fun z => hf z.2), if_neg (fun z => hf z.2)]
      omega
def spCount (n k m len : Nat) (q : Int) : Int := if q = 0 then (n : Int) else if q = 1 then (k : Int) else if q = 2 then (m : Int) else if q = 3 then (len : Int) else -1
def spOdds (de : Nat → Nat) (k : Nat) (c x n w : Int) : Int := if 0 ≤ c ∧ c / 10 < 6 ∧ c % 10 < 6 ∧ 0 ≤ x ∧ x ≤ 10 ∧ 0 ≤ n ∧ n ≤ 8 ∧ 0 ≤ w ∧ w ≤ 1 then (((if w = 0 then chStay ((de (6 * (c / 10) + c % 10).toNat + k - 1) / k) x.toNat n.toNat else 10 ^ n.toNat) / eucl 100 (10 ^ n.toNat) (chStay ((de (6 * (c / 10) + c % 10).toNat + k - 1) / k) x.toNat n.toNat) : Nat) : Int) else -1
theorem chStay_le : ∀ g, g ≤ 9 → ∀ x, x ≤ 10 → ∀ n, n ≤ 8 → chStay g x n ≤ 10 ^ n := by decide +kernel
theorem pw10 : ∀ n, n ≤ 8 → 1 ≤ 10 ^ n ∧ 10 ^ n ≤ 100000000 := by decide +kernel
/-- the best rows: once one has been weighed, the trays told lie in the field -/
def okB (k : Nat) (x : BSt) : Prop := 0 ≤ x.1 ∧ ∀ i, i < k → 0 ≤ x.2 i ∧ x.2 i < 25
theorem lpU_all {σ : Type} {f : Nat → σ → σ} {P : σ → Prop} {N : Nat} (h : ∀ i x, i < N → P x → P (f i x)) : ∀ c lo x, lo + c ≤ N → P x → P (lpU f c lo x)
  | 0, _, _, _, hx => hx
  | c + 1, lo, x, hl, hx => lpU_all h c (lo + 1) (f lo x) (by omega) (h lo x (by omega) hx)
theorem lpU_once {σ : Type} {f : Nat → σ → σ} {P Q : σ → Prop} {N : Nat} (h : ∀ i x, i < N → P x → P (f i x)) (h2 : ∀ i x, i < N → Q x → Q (f i x)) (j : Nat) (h3 : ∀ x, P x → Q (f j x)) : ∀ c lo x, lo + c ≤ N → lo ≤ j → j < lo + c → P x → Q (lpU f c lo x)
  | 0, _, _, _, h4, h5, _ => by omega
  | c + 1, lo, x, hl, h4, h5, hx => by
    by_cases e : lo = j
    · subst e
      exact lpU_all h2 c (lo + 1) _ (by omega) (h3 x hx)
    · exact lpU_once h h2 j h3 c (lo + 1) (f lo x) (by omega) (by omega) (by omega) (h lo x (by omega) hx)
def preB (k : Nat) (x : BSt) : Prop := x.1 = -1 ∨ okB k x
theorem wst_ok {T : Nat → Nat} {k : Nat} {x : BSt} {f s t : Int} (hx : preB k x) (h : ∀ i, i < k → (i = 0 ∧ 0 ≤ f ∧ f < 25) ∨ (i = 1 ∧ 0 ≤ s ∧ s < 25) ∨ (i = 2 ∧ 0 ≤ t ∧ t < 25)) : okB k (wst T x f s t) := by
  unfold wst
  split
  · refine ⟨by simp only []; omega, fun i hi => ?_⟩
    rcases h i hi with ⟨rfl, h1⟩ | ⟨rfl, h1⟩ | ⟨rfl, h1⟩
    · simpa [va_up] using h1
    · simpa [va_up] using h1
    · simpa [va_up] using h1
  · rename_i hn
    rcases hx with h1 | h1
    · omega
    · exact h1
theorem row3_p {T : Nat → Nat} {f s t : Nat} {x : BSt} (hf : f < 25) (hs : s < 25) (ht : t < 25) (hx : preB 3 x) : preB 3 (row3 T f s t x) := by
  unfold row3
  split
  · exact Or.inr (wst_ok hx (fun i hi => by omega))
  · exact hx
theorem row3_o {T : Nat → Nat} {f s t : Nat} {x : BSt} (hf : f < 25) (hs : s < 25) (ht : t < 25) (hx : okB 3 x) : okB 3 (row3 T f s t x) := by
  unfold row3
  split
  · exact wst_ok (Or.inr hx) (fun i hi => by omega)
  · exact hx
theorem seek3_p {T : Nat → Nat} {f s : Nat} {x : BSt} (hf : f < 25) (hs : s < 25) (hx : preB 3 x) : preB 3 (seek3 T f s x) := lpU_all (N := 25) (fun i x hi h => row3_p hf hs hi h) _ _ _ (by omega) hx
theorem seek3_o {T : Nat → Nat} {f s : Nat} {x : BSt} (hf : f < 25) (hs : s < 25) (hx : okB 3 x) : okB 3 (seek3 T f s x) := lpU_all (N := 25) (fun i x hi h => row3_o hf hs hi h) _ _ _ (by omega) hx
theorem row2_p {T : Nat → Nat} {k f s : Nat} {x : BSt} (hk : k = 2 ∨ k = 3) (hf : f < 25) (hs : s < 25) (hx : preB k x) : preB k (row2 T k f s x) := by
  unfold row2
  split
  · split
    · rename_i h
      subst h
      exact Or.inr (wst_ok hx (fun i hi => by omega))
    · have h : k = 3 := by omega
      subst h
      exact seek3_p hf hs hx
  · exact hx
theorem row2_o {T : Nat → Nat} {k f s : Nat} {x : BSt} (hk : k = 2 ∨ k = 3) (hf : f < 25) (hs : s < 25) (hx : okB k x) : okB k (row2 T k f s x) := by
  unfold row2
  split
  · split
    · rename_i h
      subst h
      exact wst_ok (Or.inr hx) (fun i hi => by omega)
    · have h : k = 3 := by omega
      subst h
      exact seek3_o hf hs hx
  · exact hx
theorem row2_first {T : Nat → Nat} {k : Nat} {x : BSt} (hk : k = 2 ∨ k = 3) (hx : preB k x) : okB k (row2 T k 0 2 x) := by
  unfold row2
  rw [if_pos (by decide)]
  split
  · rename_i h
    subst h
    exact wst_ok hx (fun i hi => by omega)
  · have h : k = 3 := by omega
    subst h
    refine lpU_once (N := 25) (P := preB 3) (fun i x hi h => row3_p (by omega) (by omega) hi h) (fun i x hi h => row3_o (by omega) (by omega) hi h) 4 (fun x hx => ?_) _ _ _ (by omega) (by omega) (by omega) hx
    unfold row3
    rw [if_pos (by decide)]
    exact wst_ok hx (fun i hi => by omega)
theorem seek2_p {T : Nat → Nat} {k f : Nat} {x : BSt} (hk : k = 2 ∨ k = 3) (hf : f < 25) (hx : preB k x) : preB k (seek2 T k f x) := lpU_all (N := 25) (fun i x hi h => row2_p hk hf hi h) _ _ _ (by omega) hx
theorem seek2_o {T : Nat → Nat} {k f : Nat} {x : BSt} (hk : k = 2 ∨ k = 3) (hf : f < 25) (hx : okB k x) : okB k (seek2 T k f x) := lpU_all (N := 25) (fun i x hi h => row2_o hk hf hi h) _ _ _ (by omega) hx
theorem seek1_ok {T : Nat → Nat} {k : Nat} {B : Nat → Int} (hk : 1 ≤ k ∧ k ≤ 3) : okB k (seek1 T k (-1, B)) := by
  refine lpU_once (N := 25) (P := preB k) (fun i x hi h => ?_) (fun i x hi h => ?_) 0 (fun x hx => ?_) _ _ _ (by omega) (by omega) (by omega) (Or.inl rfl)
  · unfold row1
    split
    · rename_i e
      subst e
      exact Or.inr (wst_ok h (fun i hi => by omega))
    · exact seek2_p (by omega) hi h
  · unfold row1
    split
    · rename_i e
      subst e
      exact wst_ok (Or.inr h) (fun i hi => by omega)
    · exact seek2_o (by omega) hi h
  · unfold row1
    split
    · rename_i e
      subst e
      exact wst_ok hx (fun i hi => by omega)
    · exact lpU_once (N := 25) (P := preB k) (fun i x hi h => row2_p (by omega) (by omega) hi h) (fun i x hi h => row2_o (by omega) (by omega) hi h) 2 (fun x hx => row2_first (by omega) hx) _ _ _ (by omega) (by omega) (by omega) hx
set_option maxHeartbeats 4000000 in
set_option maxRecDepth 100000 in
theorem c_X4_rated (l : Launch) (G : mvG) (a : Nat → Nat) (im : Nat → Nat → Nat) (kd : Nat → Nat) (re : Nat) (pa : Nat) (fa : Nat) (b : Nat → Nat) (c : Nat → Nat) (kk : Nat → Nat) (ts : Nat → Nat) (bt : Nat → Int) (sp : Nat → Int) (qu : Nat → Nat) (bs : Int) (tr : Nat) (w : Nat → Nat) (v : Nat → Nat) (n : Nat) (k : Nat) (x0 : Nat) (p : Nat) (hp : p < 5) : KQ l yX4_rated cX4_rated 3 (some .int) (1, 21) G [.ref x0, .ref (a 0), .int (nI p)] [gMoot G a (fun j => im j 0) kd re (b 0) (c 0) pa fa (nF kk) (nF ts) (sF bt) (sF sp) (nF qu) (iI bs) (lN tr), gRoll G b (nF w) (nF v) (nI n) (nI k)] (fun (_ : Unit) => some (.int (nI (w p)))) (fun (_ : Unit) => True) (fun (_ : Unit) => [gMoot G a (fun j => im j 0) kd re (b 0) (c 0) pa fa (nF kk) (nF ts) (sF bt) (sF sp) (nF qu) (iI bs) (lN (tr + 1)), gRoll G b (nF w) (nF v) (nI n) (nI k)]) := by
  refine KQ.mk (by decide +kernel) (fun _ _ => rfl) [some (.ref x0), some (.ref (a 0)), some (.int (nI p))] (Nat.le_of_ble_eq_true rfl) rfl (fun C X Y hC => ?_)
  subst hC
  refine V_aload_n X dX4_rated_0 rfl ?_
  refine V_dup X dX4_rated_1 rfl ?_
  refine V_get X fl_X4_7 0 0 rfl rfl rfl dX4_rated_2 ?_
  refine V_lconst X (lN 1) dX4_rated_5 (by decide) ?_
  refine V_laddN X dX4_rated_6 ?_
  refine V_put X fl_X4_7 0 0 rfl rfl rfl rfl (Nat.le_of_ble_eq_true rfl) dX4_rated_7 ?_
  show V C 0 0 [gMoot G a (fun j => im j 0) kd re (b 0) (c 0) pa fa (nF kk) (nF ts) (sF bt) (sF sp) (nF qu) (iI bs) (lN (tr + 1)), gRoll G b (nF w) (nF v) (nI n) (nI k)] 10 [some (.ref x0), some (.ref (a 0)), some (.int (nI p))] []
  refine V_aload_n X dX4_rated_10 rfl ?_
  refine V_get X fl_X4_13 0 0 rfl rfl rfl dX4_rated_11 ?_
  refine V_iload_n X dX4_rated_14 rfl ?_
  refine V_callV (rest := []) X (c_X7_weightOf (Cl C) G b w v n k p (by first | assumption | omega)) mi_X7_weightOf kw_3_194 kw_2_177 kw_2_178 dX4_rated_15 [1] rfl (by decide) 1 0 rfl rfl rfl rfl rfl rfl (by decide) (Nat.le_of_ble_eq_true rfl) ⟨rfl, rfl⟩ (fun _ _ => ?_)
  show V C 0 0 [gMoot G a (fun j => im j 0) kd re (b 0) (c 0) pa fa (nF kk) (nF ts) (sF bt) (sF sp) (nF qu) (iI bs) (lN (tr + 1)), gRoll G b (nF w) (nF v) (nI n) (nI k)] 18 [some (.ref x0), some (.ref (a 0)), some (.int (nI p))] [.int (nI (w p))]
  exact V_iret X Y () trivial rfl rfl rfl dX4_rated_18
set_option maxHeartbeats 4000000 in
set_option maxRecDepth 100000 in
theorem c_X0_rated (l : Launch) (G : mvG) (a : Nat → Nat) (im : Nat → Nat → Nat) (kd : Nat → Nat) (re : Nat) (pa : Nat) (fa : Nat) (b : Nat → Nat) (c : Nat → Nat) (kk : Nat → Nat) (ts : Nat → Nat) (bt : Nat → Int) (sp : Nat → Int) (qu : Nat → Nat) (bs : Int) (tr : Nat) (w : Nat → Nat) (v : Nat → Nat) (n : Nat) (k : Nat) (x0 : Nat) (ci : Nat) (qc : vw_C) (p : Nat) (hp : p < 5) (hci : vwCl[ci]? = some qc) : KQ l yX0_rated cX0_rated 3 (some .int) (2, 43) G [.ref x0, .ref (a 0), .int (nI p)] [gMoot G a (fun j => im j 0) kd re (b 0) (c 0) pa fa (nF kk) (nF ts) (sF bt) (sF sp) (nF qu) (iI bs) (lN tr), gRoll G b (nF w) (nF v) (nI n) (nI k), gObj x0 ci] (fun (_ : Unit) => some (.int (nI (w p + v p)))) (fun (_ : Unit) => True) (fun (_ : Unit) => [gMoot G a (fun j => im j 0) kd re (b 0) (c 0) pa fa (nF kk) (nF ts) (sF bt) (sF sp) (nF qu) (iI bs) (lN (tr + 10 + 1)), gRoll G b (nF w) (nF v) (nI n) (nI k), gObj x0 ci]) := by
  refine KQ.mk (by decide +kernel) (fun _ _ => rfl) [some (.ref x0), some (.ref (a 0)), some (.int (nI p))] (Nat.le_of_ble_eq_true rfl) rfl (fun C X Y hC => ?_)
  subst hC
  refine V_aload_n X dX0_rated_0 rfl ?_
  refine V_dup X dX0_rated_1 rfl ?_
  refine V_get X fl_X0_7 0 0 rfl rfl rfl dX0_rated_2 ?_
  refine V_ldc2 X kw_3_168 dX0_rated_5 ?_
  refine V_topl (show (10 : Int64) = lN 10 from by decide +kernel) ?_
  refine V_laddN X dX0_rated_8 ?_
  refine V_put X fl_X0_7 0 0 rfl rfl rfl rfl (Nat.le_of_ble_eq_true rfl) dX0_rated_9 ?_
  show V C 0 0 [gMoot G a (fun j => im j 0) kd re (b 0) (c 0) pa fa (nF kk) (nF ts) (sF bt) (sF sp) (nF qu) (iI bs) (lN (tr + 10)), gRoll G b (nF w) (nF v) (nI n) (nI k), gObj x0 ci] 12 [some (.ref x0), some (.ref (a 0)), some (.int (nI p))] []
  refine V_aload_n X dX0_rated_12 rfl ?_
  refine V_aload_n X dX0_rated_13 rfl ?_
  refine V_iload_n X dX0_rated_14 rfl ?_
  refine V_callSup (rest := []) X (c_X4_rated (Cl C) G a im kd re pa fa b c kk ts bt sp qu bs (tr + 10) w v n k x0 p (by first | assumption | omega)) mi_X4_rated kw_3_169 kw_3_162 kw_3_164 kw_1_182 (by decide +kernel) dX0_rated_15 [0, 1] rfl (by decide) 2 0 rfl rfl hci rfl rfl (by decide) (Nat.le_of_ble_eq_true rfl) ⟨rfl, rfl⟩ (fun _ _ => ?_)
  show V C 0 0 [gMoot G a (fun j => im j 0) kd re (b 0) (c 0) pa fa (nF kk) (nF ts) (sF bt) (sF sp) (nF qu) (iI bs) (lN ((tr + 10) + 1)), gRoll G b (nF w) (nF v) (nI n) (nI k), gObj x0 ci] 18 [some (.ref x0), some (.ref (a 0)), some (.int (nI p))] [.int (nI (w p))]
  refine V_aload_n X dX0_rated_18 rfl ?_
  refine V_get X fl_X0_19 0 0 rfl rfl rfl dX0_rated_19 ?_
  refine V_iload_n X dX0_rated_22 rfl ?_
  refine V_callV (rest := [.int (nI (w p))]) X (c_X7_voicesOf (Cl C) G b w v n k p (by first | assumption | omega)) mi_X7_voicesOf kw_3_170 kw_2_181 kw_2_182 dX0_rated_23 [1] rfl (by decide) 1 0 rfl rfl rfl rfl rfl rfl (by decide) (Nat.le_of_ble_eq_true rfl) ⟨rfl, rfl⟩ (fun _ _ => ?_)
  show V C 0 0 [gMoot G a (fun j => im j 0) kd re (b 0) (c 0) pa fa (nF kk) (nF ts) (sF bt) (sF sp) (nF qu) (iI bs) (lN ((tr + 10) + 1)), gRoll G b (nF w) (nF v) (nI n) (nI k), gObj x0 ci] 26 [some (.ref x0), some (.ref (a 0)), some (.int (nI p))] [.int (nI (v p)), .int (nI (w p))]
  refine V_iaddN X dX0_rated_26 ?_
  exact V_iret X Y () trivial (mv_rn (by rfl)) rfl rfl dX0_rated_27
set_option maxHeartbeats 4000000 in
set_option maxRecDepth 100000 in
theorem c_X2_rated (l : Launch) (G : mvG) (a : Nat → Nat) (im : Nat → Nat → Nat) (kd : Nat → Nat) (re : Nat) (pa : Nat) (fa : Nat) (b : Nat → Nat) (c : Nat → Nat) (kk : Nat → Nat) (ts : Nat → Nat) (bt : Nat → Int) (sp : Nat → Int) (qu : Nat → Nat) (bs : Int) (tr : Nat) (w : Nat → Nat) (v : Nat → Nat) (n : Nat) (k : Nat) (wh : Nat → Nat) (de : Nat → Nat) (t : Nat → Int32) (sv : Nat) (vt : Nat) (ps : Nat) (x0 : Nat) (ci : Nat) (qc : vw_C) (p : Nat) (hp : p < 5) (hci : vwCl[ci]? = some qc) (hwh : ∀ j, wh j < 36) : KQ l yX2_rated cX2_rated 3 (some .int) (2, 43) G [.ref x0, .ref (a 0), .int (nI p)] [gMoot G a (fun j => im j 0) kd re (b 0) (c 0) pa fa (nF kk) (nF ts) (sF bt) (sF sp) (nF qu) (iI bs) (lN tr), gRoll G b (nF w) (nF v) (nI n) (nI k), gMo G c (nF wh) (nF de) t (nI sv) (nI vt) (nI ps), gObj x0 ci] (fun (_ : Unit) => some (.int (iI ((w p : Int) - (de (wh p) : Int))))) (fun (_ : Unit) => True) (fun (_ : Unit) => [gMoot G a (fun j => im j 0) kd re (b 0) (c 0) pa fa (nF kk) (nF ts) (sF bt) (sF sp) (nF qu) (iI bs) (lN (tr + 100 + 1)), gRoll G b (nF w) (nF v) (nI n) (nI k), gMo G c (nF wh) (nF de) t (nI sv) (nI vt) (nI ps), gObj x0 ci]) := by
  refine KQ.mk (by decide +kernel) (fun _ _ => rfl) [some (.ref x0), some (.ref (a 0)), some (.int (nI p))] (Nat.le_of_ble_eq_true rfl) rfl (fun C X Y hC => ?_)
  subst hC
  refine V_aload_n X dX2_rated_0 rfl ?_
  refine V_dup X dX2_rated_1 rfl ?_
  refine V_get X fl_X2_7 0 0 rfl rfl rfl dX2_rated_2 ?_
  refine V_ldc2 X kw_3_174 dX2_rated_5 ?_
  refine V_topl (show (100 : Int64) = lN 100 from by decide +kernel) ?_
  refine V_laddN X dX2_rated_8 ?_
  refine V_put X fl_X2_7 0 0 rfl rfl rfl rfl (Nat.le_of_ble_eq_true rfl) dX2_rated_9 ?_
  show V C 0 0 [gMoot G a (fun j => im j 0) kd re (b 0) (c 0) pa fa (nF kk) (nF ts) (sF bt) (sF sp) (nF qu) (iI bs) (lN (tr + 100)), gRoll G b (nF w) (nF v) (nI n) (nI k), gMo G c (nF wh) (nF de) t (nI sv) (nI vt) (nI ps), gObj x0 ci] 12 [some (.ref x0), some (.ref (a 0)), some (.int (nI p))] []
  refine V_aload_n X dX2_rated_12 rfl ?_
  refine V_aload_n X dX2_rated_13 rfl ?_
  refine V_iload_n X dX2_rated_14 rfl ?_
  refine V_callSup (rest := []) X (c_X4_rated (Cl C) G a im kd re pa fa b c kk ts bt sp qu bs (tr + 100) w v n k x0 p (by first | assumption | omega)) mi_X4_rated kw_3_175 kw_3_162 kw_3_164 kw_1_189 (by decide +kernel) dX2_rated_15 [0, 1] rfl (by decide) 3 0 rfl rfl hci rfl rfl (by decide) (Nat.le_of_ble_eq_true rfl) ⟨rfl, rfl⟩ (fun _ _ => ?_)
  show V C 0 0 [gMoot G a (fun j => im j 0) kd re (b 0) (c 0) pa fa (nF kk) (nF ts) (sF bt) (sF sp) (nF qu) (iI bs) (lN ((tr + 100) + 1)), gRoll G b (nF w) (nF v) (nI n) (nI k), gMo G c (nF wh) (nF de) t (nI sv) (nI vt) (nI ps), gObj x0 ci] 18 [some (.ref x0), some (.ref (a 0)), some (.int (nI p))] [.int (nI (w p))]
  refine V_aload_n X dX2_rated_18 rfl ?_
  refine V_get X fl_X2_19 0 0 rfl rfl rfl dX2_rated_19 ?_
  refine V_aload_n X dX2_rated_22 rfl ?_
  refine V_get X fl_X2_19 0 0 rfl rfl rfl dX2_rated_23 ?_
  refine V_iload_n X dX2_rated_26 rfl ?_
  refine V_callV (rest := [.ref (c 0), .int (nI (w p))]) X (c_X3_placeOf (Cl C) G c wh de t sv vt ps p (by first | assumption | omega)) mi_X3_placeOf kw_3_176 kw_2_158 kw_2_159 dX2_rated_27 [2] rfl (by decide) 2 0 rfl rfl rfl rfl rfl rfl (by decide) (Nat.le_of_ble_eq_true rfl) ⟨rfl, rfl⟩ (fun _ _ => ?_)
  show V C 0 0 [gMoot G a (fun j => im j 0) kd re (b 0) (c 0) pa fa (nF kk) (nF ts) (sF bt) (sF sp) (nF qu) (iI bs) (lN ((tr + 100) + 1)), gRoll G b (nF w) (nF v) (nI n) (nI k), gMo G c (nF wh) (nF de) t (nI sv) (nI vt) (nI ps), gObj x0 ci] 30 [some (.ref x0), some (.ref (a 0)), some (.int (nI p))] [.int (nI (wh p)), .ref (c 0), .int (nI (w p))]
  have hwp := hwh p
  refine V_callV (rest := [.int (nI (w p))]) X (c_X3_deepAt (Cl C) G c wh de t sv vt ps (wh p) (by first | assumption | omega)) mi_X3_deepAt kw_3_177 kw_2_146 kw_2_147 dX2_rated_30 [2] rfl (by decide) 2 0 rfl rfl rfl rfl rfl rfl (by decide) (Nat.le_of_ble_eq_true rfl) ⟨rfl, rfl⟩ (fun _ _ => ?_)
  show V C 0 0 [gMoot G a (fun j => im j 0) kd re (b 0) (c 0) pa fa (nF kk) (nF ts) (sF bt) (sF sp) (nF qu) (iI bs) (lN ((tr + 100) + 1)), gRoll G b (nF w) (nF v) (nI n) (nI k), gMo G c (nF wh) (nF de) t (nI sv) (nI vt) (nI ps), gObj x0 ci] 33 [some (.ref x0), some (.ref (a 0)), some (.int (nI p))] [.int (nI (de (wh p))), .int (nI (w p))]
  refine V_two (show (nI (w p)) = iI ((w p : Nat) : Int) from rfl) (show (nI (de (wh p))) = iI ((de (wh p) : Nat) : Int) from rfl) ?_
  refine V_isubS X dX2_rated_33 ?_
  exact V_iret X Y () trivial (mv_si (by rfl)) rfl rfl dX2_rated_34
set_option maxHeartbeats 4000000 in
set_option maxRecDepth 100000 in
theorem c_X9_rated (l : Launch) (G : mvG) (a : Nat → Nat) (im : Nat → Nat → Nat) (kd : Nat → Nat) (re : Nat) (pa : Nat) (fa : Nat) (b : Nat → Nat) (c : Nat → Nat) (kk : Nat → Nat) (ts : Nat → Nat) (bt : Nat → Int) (sp : Nat → Int) (qu : Nat → Nat) (bs : Int) (tr : Nat) (w : Nat → Nat) (v : Nat → Nat) (n : Nat) (k : Nat) (wh : Nat → Nat) (de : Nat → Nat) (t : Nat → Int32) (sv : Nat) (vt : Nat) (ps : Nat) (x0 : Nat) (ci : Nat) (qc : vw_C) (p : Nat) (hp : p < 5) (hci : vwCl[ci]? = some qc) : KQ l yX9_rated cX9_rated 3 (some .int) (2, 43) G [.ref x0, .ref (a 0), .int (nI p)] [gMoot G a (fun j => im j 0) kd re (b 0) (c 0) pa fa (nF kk) (nF ts) (sF bt) (sF sp) (nF qu) (iI bs) (lN tr), gRoll G b (nF w) (nF v) (nI n) (nI k), gMo G c (nF wh) (nF de) t (nI sv) (nI vt) (nI ps), gObj x0 ci] (fun (_ : Unit) => some (.int (nI (w p + vt)))) (fun (_ : Unit) => True) (fun (_ : Unit) => [gMoot G a (fun j => im j 0) kd re (b 0) (c 0) pa fa (nF kk) (nF ts) (sF bt) (sF sp) (nF qu) (iI bs) (lN (tr + 100000 + 1)), gRoll G b (nF w) (nF v) (nI n) (nI k), gMo G c (nF wh) (nF de) t (nI sv) (nI vt) (nI ps), gObj x0 ci]) := by
  refine KQ.mk (by decide +kernel) (fun _ _ => by simp only [sameA, List.map_cons, List.map_nil, gMoot, gRoll, gMo, gObj]) [some (.ref x0), some (.ref (a 0)), some (.int (nI p))] (Nat.le_of_ble_eq_true rfl) rfl (fun C X Y hC => ?_)
  subst hC
  refine V_aload_n X dX9_rated_0 rfl ?_
  refine V_dup X dX9_rated_1 rfl ?_
  refine V_get X fl_X9_7 0 0 rfl rfl rfl dX9_rated_2 ?_
  refine V_ldc2 X kw_3_186 dX9_rated_5 ?_
  refine V_topl (show (100000 : Int64) = lN 100000 from by decide +kernel) ?_
  refine V_laddN X dX9_rated_8 ?_
  refine V_put X fl_X9_7 0 0 rfl rfl rfl rfl (Nat.le_of_ble_eq_true rfl) dX9_rated_9 ?_
  show V C 0 0 [gMoot G a (fun j => im j 0) kd re (b 0) (c 0) pa fa (nF kk) (nF ts) (sF bt) (sF sp) (nF qu) (iI bs) (lN (tr + 100000)), gRoll G b (nF w) (nF v) (nI n) (nI k), gMo G c (nF wh) (nF de) t (nI sv) (nI vt) (nI ps), gObj x0 ci] 12 [some (.ref x0), some (.ref (a 0)), some (.int (nI p))] []
  refine V_aload_n X dX9_rated_12 rfl ?_
  refine V_aload_n X dX9_rated_13 rfl ?_
  refine V_iload_n X dX9_rated_14 rfl ?_
  refine V_callSup (rest := []) X (c_X4_rated (Cl C) G a im kd re pa fa b c kk ts bt sp qu bs (tr + 100000) w v n k x0 p (by first | assumption | omega)) mi_X4_rated kw_3_187 kw_3_162 kw_3_164 kw_1_210 (by decide +kernel) dX9_rated_15 [0, 1] rfl (by decide) 3 0 rfl rfl hci rfl rfl (by decide) (Nat.le_of_ble_eq_true rfl) ⟨rfl, rfl⟩ (fun _ _ => ?_)
  show V C 0 0 [gMoot G a (fun j => im j 0) kd re (b 0) (c 0) pa fa (nF kk) (nF ts) (sF bt) (sF sp) (nF qu) (iI bs) (lN ((tr + 100000) + 1)), gRoll G b (nF w) (nF v) (nI n) (nI k), gMo G c (nF wh) (nF de) t (nI sv) (nI vt) (nI ps), gObj x0 ci] 18 [some (.ref x0), some (.ref (a 0)), some (.int (nI p))] [.int (nI (w p))]
  refine V_aload_n X dX9_rated_18 rfl ?_
  refine V_get X fl_X9_19 0 0 rfl rfl rfl dX9_rated_19 ?_
  refine V_get X fl_X9_23 2 0 rfl rfl rfl dX9_rated_22 ?_
  refine V_iaddN X dX9_rated_25 ?_
  exact V_iret X Y () trivial (mv_rn (by rfl)) rfl rfl dX9_rated_26
set_option maxHeartbeats 4000000 in
set_option maxRecDepth 100000 in
theorem c_X8_rated (l : Launch) (G : mvG) (a : Nat → Nat) (im : Nat → Nat → Nat) (kd : Nat → Nat) (re : Nat) (pa : Nat) (fa : Nat) (b : Nat → Nat) (c : Nat → Nat) (kk : Nat → Nat) (ts : Nat → Nat) (bt : Nat → Int) (sp : Nat → Int) (qu : Nat → Nat) (bs : Int) (tr : Nat) (w : Nat → Nat) (v : Nat → Nat) (n : Nat) (k : Nat) (x0 : Nat) (ci : Nat) (qc : vw_C) (p : Nat) (hp : p < 5) (hci : vwCl[ci]? = some qc) : KQ l yX8_rated cX8_rated 3 (some .int) (3, 65) G [.ref x0, .ref (a 0), .int (nI p)] [gMoot G a (fun j => im j 0) kd re (b 0) (c 0) pa fa (nF kk) (nF ts) (sF bt) (sF sp) (nF qu) (iI bs) (lN tr), gRoll G b (nF w) (nF v) (nI n) (nI k), gObj x0 ci] (fun (_ : Unit) => some (.int (nI (2 * (w p + v p))))) (fun (_ : Unit) => True) (fun (_ : Unit) => [gMoot G a (fun j => im j 0) kd re (b 0) (c 0) pa fa (nF kk) (nF ts) (sF bt) (sF sp) (nF qu) (iI bs) (lN (tr + 1000 + 10 + 1)), gRoll G b (nF w) (nF v) (nI n) (nI k), gObj x0 ci]) := by
  refine KQ.mk (by decide +kernel) (fun _ _ => rfl) [some (.ref x0), some (.ref (a 0)), some (.int (nI p))] (Nat.le_of_ble_eq_true rfl) rfl (fun C X Y hC => ?_)
  subst hC
  refine V_aload_n X dX8_rated_0 rfl ?_
  refine V_dup X dX8_rated_1 rfl ?_
  refine V_get X fl_X8_7 0 0 rfl rfl rfl dX8_rated_2 ?_
  refine V_ldc2 X kw_3_181 dX8_rated_5 ?_
  refine V_topl (show (1000 : Int64) = lN 1000 from by decide +kernel) ?_
  refine V_laddN X dX8_rated_8 ?_
  refine V_put X fl_X8_7 0 0 rfl rfl rfl rfl (Nat.le_of_ble_eq_true rfl) dX8_rated_9 ?_
  show V C 0 0 [gMoot G a (fun j => im j 0) kd re (b 0) (c 0) pa fa (nF kk) (nF ts) (sF bt) (sF sp) (nF qu) (iI bs) (lN (tr + 1000)), gRoll G b (nF w) (nF v) (nI n) (nI k), gObj x0 ci] 12 [some (.ref x0), some (.ref (a 0)), some (.int (nI p))] []
  refine V_iconst X (nI 2) dX8_rated_12 (by decide) ?_
  refine V_aload_n X dX8_rated_13 rfl ?_
  refine V_aload_n X dX8_rated_14 rfl ?_
  refine V_iload_n X dX8_rated_15 rfl ?_
  refine V_callSup (rest := [.int (nI 2)]) X (c_X0_rated (Cl C) G a im kd re pa fa b c kk ts bt sp qu bs (tr + 1000) w v n k x0 ci qc p (by first | assumption | omega) (by first | assumption | omega)) mi_X0_rated kw_3_182 kw_3_166 kw_5_8 kw_1_196 (by decide +kernel) dX8_rated_16 [0, 1, 2] rfl (by decide) 2 0 rfl rfl hci rfl rfl (by decide) (Nat.le_of_ble_eq_true rfl) ⟨rfl, rfl⟩ (fun _ _ => ?_)
  show V C 0 0 [gMoot G a (fun j => im j 0) kd re (b 0) (c 0) pa fa (nF kk) (nF ts) (sF bt) (sF sp) (nF qu) (iI bs) (lN ((tr + 1000) + 10 + 1)), gRoll G b (nF w) (nF v) (nI n) (nI k), gObj x0 ci] 19 [some (.ref x0), some (.ref (a 0)), some (.int (nI p))] [.int (nI (w p + v p)), .int (nI 2)]
  refine V_imulN X dX8_rated_19 ?_
  exact V_iret X Y () trivial rfl rfl rfl dX8_rated_20
set_option maxHeartbeats 4000000 in
set_option maxRecDepth 100000 in
theorem c_X10_rated (l : Launch) (G : mvG) (a : Nat → Nat) (im : Nat → Nat → Nat) (kd : Nat → Nat) (re : Nat) (pa : Nat) (fa : Nat) (b : Nat → Nat) (c : Nat → Nat) (kk : Nat → Nat) (ts : Nat → Nat) (bt : Nat → Int) (sp : Nat → Int) (qu : Nat → Nat) (bs : Int) (tr : Nat) (w : Nat → Nat) (v : Nat → Nat) (n : Nat) (k : Nat) (wh : Nat → Nat) (de : Nat → Nat) (t : Nat → Int32) (sv : Nat) (vt : Nat) (ps : Nat) (x0 : Nat) (ci : Nat) (qc : vw_C) (p : Nat) (hp : p < 5) (hci : vwCl[ci]? = some qc) (hwh : ∀ j, wh j < 36) : KQ l yX10_rated cX10_rated 3 (some .int) (3, 65) G [.ref x0, .ref (a 0), .int (nI p)] [gMoot G a (fun j => im j 0) kd re (b 0) (c 0) pa fa (nF kk) (nF ts) (sF bt) (sF sp) (nF qu) (iI bs) (lN tr), gRoll G b (nF w) (nF v) (nI n) (nI k), gMo G c (nF wh) (nF de) t (nI sv) (nI vt) (nI ps), gObj x0 ci] (fun (_ : Unit) => some (.int (iI ((w p : Int) - (de (wh p) : Int) + (p : Int))))) (fun (_ : Unit) => True) (fun (_ : Unit) => [gMoot G a (fun j => im j 0) kd re (b 0) (c 0) pa fa (nF kk) (nF ts) (sF bt) (sF sp) (nF qu) (iI bs) (lN (tr + 10000 + 100 + 1)), gRoll G b (nF w) (nF v) (nI n) (nI k), gMo G c (nF wh) (nF de) t (nI sv) (nI vt) (nI ps), gObj x0 ci]) := by
  refine KQ.mk (by decide +kernel) (fun _ _ => rfl) [some (.ref x0), some (.ref (a 0)), some (.int (nI p))] (Nat.le_of_ble_eq_true rfl) rfl (fun C X Y hC => ?_)
  subst hC
  refine V_aload_n X dX10_rated_0 rfl ?_
  refine V_dup X dX10_rated_1 rfl ?_
  refine V_get X fl_X10_7 0 0 rfl rfl rfl dX10_rated_2 ?_
  refine V_ldc2 X kw_3_191 dX10_rated_5 ?_
  refine V_topl (show (10000 : Int64) = lN 10000 from by decide +kernel) ?_
  refine V_laddN X dX10_rated_8 ?_
  refine V_put X fl_X10_7 0 0 rfl rfl rfl rfl (Nat.le_of_ble_eq_true rfl) dX10_rated_9 ?_
  show V C 0 0 [gMoot G a (fun j => im j 0) kd re (b 0) (c 0) pa fa (nF kk) (nF ts) (sF bt) (sF sp) (nF qu) (iI bs) (lN (tr + 10000)), gRoll G b (nF w) (nF v) (nI n) (nI k), gMo G c (nF wh) (nF de) t (nI sv) (nI vt) (nI ps), gObj x0 ci] 12 [some (.ref x0), some (.ref (a 0)), some (.int (nI p))] []
  refine V_aload_n X dX10_rated_12 rfl ?_
  refine V_aload_n X dX10_rated_13 rfl ?_
  refine V_iload_n X dX10_rated_14 rfl ?_
  refine V_callSup (rest := []) X (c_X2_rated (Cl C) G a im kd re pa fa b c kk ts bt sp qu bs (tr + 10000) w v n k wh de t sv vt ps x0 ci qc p (by first | assumption | omega) (by first | assumption | omega) (by first | assumption | omega)) mi_X2_rated kw_3_192 kw_3_172 kw_5_9 kw_1_203 (by decide +kernel) dX10_rated_15 [0, 1, 2, 3] rfl (by decide) 3 0 rfl rfl hci rfl rfl (by decide) (Nat.le_of_ble_eq_true rfl) ⟨rfl, rfl⟩ (fun _ _ => ?_)
  show V C 0 0 [gMoot G a (fun j => im j 0) kd re (b 0) (c 0) pa fa (nF kk) (nF ts) (sF bt) (sF sp) (nF qu) (iI bs) (lN ((tr + 10000) + 100 + 1)), gRoll G b (nF w) (nF v) (nI n) (nI k), gMo G c (nF wh) (nF de) t (nI sv) (nI vt) (nI ps), gObj x0 ci] 18 [some (.ref x0), some (.ref (a 0)), some (.int (nI p))] [.int (iI ((w p : Int) - (de (wh p) : Int)))]
  refine V_iload_n X dX10_rated_18 rfl ?_
  refine V_two (show (iI ((w p : Int) - (de (wh p) : Int))) = iI ((w p : Int) - (de (wh p) : Int) : Int) from rfl) (show (nI p) = iI ((p : Nat) : Int) from rfl) ?_
  refine V_iaddS X dX10_rated_19 ?_
  exact V_iret X Y () trivial (mv_si (by rfl)) rfl rfl dX10_rated_20
set_option maxHeartbeats 4000000 in
set_option maxRecDepth 100000 in
theorem c_X11_rate (l : Launch) (G : mvG) (a : Nat → Nat) (im : Nat → Nat → Nat) (kd : Nat → Nat) (re : Nat) (pa : Nat) (fa : Nat) (b : Nat → Nat) (c : Nat → Nat) (kk : Nat → Nat) (ts : Nat → Nat) (bt : Nat → Int) (sp : Nat → Int) (qu : Nat → Nat) (bs : Int) (tr : Nat) (w : Nat → Nat) (v : Nat → Nat) (n : Nat) (k : Nat) (wh : Nat → Nat) (de : Nat → Nat) (t : Nat → Int32) (sv : Nat) (vt : Nat) (ps : Nat) (x : Int) (p : Int) (hn : n ≤ 5) (hwh : ∀ j, wh j < 36) (hx : -2147483648 ≤ x ∧ x < 2147483648) (hp : -2147483648 ≤ p ∧ p < 2147483648) : KQ l yX11_rate cX11_rate 4 (some .int) (4, 87) G [.ref (a 0), .int (iI x), .int (iI p)] [gMoot G a (fun j => im j 0) kd re (b 0) (c 0) pa fa (nF kk) (nF ts) (sF bt) (sF sp) (nF qu) (iI bs) (lN tr), gRoll G b (nF w) (nF v) (nI n) (nI k), gMo G c (nF wh) (nF de) t (nI sv) (nI vt) (nI ps), gObj (kd 0) 4, gObj (kd 1) 0, gObj (kd 2) 2, gObj (kd 3) 8, gObj (kd 4) 10, gObj (kd 5) 9] (fun (zz : Int × Nat) => some (.int (iI zz.1))) (fun (zz : Int × Nat) => zz.1 = spRate w v n wh de vt x p ∧ zz.2 = tr + spTr n x p) (fun (zz : Int × Nat) => [gMoot G a (fun j => im j 0) kd re (b 0) (c 0) pa fa (nF kk) (nF ts) (sF bt) (sF sp) (nF qu) (iI bs) (lN zz.2), gRoll G b (nF w) (nF v) (nI n) (nI k), gMo G c (nF wh) (nF de) t (nI sv) (nI vt) (nI ps), gObj (kd 0) 4, gObj (kd 1) 0, gObj (kd 2) 2, gObj (kd 3) 8, gObj (kd 4) 10, gObj (kd 5) 9]) := by
  refine KQ.mk (by decide +kernel) (fun _ _ => rfl) [some (.ref (a 0)), some (.int (iI x)), some (.int (iI p)), none] (Nat.le_of_ble_eq_true rfl) rfl (fun C X Y hC => ?_)
  subst hC
  refine V_iload_n X dX11_rate_0 rfl ?_
  refine V_if_ltI (i := x) X 24 dX11_rate_1 (by decide) (iI_toInt (by omega) (by omega)) (fun c_1 => ?_) (fun c_1 => ?_)
  · refine V_ldcw X kw_3_160 dX11_rate_24 ?_
    exact V_iret X Y ⟨-1000000, tr⟩ (show (-1000000) = spRate w v n wh de vt x p ∧ tr = tr + spTr n x p from (by constructor <;> simp only [spRate, spTr] <;> (repeat (first | rw [if_pos (by omega)] | rw [if_neg (by omega)])) <;> first | rfl | omega)) (mv_ri (by rfl)) rfl rfl dX11_rate_27
  · refine V_iload_n X dX11_rate_4 rfl ?_
    refine V_aload_n X dX11_rate_5 rfl ?_
    refine V_get X fl_X11_54 0 0 rfl rfl rfl dX11_rate_6 ?_
    refine V_alen X (t0 := 4) 0 3 (nI 6) rfl rfl rfl rfl dX11_rate_9 ?_
    refine V_icmp_geI (i := x) (j := 6) X 24 dX11_rate_10 (by decide) (iI_toInt (by omega) (by omega)) (nI_toInt (by decide)) (fun c_2 => ?_) (fun c_2 => ?_)
    · refine V_ldcw X kw_3_160 dX11_rate_24 ?_
      exact V_iret X Y ⟨-1000000, tr⟩ (show (-1000000) = spRate w v n wh de vt x p ∧ tr = tr + spTr n x p from (by constructor <;> simp only [spRate, spTr] <;> (repeat (first | rw [if_pos (by omega)] | rw [if_neg (by omega)])) <;> first | rfl | omega)) (mv_ri (by rfl)) rfl rfl dX11_rate_27
    · refine V_aload_n X dX11_rate_13 rfl ?_
      refine V_get X fl_X11_19 0 0 rfl rfl rfl dX11_rate_14 ?_
      refine V_iload_n X dX11_rate_17 rfl ?_
      refine V_callV (rest := []) X (c_X7_has (Cl C) G b w v n k p (by first | assumption | omega) (by first | assumption | omega)) mi_X7_has kw_2_169 kw_2_170 kw_2_171 dX11_rate_18 [1] rfl (by decide) 1 0 rfl rfl rfl rfl rfl rfl (by decide) (Nat.le_of_ble_eq_true rfl) ⟨rfl, rfl⟩ (fun u_ hu_4 => ?_)
      obtain ⟨b_3, rfl⟩ : ∃ z, z = u_ := ⟨_, rfl⟩
      have hu_4 : (b_3 = 1 ∧ 0 ≤ p ∧ p < (n : Int)) ∨ (b_3 = 0 ∧ (p < 0 ∨ (n : Int) ≤ p)) := hu_4
      show V C 0 0 [gMoot G a (fun j => im j 0) kd re (b 0) (c 0) pa fa (nF kk) (nF ts) (sF bt) (sF sp) (nF qu) (iI bs) (lN tr), gRoll G b (nF w) (nF v) (nI n) (nI k), gMo G c (nF wh) (nF de) t (nI sv) (nI vt) (nI ps), gObj (kd 0) 4, gObj (kd 1) 0, gObj (kd 2) 2, gObj (kd 3) 8, gObj (kd 4) 10, gObj (kd 5) 9] 21 [some (.ref (a 0)), some (.int (iI x)), some (.int (iI p)), none] [.int (nI b_3)]
      refine V_if_neN X 28 dX11_rate_21 (by decide) (by omega) (fun c_5 => ?_) (fun c_5 => ?_)
      · refine V_loc (y := (nI p.toNat)) 2 rfl (mv_sn (by omega)) ?_
        obtain ⟨K, hK⟩ : ∃ K : Nat, K = x.toNat := ⟨_, rfl⟩
        refine V_loc (y := (nI K)) 1 rfl (by rw [hK]; exact mv_sn (by omega)) ?_
        rcases (show K = 0 ∨ K = 1 ∨ K = 2 ∨ K = 3 ∨ K = 4 ∨ K = 5 from by omega) with rfl | rfl | rfl | rfl | rfl | rfl
        · refine V_aload_n X dX11_rate_28 rfl ?_
          refine V_get X fl_X11_54 0 0 rfl rfl rfl dX11_rate_29 ?_
          refine V_iload_n X dX11_rate_32 rfl ?_
          refine V_aaldN X (t0 := 4) 0 3 rfl rfl rfl (by decide) (by decide) dX11_rate_33 ?_
          refine V_astore_n X dX11_rate_34 (by decide) rfl ?_
          refine V_aload_n X dX11_rate_35 rfl ?_
          refine V_ifnonnull X 45 dX11_rate_36 (by decide) ?_
          refine V_aload_n X dX11_rate_45 rfl ?_
          refine V_aload_n X dX11_rate_46 rfl ?_
          refine V_iload_n X dX11_rate_47 rfl ?_
          refine V_callV (rest := []) X (c_X4_rated (Cl C) G a im kd re pa fa b c kk ts bt sp qu bs tr w v n k (kd 0) p.toNat (by first | assumption | omega)) mi_X4_rated kw_3_161 kw_3_162 kw_3_163 dX11_rate_48 [0, 1] rfl (by decide) 3 0 rfl rfl rfl rfl rfl rfl (by decide) (Nat.le_of_ble_eq_true rfl) ⟨rfl, rfl⟩ (fun _ _ => ?_)
          show V C 0 0 [gMoot G a (fun j => im j 0) kd re (b 0) (c 0) pa fa (nF kk) (nF ts) (sF bt) (sF sp) (nF qu) (iI bs) (lN (tr + 1)), gRoll G b (nF w) (nF v) (nI n) (nI k), gMo G c (nF wh) (nF de) t (nI sv) (nI vt) (nI ps), gObj (kd 0) 4, gObj (kd 1) 0, gObj (kd 2) 2, gObj (kd 3) 8, gObj (kd 4) 10, gObj (kd 5) 9] 51 [some (.ref (a 0)), some (.int (nI 0)), some (.int (nI p.toNat)), some (.ref (kd 0))] [.int (nI (w p.toNat))]
          exact V_iret X Y ⟨((w p.toNat : Nat) : Int), tr + 1⟩ (show ((w p.toNat : Nat) : Int) = spRate w v n wh de vt x p ∧ (tr + 1) = tr + spTr n x p from (by constructor <;> simp only [spRate, spTr] <;> (repeat (first | rw [if_pos (by omega)] | rw [if_neg (by omega)])) <;> first | rfl | omega)) (mv_ri (by rfl)) rfl rfl dX11_rate_51
        · refine V_aload_n X dX11_rate_28 rfl ?_
          refine V_get X fl_X11_54 0 0 rfl rfl rfl dX11_rate_29 ?_
          refine V_iload_n X dX11_rate_32 rfl ?_
          refine V_aaldN X (t0 := 4) 0 3 rfl rfl rfl (by decide) (by decide) dX11_rate_33 ?_
          refine V_astore_n X dX11_rate_34 (by decide) rfl ?_
          refine V_aload_n X dX11_rate_35 rfl ?_
          refine V_ifnonnull X 45 dX11_rate_36 (by decide) ?_
          refine V_aload_n X dX11_rate_45 rfl ?_
          refine V_aload_n X dX11_rate_46 rfl ?_
          refine V_iload_n X dX11_rate_47 rfl ?_
          refine V_callVO (rest := []) X (c_X0_rated (Cl C) G a im kd re pa fa b c kk ts bt sp qu bs tr w v n k (kd 1) 0 (RX0, TX0, 0) p.toNat (by first | assumption | omega) rfl) mi_X0_rated mi_X4_rated kw_3_161 kw_3_162 kw_3_166 kw_3_165 kw_3_164 dX11_rate_48 [0, 1, 4] rfl (by decide) 4 0 rfl rfl rfl rfl rfl (by decide) (Nat.le_of_ble_eq_true rfl) ⟨rfl, rfl⟩ (fun _ _ => ?_)
          show V C 0 0 [gMoot G a (fun j => im j 0) kd re (b 0) (c 0) pa fa (nF kk) (nF ts) (sF bt) (sF sp) (nF qu) (iI bs) (lN (tr + 10 + 1)), gRoll G b (nF w) (nF v) (nI n) (nI k), gMo G c (nF wh) (nF de) t (nI sv) (nI vt) (nI ps), gObj (kd 0) 4, gObj (kd 1) 0, gObj (kd 2) 2, gObj (kd 3) 8, gObj (kd 4) 10, gObj (kd 5) 9] 51 [some (.ref (a 0)), some (.int (nI 1)), some (.int (nI p.toNat)), some (.ref (kd 1))] [.int (nI (w p.toNat + v p.toNat))]
          exact V_iret X Y ⟨((w p.toNat + v p.toNat : Nat) : Int), tr + 10 + 1⟩ (show ((w p.toNat + v p.toNat : Nat) : Int) = spRate w v n wh de vt x p ∧ (tr + 10 + 1) = tr + spTr n x p from (by constructor <;> simp only [spRate, spTr] <;> (repeat (first | rw [if_pos (by omega)] | rw [if_neg (by omega)])) <;> first | rfl | omega)) (mv_ri (by rfl)) rfl rfl dX11_rate_51
        · refine V_aload_n X dX11_rate_28 rfl ?_
          refine V_get X fl_X11_54 0 0 rfl rfl rfl dX11_rate_29 ?_
          refine V_iload_n X dX11_rate_32 rfl ?_
          refine V_aaldN X (t0 := 4) 0 3 rfl rfl rfl (by decide) (by decide) dX11_rate_33 ?_
          refine V_astore_n X dX11_rate_34 (by decide) rfl ?_
          refine V_aload_n X dX11_rate_35 rfl ?_
          refine V_ifnonnull X 45 dX11_rate_36 (by decide) ?_
          refine V_aload_n X dX11_rate_45 rfl ?_
          refine V_aload_n X dX11_rate_46 rfl ?_
          refine V_iload_n X dX11_rate_47 rfl ?_
          refine V_callVO (rest := []) X (c_X2_rated (Cl C) G a im kd re pa fa b c kk ts bt sp qu bs tr w v n k wh de t sv vt ps (kd 2) 2 (RX2, TX2, 0) p.toNat (by first | assumption | omega) rfl (by first | assumption | omega)) mi_X2_rated mi_X4_rated kw_3_161 kw_3_162 kw_3_172 kw_3_171 kw_3_164 dX11_rate_48 [0, 1, 2, 5] rfl (by decide) 5 0 rfl rfl rfl rfl rfl (by decide) (Nat.le_of_ble_eq_true rfl) ⟨rfl, rfl⟩ (fun _ _ => ?_)
          show V C 0 0 [gMoot G a (fun j => im j 0) kd re (b 0) (c 0) pa fa (nF kk) (nF ts) (sF bt) (sF sp) (nF qu) (iI bs) (lN (tr + 100 + 1)), gRoll G b (nF w) (nF v) (nI n) (nI k), gMo G c (nF wh) (nF de) t (nI sv) (nI vt) (nI ps), gObj (kd 0) 4, gObj (kd 1) 0, gObj (kd 2) 2, gObj (kd 3) 8, gObj (kd 4) 10, gObj (kd 5) 9] 51 [some (.ref (a 0)), some (.int (nI 2)), some (.int (nI p.toNat)), some (.ref (kd 2))] [.int (iI ((w p.toNat : Int) - (de (wh p.toNat) : Int)))]
          exact V_iret X Y ⟨(w p.toNat : Int) - (de (wh p.toNat) : Int), tr + 100 + 1⟩ (show ((w p.toNat : Int) - (de (wh p.toNat) : Int)) = spRate w v n wh de vt x p ∧ (tr + 100 + 1) = tr + spTr n x p from (by constructor <;> simp only [spRate, spTr] <;> (repeat (first | rw [if_pos (by omega)] | rw [if_neg (by omega)])) <;> first | rfl | omega)) (mv_si (by rfl)) rfl rfl dX11_rate_51
        · refine V_aload_n X dX11_rate_28 rfl ?_
          refine V_get X fl_X11_54 0 0 rfl rfl rfl dX11_rate_29 ?_
          refine V_iload_n X dX11_rate_32 rfl ?_
          refine V_aaldN X (t0 := 4) 0 3 rfl rfl rfl (by decide) (by decide) dX11_rate_33 ?_
          refine V_astore_n X dX11_rate_34 (by decide) rfl ?_
          refine V_aload_n X dX11_rate_35 rfl ?_
          refine V_ifnonnull X 45 dX11_rate_36 (by decide) ?_
          refine V_aload_n X dX11_rate_45 rfl ?_
          refine V_aload_n X dX11_rate_46 rfl ?_
          refine V_iload_n X dX11_rate_47 rfl ?_
          refine V_callVO (rest := []) X (c_X8_rated (Cl C) G a im kd re pa fa b c kk ts bt sp qu bs tr w v n k (kd 3) 8 (RX8, TX8, 0) p.toNat (by first | assumption | omega) rfl) mi_X8_rated mi_X4_rated kw_3_161 kw_3_162 kw_3_179 kw_3_178 kw_3_164 dX11_rate_48 [0, 1, 6] rfl (by decide) 6 0 rfl rfl rfl rfl rfl (by decide) (Nat.le_of_ble_eq_true rfl) ⟨rfl, rfl⟩ (fun _ _ => ?_)
          show V C 0 0 [gMoot G a (fun j => im j 0) kd re (b 0) (c 0) pa fa (nF kk) (nF ts) (sF bt) (sF sp) (nF qu) (iI bs) (lN (tr + 1000 + 10 + 1)), gRoll G b (nF w) (nF v) (nI n) (nI k), gMo G c (nF wh) (nF de) t (nI sv) (nI vt) (nI ps), gObj (kd 0) 4, gObj (kd 1) 0, gObj (kd 2) 2, gObj (kd 3) 8, gObj (kd 4) 10, gObj (kd 5) 9] 51 [some (.ref (a 0)), some (.int (nI 3)), some (.int (nI p.toNat)), some (.ref (kd 3))] [.int (nI (2 * (w p.toNat + v p.toNat)))]
          exact V_iret X Y ⟨((2 * (w p.toNat + v p.toNat) : Nat) : Int), tr + 1000 + 10 + 1⟩ (show ((2 * (w p.toNat + v p.toNat) : Nat) : Int) = spRate w v n wh de vt x p ∧ (tr + 1000 + 10 + 1) = tr + spTr n x p from (by constructor <;> simp only [spRate, spTr] <;> (repeat (first | rw [if_pos (by omega)] | rw [if_neg (by omega)])) <;> first | rfl | omega)) (mv_ri (by rfl)) rfl rfl dX11_rate_51
        · refine V_aload_n X dX11_rate_28 rfl ?_
          refine V_get X fl_X11_54 0 0 rfl rfl rfl dX11_rate_29 ?_
          refine V_iload_n X dX11_rate_32 rfl ?_
          refine V_aaldN X (t0 := 4) 0 3 rfl rfl rfl (by decide) (by decide) dX11_rate_33 ?_
          refine V_astore_n X dX11_rate_34 (by decide) rfl ?_
          refine V_aload_n X dX11_rate_35 rfl ?_
          refine V_ifnonnull X 45 dX11_rate_36 (by decide) ?_
          refine V_aload_n X dX11_rate_45 rfl ?_
          refine V_aload_n X dX11_rate_46 rfl ?_
          refine V_iload_n X dX11_rate_47 rfl ?_
          refine V_callVO (rest := []) X (c_X10_rated (Cl C) G a im kd re pa fa b c kk ts bt sp qu bs tr w v n k wh de t sv vt ps (kd 4) 10 (RX10, TX10, 0) p.toNat (by first | assumption | omega) rfl (by first | assumption | omega)) mi_X10_rated mi_X4_rated kw_3_161 kw_3_162 kw_3_189 kw_3_188 kw_3_164 dX11_rate_48 [0, 1, 2, 7] rfl (by decide) 7 0 rfl rfl rfl rfl rfl (by decide) (Nat.le_of_ble_eq_true rfl) ⟨rfl, rfl⟩ (fun _ _ => ?_)
          show V C 0 0 [gMoot G a (fun j => im j 0) kd re (b 0) (c 0) pa fa (nF kk) (nF ts) (sF bt) (sF sp) (nF qu) (iI bs) (lN (tr + 10000 + 100 + 1)), gRoll G b (nF w) (nF v) (nI n) (nI k), gMo G c (nF wh) (nF de) t (nI sv) (nI vt) (nI ps), gObj (kd 0) 4, gObj (kd 1) 0, gObj (kd 2) 2, gObj (kd 3) 8, gObj (kd 4) 10, gObj (kd 5) 9] 51 [some (.ref (a 0)), some (.int (nI 4)), some (.int (nI p.toNat)), some (.ref (kd 4))] [.int (iI ((w p.toNat : Int) - (de (wh p.toNat) : Int) + (p.toNat : Int)))]
          exact V_iret X Y ⟨(w p.toNat : Int) - (de (wh p.toNat) : Int) + (p.toNat : Int), tr + 10000 + 100 + 1⟩ (show ((w p.toNat : Int) - (de (wh p.toNat) : Int) + (p.toNat : Int)) = spRate w v n wh de vt x p ∧ (tr + 10000 + 100 + 1) = tr + spTr n x p from (by constructor <;> simp only [spRate, spTr] <;> (repeat (first | rw [if_pos (by omega)] | rw [if_neg (by omega)])) <;> first | rfl | omega)) (mv_si (by rfl)) rfl rfl dX11_rate_51
        · refine V_aload_n X dX11_rate_28 rfl ?_
          refine V_get X fl_X11_54 0 0 rfl rfl rfl dX11_rate_29 ?_
          refine V_iload_n X dX11_rate_32 rfl ?_
          refine V_aaldN X (t0 := 4) 0 3 rfl rfl rfl (by decide) (by decide) dX11_rate_33 ?_
          refine V_astore_n X dX11_rate_34 (by decide) rfl ?_
          refine V_aload_n X dX11_rate_35 rfl ?_
          refine V_ifnonnull X 45 dX11_rate_36 (by decide) ?_
          refine V_aload_n X dX11_rate_45 rfl ?_
          refine V_aload_n X dX11_rate_46 rfl ?_
          refine V_iload_n X dX11_rate_47 rfl ?_
          refine V_callVO (rest := []) X (c_X9_rated (Cl C) G a im kd re pa fa b c kk ts bt sp qu bs tr w v n k wh de t sv vt ps (kd 5) 9 (RX9, TX9, 0) p.toNat (by first | assumption | omega) rfl) mi_X9_rated mi_X4_rated kw_3_161 kw_3_162 kw_3_184 kw_3_183 kw_3_164 dX11_rate_48 [0, 1, 2, 8] rfl (by decide) 8 0 rfl rfl rfl rfl rfl (by decide) (Nat.le_of_ble_eq_true rfl) ⟨rfl, rfl⟩ (fun _ _ => ?_)
          show V C 0 0 [gMoot G a (fun j => im j 0) kd re (b 0) (c 0) pa fa (nF kk) (nF ts) (sF bt) (sF sp) (nF qu) (iI bs) (lN (tr + 100000 + 1)), gRoll G b (nF w) (nF v) (nI n) (nI k), gMo G c (nF wh) (nF de) t (nI sv) (nI vt) (nI ps), gObj (kd 0) 4, gObj (kd 1) 0, gObj (kd 2) 2, gObj (kd 3) 8, gObj (kd 4) 10, gObj (kd 5) 9] 51 [some (.ref (a 0)), some (.int (nI 5)), some (.int (nI p.toNat)), some (.ref (kd 5))] [.int (nI (w p.toNat + vt))]
          exact V_iret X Y ⟨((w p.toNat + vt : Nat) : Int), tr + 100000 + 1⟩ (show ((w p.toNat + vt : Nat) : Int) = spRate w v n wh de vt x p ∧ (tr + 100000 + 1) = tr + spTr n x p from (by constructor <;> simp only [spRate, spTr] <;> (repeat (first | rw [if_pos (by omega)] | rw [if_neg (by omega)])) <;> first | rfl | omega)) (mv_ri (by rfl)) rfl rfl dX11_rate_51
      · refine V_ldcw X kw_3_160 dX11_rate_24 ?_
        exact V_iret X Y ⟨-1000000, tr⟩ (show (-1000000) = spRate w v n wh de vt x p ∧ tr = tr + spTr n x p from (by constructor <;> simp only [spRate, spTr] <;> (repeat (first | rw [if_pos (by omega)] | rw [if_neg (by omega)])) <;> first | rfl | omega)) (mv_ri (by rfl)) rfl rfl dX11_rate_27
